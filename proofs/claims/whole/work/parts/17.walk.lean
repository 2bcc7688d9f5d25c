/-! stores with the new locals named; a state under another name -/
def jmax (x y : Int32) : Int32 := if x < y then y else x
def jmin (x y : Int32) : Int32 := if y < x then y else x
section WALKE
variable {G : GP} {X : CX} {M : MI} {cu su : Nat} {S : Shp} {I I' : Hi} {R R' : Hr} {L L' : Hl} {pc : Nat} {ls st : List Value}
theorem aw_istore_nE (hX : XOK G X M) {q : Fin 4} (i : Nat) {x : Int32} (ls' : List Value) (hd : decode (mC M) pc = .ok (.istore_n q, 1)) (hi : (q : Nat) = i) (hn : i < mL M) (ho : okl ls i = true) (hls : ls.set i (.int x) = ls') (k : AW G X cu su S I R L (pc + 1) ls' st) : AW G X cu su S I R L pc ls (.int x :: st) := aw_istore_n hX i hd hi hn ho (by rw [hls]; exact k)
theorem aw_istoreE (hX : XOK G X M) {i : Nat} {x : Int32} (ls' : List Value) (hd : decode (mC M) pc = .ok (.istore i, 2)) (hn : i < mL M) (ho : okl ls i = true) (hls : ls.set i (.int x) = ls') (k : AW G X cu su S I R L (pc + 2) ls' st) : AW G X cu su S I R L pc ls (.int x :: st) := aw_istore hX hd hn ho (by rw [hls]; exact k)
theorem aw_astore_nE (hX : XOK G X M) {q : Fin 4} (i : Nat) {x : Nat} (ls' : List Value) (hd : decode (mC M) pc = .ok (.astore_n q, 1)) (hi : (q : Nat) = i) (hn : i < mL M) (ho : okl ls i = true) (hls : ls.set i (.ref x) = ls') (k : AW G X cu su S I R L (pc + 1) ls' st) : AW G X cu su S I R L pc ls (.ref x :: st) := aw_astore_n hX i hd hi hn ho (by rw [hls]; exact k)
theorem aw_lstore_nE (hX : XOK G X M) {q : Fin 4} (i : Nat) {x : Int64} (ls' : List Value) (hd : decode (mC M) pc = .ok (.lstore_n q, 1)) (hi : (q : Nat) = i) (hn : i + 1 < mL M) (ho : okl ls i = true) (hls : (ls.set i (.long x)).set (i + 1) .null = ls') (k : AW G X cu su S I R L (pc + 1) ls' st) : AW G X cu su S I R L pc ls (.long x :: st) := aw_lstore_n hX i hd hi hn ho (by rw [hls]; exact k)
theorem aw_lstoreE (hX : XOK G X M) {i : Nat} {x : Int64} (ls' : List Value) (hd : decode (mC M) pc = .ok (.lstore i, 2)) (hn : i + 1 < mL M) (ho : okl ls i = true) (hls : (ls.set i (.long x)).set (i + 1) .null = ls') (k : AW G X cu su S I R L (pc + 2) ls' st) : AW G X cu su S I R L pc ls (.long x :: st) := aw_lstore hX hd hn ho (by rw [hls]; exact k)
theorem aw_iincE (hX : XOK G X M) {i : Nat} {n : Int} {x : Int32} (v : Int32) (ls' : List Value) (hd : decode (mC M) pc = .ok (.iinc i n, 3)) (hl : ls[i]? = some (.int x)) (hv : x + Int32.ofInt n = v) (hn : i < mL M) (ho : okl ls i = true) (hls : ls.set i (.int v) = ls') (k : AW G X cu su S I R L (pc + 3) ls' st) : AW G X cu su S I R L pc ls st := aw_iinc hX v hd hl hv hn ho (by rw [hls]; exact k)
theorem AW.iEq (h : some I = some I') (k : AW G X cu su S I' R L pc ls st) : AW G X cu su S I R L pc ls st := by cases h; exact k
theorem AW.lEq (h : some L = some L') (k : AW G X cu su S I R L' pc ls st) : AW G X cu su S I R L pc ls st := by cases h; exact k
theorem AW.rEq (h : R = R') (k : AW G X cu su S I R' L pc ls st) : AW G X cu su S I R L pc ls st := by cases h; exact k
theorem R0_c {c d e : Nat} : u2 (R0 c d) 0 1 (some e) = R0 e d := by
  funext a j
  by_cases ha : a = 0
  · subst ha
    by_cases hj : j = 1
    · subst hj; rfl
    · rw [u2_c hj]
      show pRef c d j = pRef e d j
      unfold pRef
      split <;> simp_all
  · rw [u2_r ha]
    have h0 : (a == 0) = false := by simpa using ha
    simp only [R0, h0]
    rfl
theorem R0_d {c d e : Nat} : u2 (R0 c d) 0 2 (some e) = R0 c e := by
  funext a j
  by_cases ha : a = 0
  · subst ha
    by_cases hj : j = 2
    · subst hj; rfl
    · rw [u2_c hj]
      show pRef c d j = pRef c e j
      unfold pRef
      split <;> simp_all
  · rw [u2_r ha]
    have h0 : (a == 0) = false := by simpa using ha
    simp only [R0, h0]
    rfl
theorem aw_max (hX : XOK G X M) {idx : Nat} {x y : Int32} (hd : decode (mC M) pc = .ok (.invokestatic idx, 3)) (hl : Cond.methodLink (mY M).cls idx Lib.Math.max.name ∈ gtbl) (hst : Cond.static Lib.Math.max.name ∈ gtbl) (hin : Cond.initialized "java/lang/Math" ∈ gtbl) (hco : Cond.code Lib.Math.max.name Lib.Math.max.code 2 (some .int) ∈ gtbl) (hfr : 1 ≤ mFr M) (hlo : (st.map fun v => v.category).sum + 13 ≤ mLo M) (hce : cu ≤ mCe M) (hsl : su ≤ mSl M) (k : AW G X cu su S I R L (pc + 3) ls (.int (jmax x y) :: st)) : AW G X cu su S I R L pc ls (.int y :: .int x :: st) := by
  obtain ⟨p, e, Rm, s, m, args, below, meth, c, Z⟩ := X
  obtain ⟨hx, hb, hml, hown, hts, hr, hlk, hnm, hrm, hG⟩ := hX
  intro H locs la h1 h2 h3 h4
  exact va_mmax hx hb h4.1.symm hown (hts _ hl) (hts _ hst) (hts _ hin) (hts _ hco) (by rw [hrm]; exact hfr) (by rw [hrm, rv_cats]; exact hlo) (by rw [hrm]; exact hce) (by rw [hrm]; exact hsl) hd (k H locs la h1 h2 h3 h4)
theorem aw_min (hX : XOK G X M) {idx : Nat} {x y : Int32} (hd : decode (mC M) pc = .ok (.invokestatic idx, 3)) (hl : Cond.methodLink (mY M).cls idx Lib.Math.min.name ∈ gtbl) (hst : Cond.static Lib.Math.min.name ∈ gtbl) (hin : Cond.initialized "java/lang/Math" ∈ gtbl) (hco : Cond.code Lib.Math.min.name Lib.Math.min.code 2 (some .int) ∈ gtbl) (hfr : 1 ≤ mFr M) (hlo : (st.map fun v => v.category).sum + 13 ≤ mLo M) (hce : cu ≤ mCe M) (hsl : su ≤ mSl M) (k : AW G X cu su S I R L (pc + 3) ls (.int (jmin x y) :: st)) : AW G X cu su S I R L pc ls (.int y :: .int x :: st) := by
  obtain ⟨p, e, Rm, s, m, args, below, meth, c, Z⟩ := X
  obtain ⟨hx, hb, hml, hown, hts, hr, hlk, hnm, hrm, hG⟩ := hX
  intro H locs la h1 h2 h3 h4
  exact va_mmin hx hb h4.1.symm hown (hts _ hl) (hts _ hst) (hts _ hin) (hts _ hco) (by rw [hrm]; exact hfr) (by rw [hrm, rv_cats]; exact hlo) (by rw [hrm]; exact hce) (by rw [hrm]; exact hsl) hd (k H locs la h1 h2 h3 h4)
end WALKE
