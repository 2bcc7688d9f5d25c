/-! methods: name, code, locals, answer, room (frames, locals, cells, slots) -/
abbrev MI : Type := MethodName × ByteArray × Nat × Option FieldType × Nat × Nat × Nat × Nat
abbrev mY (M : MI) : MethodName := M.1
abbrev mC (M : MI) : ByteArray := M.2.1
abbrev mL (M : MI) : Nat := M.2.2.1
abbrev mT (M : MI) : Option FieldType := M.2.2.2.1
abbrev mFr (M : MI) : Nat := M.2.2.2.2.1
abbrev mLo (M : MI) : Nat := M.2.2.2.2.2.1
abbrev mCe (M : MI) : Nat := M.2.2.2.2.2.2.1
abbrev mSl (M : MI) : Nat := M.2.2.2.2.2.2.2
def mRm (M : MI) : Room := { frames := mFr M, cells := mCe M, slots := mSl M, locals := mLo M }
/-- what holds of a machine state in every frame -/
def GOK (G : GP) (U : State) : Prop := va_K (gD G) vwCl (gT G) U ∧ (∀ w ∈ ntbl, va_Nw w U) ∧ va_AO RX3 U ∧ va_X (gB G) (gL G) (gX G) U U.heap ∧ gB G < gN G ∧ gN G ≤ U.heap.size
theorem GOK.moved {G : GP} {s U : State} (h : GOK G s) (hW : s.WarmedH U.vm) (hq : U.heap[gB G]? = s.heap[gB G]?) (hz : gN G ≤ U.heap.size) : GOK G U := by
  obtain ⟨h1, h2, h3, h4, h5, h6⟩ := h
  refine ⟨h1.moved hW.alike, fun w hw => ?_, h3.moved hW.alike, (h4.moved hW.alike).kept hq, h5, hz⟩
  have h7 := h2 w hw
  have h8 := (List.mem_filter.mp hw).2
  cases w <;> first | exact va_Nw.warmM hW h7 | exact absurd h8 (by simp [isNest])
abbrev CX : Type := Program × Env × Room × State × MethodId × Array Value × List Frame × Method × Code × (State → Prop)
/-- the frame of method M -/
def XOK (G : GP) (X : CX) (M : MI) : Prop := match X with
  | (p, _, Rm, s, m, args, _, meth, c, _) => p.tables.exec = Jvm.exec ∧ c.code = mC M ∧ c.maxLocals = mL M ∧ s.vm.findClass (mY M).cls = some m.cls ∧ (∀ w ∈ gtbl, w.before args s = true) ∧ meth.sig.returnType = mT M ∧ meth.locks = false ∧ ((mY M).name = "<init>" → meth.name = "<init>") ∧ Rm = mRm M ∧ GOK G s
/-- from this abstract state the machine comes to its end -/
def AW (G : GP) (X : CX) (cu su : Nat) (S : Shp) (I : Hi) (R : Hr) (L : Hl) (pc : Nat) (ls st : List Value) : Prop := match X with
  | (p, e, Rm, s, m, args, below, meth, c, Z) => ∀ (H : Heap) (locs : List Loc) (la : Array Slot), s.heap.size + cu = gN G + S.length → va_P (gD G) vwCl (wd G S I R L) H → va_S (gA G) s.heap H locs → lrel G la c.maxLocals ls → W p (gl G) e Rm s m args below meth c H locs cu su Z (F0 m pc la (st.map (rv G)))
section RULES
variable {G : GP} {X : CX} {M : MI} {cu su : Nat} {S : Shp} {I : Hi} {R : Hr} {L : Hl} {pc : Nat} {ls st : List Value}
theorem aw_iconst (hX : XOK G X M) {n : Int} (v : Int32) (hd : decode (mC M) pc = .ok (.iconst n, 1)) (hv : Int32.ofInt n = v) (k : AW G X cu su S I R L (pc + 1) ls (.int v :: st)) : AW G X cu su S I R L pc ls (st) := by
  obtain ⟨p, e, Rm, s, m, args, below, meth, c, Z⟩ := X
  obtain ⟨hx, hb, hml, hown, hts, hr, hlk, hnm, hrm, hG⟩ := hX
  intro H locs la h1 h2 h3 h4
  exact lv_iconst hx hb hd hv (k H locs la h1 h2 h3 h4)
theorem aw_bipush (hX : XOK G X M) {n : Int} (v : Int32) (hd : decode (mC M) pc = .ok (.bipush n, 2)) (hv : (Int8.ofInt n).toInt32 = v) (k : AW G X cu su S I R L (pc + 2) ls (.int v :: st)) : AW G X cu su S I R L pc ls (st) := by
  obtain ⟨p, e, Rm, s, m, args, below, meth, c, Z⟩ := X
  obtain ⟨hx, hb, hml, hown, hts, hr, hlk, hnm, hrm, hG⟩ := hX
  intro H locs la h1 h2 h3 h4
  exact lv_bipush hx hb hd hv (k H locs la h1 h2 h3 h4)
theorem aw_sipush (hX : XOK G X M) {n : Int} (v : Int32) (hd : decode (mC M) pc = .ok (.sipush n, 3)) (hv : (Int16.ofInt n).toInt32 = v) (k : AW G X cu su S I R L (pc + 3) ls (.int v :: st)) : AW G X cu su S I R L pc ls (st) := by
  obtain ⟨p, e, Rm, s, m, args, below, meth, c, Z⟩ := X
  obtain ⟨hx, hb, hml, hown, hts, hr, hlk, hnm, hrm, hG⟩ := hX
  intro H locs la h1 h2 h3 h4
  exact lv_sipush hx hb hd hv (k H locs la h1 h2 h3 h4)
theorem aw_lconst (hX : XOK G X M) {n : Fin 2} (v : Int64) (hd : decode (mC M) pc = .ok (.lconst n, 1)) (hv : Int64.ofNat (n : Nat) = v) (k : AW G X cu su S I R L (pc + 1) ls (.long v :: st)) : AW G X cu su S I R L pc ls (st) := by
  obtain ⟨p, e, Rm, s, m, args, below, meth, c, Z⟩ := X
  obtain ⟨hx, hb, hml, hown, hts, hr, hlk, hnm, hrm, hG⟩ := hX
  intro H locs la h1 h2 h3 h4
  exact lv_lconst hx hb hd hv (k H locs la h1 h2 h3 h4)
theorem aw_ldc (hX : XOK G X M) {i : Nat} {v : Int32} (hd : decode (mC M) pc = .ok (.ldc i, 2)) (hc : Cond.constant (mY M).cls i v ∈ gtbl) (k : AW G X cu su S I R L (pc + 2) ls (.int v :: st)) : AW G X cu su S I R L pc ls (st) := by
  obtain ⟨p, e, Rm, s, m, args, below, meth, c, Z⟩ := X
  obtain ⟨hx, hb, hml, hown, hts, hr, hlk, hnm, hrm, hG⟩ := hX
  intro H locs la h1 h2 h3 h4
  exact lv_ldc hx hb hown (hts _ hc) hd (k H locs la h1 h2 h3 h4)
theorem aw_ldcw (hX : XOK G X M) {i : Nat} {v : Int32} (hd : decode (mC M) pc = .ok (.ldc_w i, 3)) (hc : Cond.constant (mY M).cls i v ∈ gtbl) (k : AW G X cu su S I R L (pc + 3) ls (.int v :: st)) : AW G X cu su S I R L pc ls (st) := by
  obtain ⟨p, e, Rm, s, m, args, below, meth, c, Z⟩ := X
  obtain ⟨hx, hb, hml, hown, hts, hr, hlk, hnm, hrm, hG⟩ := hX
  intro H locs la h1 h2 h3 h4
  exact lv_ldcw hx hb hown (hts _ hc) hd (k H locs la h1 h2 h3 h4)
theorem aw_ldc2 (hX : XOK G X M) {i : Nat} {v : Int64} (hd : decode (mC M) pc = .ok (.ldc2_w i, 3)) (hc : Cond.constantLong (mY M).cls i v ∈ gtbl) (k : AW G X cu su S I R L (pc + 3) ls (.long v :: st)) : AW G X cu su S I R L pc ls (st) := by
  obtain ⟨p, e, Rm, s, m, args, below, meth, c, Z⟩ := X
  obtain ⟨hx, hb, hml, hown, hts, hr, hlk, hnm, hrm, hG⟩ := hX
  intro H locs la h1 h2 h3 h4
  exact lv_ldc2 hx hb hown (hts _ hc) hd (k H locs la h1 h2 h3 h4)
theorem aw_iload_n (hX : XOK G X M) {q : Fin 4} (i : Nat) {x : Int32} (hd : decode (mC M) pc = .ok (.iload_n q, 1)) (hi : (q : Nat) = i) (hl : ls[i]? = some (.int x)) (k : AW G X cu su S I R L (pc + 1) ls (.int x :: st)) : AW G X cu su S I R L pc ls (st) := by
  obtain ⟨p, e, Rm, s, m, args, below, meth, c, Z⟩ := X
  obtain ⟨hx, hb, hml, hown, hts, hr, hlk, hnm, hrm, hG⟩ := hX
  intro H locs la h1 h2 h3 h4
  exact lv_iload_n hx hb hd hi (h4.2.2 _ _ hl (by intro h; cases h)) (k H locs la h1 h2 h3 h4)
theorem aw_iload (hX : XOK G X M) {i : Nat} {x : Int32} (hd : decode (mC M) pc = .ok (.iload i, 2)) (hl : ls[i]? = some (.int x)) (k : AW G X cu su S I R L (pc + 2) ls (.int x :: st)) : AW G X cu su S I R L pc ls (st) := by
  obtain ⟨p, e, Rm, s, m, args, below, meth, c, Z⟩ := X
  obtain ⟨hx, hb, hml, hown, hts, hr, hlk, hnm, hrm, hG⟩ := hX
  intro H locs la h1 h2 h3 h4
  exact lv_iload hx hb hd (h4.2.2 _ _ hl (by intro h; cases h)) (k H locs la h1 h2 h3 h4)
theorem aw_lload_n (hX : XOK G X M) {q : Fin 4} (i : Nat) {x : Int64} (hd : decode (mC M) pc = .ok (.lload_n q, 1)) (hi : (q : Nat) = i) (hl : ls[i]? = some (.long x)) (k : AW G X cu su S I R L (pc + 1) ls (.long x :: st)) : AW G X cu su S I R L pc ls (st) := by
  obtain ⟨p, e, Rm, s, m, args, below, meth, c, Z⟩ := X
  obtain ⟨hx, hb, hml, hown, hts, hr, hlk, hnm, hrm, hG⟩ := hX
  intro H locs la h1 h2 h3 h4
  exact lv_lload_n hx hb hd hi (h4.2.2 _ _ hl (by intro h; cases h)) (k H locs la h1 h2 h3 h4)
theorem aw_lload (hX : XOK G X M) {i : Nat} {x : Int64} (hd : decode (mC M) pc = .ok (.lload i, 2)) (hl : ls[i]? = some (.long x)) (k : AW G X cu su S I R L (pc + 2) ls (.long x :: st)) : AW G X cu su S I R L pc ls (st) := by
  obtain ⟨p, e, Rm, s, m, args, below, meth, c, Z⟩ := X
  obtain ⟨hx, hb, hml, hown, hts, hr, hlk, hnm, hrm, hG⟩ := hX
  intro H locs la h1 h2 h3 h4
  exact lv_lload hx hb hd (h4.2.2 _ _ hl (by intro h; cases h)) (k H locs la h1 h2 h3 h4)
theorem aw_aload_n (hX : XOK G X M) {q : Fin 4} (i : Nat) {x : Nat} (hd : decode (mC M) pc = .ok (.aload_n q, 1)) (hi : (q : Nat) = i) (hl : ls[i]? = some (.ref x)) (k : AW G X cu su S I R L (pc + 1) ls (.ref x :: st)) : AW G X cu su S I R L pc ls (st) := by
  obtain ⟨p, e, Rm, s, m, args, below, meth, c, Z⟩ := X
  obtain ⟨hx, hb, hml, hown, hts, hr, hlk, hnm, hrm, hG⟩ := hX
  intro H locs la h1 h2 h3 h4
  exact lv_aload_n hx hb hd hi (h4.2.2 _ _ hl (by intro h; cases h)) (k H locs la h1 h2 h3 h4)
theorem aw_aload (hX : XOK G X M) {i : Nat} {x : Nat} (hd : decode (mC M) pc = .ok (.aload i, 2)) (hl : ls[i]? = some (.ref x)) (k : AW G X cu su S I R L (pc + 2) ls (.ref x :: st)) : AW G X cu su S I R L pc ls (st) := by
  obtain ⟨p, e, Rm, s, m, args, below, meth, c, Z⟩ := X
  obtain ⟨hx, hb, hml, hown, hts, hr, hlk, hnm, hrm, hG⟩ := hX
  intro H locs la h1 h2 h3 h4
  exact lv_aload hx hb hd (h4.2.2 _ _ hl (by intro h; cases h)) (k H locs la h1 h2 h3 h4)
theorem aw_sload_n (hX : XOK G X M) {q : Fin 4} (i : Nat) {x : UInt32} (hd : decode (mC M) pc = .ok (.aload_n q, 1)) (hi : (q : Nat) = i) (hl : ls[i]? = some (.float x)) (k : AW G X cu su S I R L (pc + 1) ls (.float x :: st)) : AW G X cu su S I R L pc ls (st) := by
  obtain ⟨p, e, Rm, s, m, args, below, meth, c, Z⟩ := X
  obtain ⟨hx, hb, hml, hown, hts, hr, hlk, hnm, hrm, hG⟩ := hX
  intro H locs la h1 h2 h3 h4
  exact lv_aload_n hx hb hd hi (h4.2.2 _ _ hl (by intro h; cases h)) (k H locs la h1 h2 h3 h4)
theorem aw_istore_n (hX : XOK G X M) {q : Fin 4} (i : Nat) {x : Int32} (hd : decode (mC M) pc = .ok (.istore_n q, 1)) (hi : (q : Nat) = i) (hn : i < mL M) (ho : okl ls i = true) (k : AW G X cu su S I R L (pc + 1) (ls.set i (.int x)) st) : AW G X cu su S I R L pc ls (.int x :: st) := by
  obtain ⟨p, e, Rm, s, m, args, below, meth, c, Z⟩ := X
  obtain ⟨hx, hb, hml, hown, hts, hr, hlk, hnm, hrm, hG⟩ := hX
  intro H locs la h1 h2 h3 h4
  exact lv_istore_n hx hb hd hi h4.has (by rw [hml]; exact hn) rfl (fun la2 h5 => k H locs la2 h1 h2 h3 (lrel.store1 (v := .int x) ho h5))
theorem aw_istore (hX : XOK G X M) {i : Nat} {x : Int32} (hd : decode (mC M) pc = .ok (.istore i, 2)) (hn : i < mL M) (ho : okl ls i = true) (k : AW G X cu su S I R L (pc + 2) (ls.set i (.int x)) st) : AW G X cu su S I R L pc ls (.int x :: st) := by
  obtain ⟨p, e, Rm, s, m, args, below, meth, c, Z⟩ := X
  obtain ⟨hx, hb, hml, hown, hts, hr, hlk, hnm, hrm, hG⟩ := hX
  intro H locs la h1 h2 h3 h4
  exact lv_istore hx hb hd h4.has (by rw [hml]; exact hn) rfl (fun la2 h5 => k H locs la2 h1 h2 h3 (lrel.store1 (v := .int x) ho h5))
theorem aw_astore_n (hX : XOK G X M) {q : Fin 4} (i : Nat) {x : Nat} (hd : decode (mC M) pc = .ok (.astore_n q, 1)) (hi : (q : Nat) = i) (hn : i < mL M) (ho : okl ls i = true) (k : AW G X cu su S I R L (pc + 1) (ls.set i (.ref x)) st) : AW G X cu su S I R L pc ls (.ref x :: st) := by
  obtain ⟨p, e, Rm, s, m, args, below, meth, c, Z⟩ := X
  obtain ⟨hx, hb, hml, hown, hts, hr, hlk, hnm, hrm, hG⟩ := hX
  intro H locs la h1 h2 h3 h4
  exact lv_astore_n hx hb hd hi h4.has (by rw [hml]; exact hn) rfl (fun la2 h5 => k H locs la2 h1 h2 h3 (lrel.store1 (v := .ref x) ho h5))
theorem aw_astore (hX : XOK G X M) {i : Nat} {x : Nat} (hd : decode (mC M) pc = .ok (.astore i, 2)) (hn : i < mL M) (ho : okl ls i = true) (k : AW G X cu su S I R L (pc + 2) (ls.set i (.ref x)) st) : AW G X cu su S I R L pc ls (.ref x :: st) := by
  obtain ⟨p, e, Rm, s, m, args, below, meth, c, Z⟩ := X
  obtain ⟨hx, hb, hml, hown, hts, hr, hlk, hnm, hrm, hG⟩ := hX
  intro H locs la h1 h2 h3 h4
  exact lv_astore hx hb hd h4.has (by rw [hml]; exact hn) rfl (fun la2 h5 => k H locs la2 h1 h2 h3 (lrel.store1 (v := .ref x) ho h5))
theorem aw_lstore_n (hX : XOK G X M) {q : Fin 4} (i : Nat) {x : Int64} (hd : decode (mC M) pc = .ok (.lstore_n q, 1)) (hi : (q : Nat) = i) (hn : i + 1 < mL M) (ho : okl ls i = true) (k : AW G X cu su S I R L (pc + 1) ((ls.set i (.long x)).set (i + 1) .null) st) : AW G X cu su S I R L pc ls (.long x :: st) := by
  obtain ⟨p, e, Rm, s, m, args, below, meth, c, Z⟩ := X
  obtain ⟨hx, hb, hml, hown, hts, hr, hlk, hnm, hrm, hG⟩ := hX
  intro H locs la h1 h2 h3 h4
  exact lv_lstore_n hx hb hd hi h4.has (by rw [hml]; exact hn) rfl (fun la2 h5 => k H locs la2 h1 h2 h3 (lrel.store2 (v := .long x) ho h5))
theorem aw_lstore (hX : XOK G X M) {i : Nat} {x : Int64} (hd : decode (mC M) pc = .ok (.lstore i, 2)) (hn : i + 1 < mL M) (ho : okl ls i = true) (k : AW G X cu su S I R L (pc + 2) ((ls.set i (.long x)).set (i + 1) .null) st) : AW G X cu su S I R L pc ls (.long x :: st) := by
  obtain ⟨p, e, Rm, s, m, args, below, meth, c, Z⟩ := X
  obtain ⟨hx, hb, hml, hown, hts, hr, hlk, hnm, hrm, hG⟩ := hX
  intro H locs la h1 h2 h3 h4
  exact lv_lstore hx hb hd h4.has (by rw [hml]; exact hn) rfl (fun la2 h5 => k H locs la2 h1 h2 h3 (lrel.store2 (v := .long x) ho h5))
theorem aw_iinc (hX : XOK G X M) {i : Nat} {n : Int} {x : Int32} (v : Int32) (hd : decode (mC M) pc = .ok (.iinc i n, 3)) (hl : ls[i]? = some (.int x)) (hv : x + Int32.ofInt n = v) (hn : i < mL M) (ho : okl ls i = true) (k : AW G X cu su S I R L (pc + 3) (ls.set i (.int v)) st) : AW G X cu su S I R L pc ls st := by
  obtain ⟨p, e, Rm, s, m, args, below, meth, c, Z⟩ := X
  obtain ⟨hx, hb, hml, hown, hts, hr, hlk, hnm, hrm, hG⟩ := hX
  intro H locs la h1 h2 h3 h4
  obtain ⟨j, hj⟩ := List.getElem?_of_mem (al_in (G := G) hl (by intro h; cases h))
  exact lv_iinc hx hb hd h4.has hj hv (by rw [hml]; exact hn) rfl (fun la2 h5 => k H locs la2 h1 h2 h3 (lrel.store1 (v := .int v) ho h5))
theorem aw_iadd (hX : XOK G X M) {x y : Int32} (hd : decode (mC M) pc = .ok (.iadd, 1))  (k : AW G X cu su S I R L (pc + 1) ls (.int (x + y) :: st)) : AW G X cu su S I R L pc ls (.int y :: .int x :: st) := by
  obtain ⟨p, e, Rm, s, m, args, below, meth, c, Z⟩ := X
  obtain ⟨hx, hb, hml, hown, hts, hr, hlk, hnm, hrm, hG⟩ := hX
  intro H locs la h1 h2 h3 h4
  exact lv_iadd hx hb hd (k H locs la h1 h2 h3 h4)
theorem aw_isub (hX : XOK G X M) {x y : Int32} (hd : decode (mC M) pc = .ok (.isub, 1))  (k : AW G X cu su S I R L (pc + 1) ls (.int (x - y) :: st)) : AW G X cu su S I R L pc ls (.int y :: .int x :: st) := by
  obtain ⟨p, e, Rm, s, m, args, below, meth, c, Z⟩ := X
  obtain ⟨hx, hb, hml, hown, hts, hr, hlk, hnm, hrm, hG⟩ := hX
  intro H locs la h1 h2 h3 h4
  exact lv_isub hx hb hd (k H locs la h1 h2 h3 h4)
theorem aw_imul (hX : XOK G X M) {x y : Int32} (hd : decode (mC M) pc = .ok (.imul, 1))  (k : AW G X cu su S I R L (pc + 1) ls (.int (x * y) :: st)) : AW G X cu su S I R L pc ls (.int y :: .int x :: st) := by
  obtain ⟨p, e, Rm, s, m, args, below, meth, c, Z⟩ := X
  obtain ⟨hx, hb, hml, hown, hts, hr, hlk, hnm, hrm, hG⟩ := hX
  intro H locs la h1 h2 h3 h4
  exact lv_imul hx hb hd (k H locs la h1 h2 h3 h4)
theorem aw_iand (hX : XOK G X M) {x y : Int32} (hd : decode (mC M) pc = .ok (.iand, 1))  (k : AW G X cu su S I R L (pc + 1) ls (.int (x &&& y) :: st)) : AW G X cu su S I R L pc ls (.int y :: .int x :: st) := by
  obtain ⟨p, e, Rm, s, m, args, below, meth, c, Z⟩ := X
  obtain ⟨hx, hb, hml, hown, hts, hr, hlk, hnm, hrm, hG⟩ := hX
  intro H locs la h1 h2 h3 h4
  exact lv_iand hx hb hd (k H locs la h1 h2 h3 h4)
theorem aw_ior (hX : XOK G X M) {x y : Int32} (hd : decode (mC M) pc = .ok (.ior, 1))  (k : AW G X cu su S I R L (pc + 1) ls (.int (x ||| y) :: st)) : AW G X cu su S I R L pc ls (.int y :: .int x :: st) := by
  obtain ⟨p, e, Rm, s, m, args, below, meth, c, Z⟩ := X
  obtain ⟨hx, hb, hml, hown, hts, hr, hlk, hnm, hrm, hG⟩ := hX
  intro H locs la h1 h2 h3 h4
  exact lv_ior hx hb hd (k H locs la h1 h2 h3 h4)
theorem aw_ixor (hX : XOK G X M) {x y : Int32} (hd : decode (mC M) pc = .ok (.ixor, 1))  (k : AW G X cu su S I R L (pc + 1) ls (.int (x ^^^ y) :: st)) : AW G X cu su S I R L pc ls (.int y :: .int x :: st) := by
  obtain ⟨p, e, Rm, s, m, args, below, meth, c, Z⟩ := X
  obtain ⟨hx, hb, hml, hown, hts, hr, hlk, hnm, hrm, hG⟩ := hX
  intro H locs la h1 h2 h3 h4
  exact lv_ixor hx hb hd (k H locs la h1 h2 h3 h4)
theorem aw_ishl (hX : XOK G X M) {x y : Int32} (hd : decode (mC M) pc = .ok (.ishl, 1))  (k : AW G X cu su S I R L (pc + 1) ls (.int (x <<< (y &&& 31)) :: st)) : AW G X cu su S I R L pc ls (.int y :: .int x :: st) := by
  obtain ⟨p, e, Rm, s, m, args, below, meth, c, Z⟩ := X
  obtain ⟨hx, hb, hml, hown, hts, hr, hlk, hnm, hrm, hG⟩ := hX
  intro H locs la h1 h2 h3 h4
  exact lv_ishl hx hb hd (k H locs la h1 h2 h3 h4)
theorem aw_ishr (hX : XOK G X M) {x y : Int32} (hd : decode (mC M) pc = .ok (.ishr, 1))  (k : AW G X cu su S I R L (pc + 1) ls (.int (x >>> (y &&& 31)) :: st)) : AW G X cu su S I R L pc ls (.int y :: .int x :: st) := by
  obtain ⟨p, e, Rm, s, m, args, below, meth, c, Z⟩ := X
  obtain ⟨hx, hb, hml, hown, hts, hr, hlk, hnm, hrm, hG⟩ := hX
  intro H locs la h1 h2 h3 h4
  exact lv_ishr hx hb hd (k H locs la h1 h2 h3 h4)
theorem aw_iushr (hX : XOK G X M) {x y : Int32} (hd : decode (mC M) pc = .ok (.iushr, 1))  (k : AW G X cu su S I R L (pc + 1) ls (.int ((x.toUInt32 >>> (y.toUInt32 &&& Int32.toUInt32 31)).toInt32) :: st)) : AW G X cu su S I R L pc ls (.int y :: .int x :: st) := by
  obtain ⟨p, e, Rm, s, m, args, below, meth, c, Z⟩ := X
  obtain ⟨hx, hb, hml, hown, hts, hr, hlk, hnm, hrm, hG⟩ := hX
  intro H locs la h1 h2 h3 h4
  exact lv_iushr hx hb hd rfl (k H locs la h1 h2 h3 h4)
theorem aw_idiv (hX : XOK G X M) {x y : Int32} (hd : decode (mC M) pc = .ok (.idiv, 1)) (hne : ¬ y = 0) (k : AW G X cu su S I R L (pc + 1) ls (.int (x / y) :: st)) : AW G X cu su S I R L pc ls (.int y :: .int x :: st) := by
  obtain ⟨p, e, Rm, s, m, args, below, meth, c, Z⟩ := X
  obtain ⟨hx, hb, hml, hown, hts, hr, hlk, hnm, hrm, hG⟩ := hX
  intro H locs la h1 h2 h3 h4
  exact lv_idiv hx hb hd hne (k H locs la h1 h2 h3 h4)
theorem aw_irem (hX : XOK G X M) {x y : Int32} (hd : decode (mC M) pc = .ok (.irem, 1)) (hne : ¬ y = 0) (k : AW G X cu su S I R L (pc + 1) ls (.int (x - x / y * y) :: st)) : AW G X cu su S I R L pc ls (.int y :: .int x :: st) := by
  obtain ⟨p, e, Rm, s, m, args, below, meth, c, Z⟩ := X
  obtain ⟨hx, hb, hml, hown, hts, hr, hlk, hnm, hrm, hG⟩ := hX
  intro H locs la h1 h2 h3 h4
  exact lv_irem hx hb hd hne (k H locs la h1 h2 h3 h4)
theorem aw_ladd (hX : XOK G X M) {x y : Int64} (hd : decode (mC M) pc = .ok (.ladd, 1))  (k : AW G X cu su S I R L (pc + 1) ls (.long (x + y) :: st)) : AW G X cu su S I R L pc ls (.long y :: .long x :: st) := by
  obtain ⟨p, e, Rm, s, m, args, below, meth, c, Z⟩ := X
  obtain ⟨hx, hb, hml, hown, hts, hr, hlk, hnm, hrm, hG⟩ := hX
  intro H locs la h1 h2 h3 h4
  exact lv_ladd hx hb hd (k H locs la h1 h2 h3 h4)
theorem aw_lsub (hX : XOK G X M) {x y : Int64} (hd : decode (mC M) pc = .ok (.lsub, 1))  (k : AW G X cu su S I R L (pc + 1) ls (.long (x - y) :: st)) : AW G X cu su S I R L pc ls (.long y :: .long x :: st) := by
  obtain ⟨p, e, Rm, s, m, args, below, meth, c, Z⟩ := X
  obtain ⟨hx, hb, hml, hown, hts, hr, hlk, hnm, hrm, hG⟩ := hX
  intro H locs la h1 h2 h3 h4
  exact lv_lsub hx hb hd (k H locs la h1 h2 h3 h4)
theorem aw_lmul (hX : XOK G X M) {x y : Int64} (hd : decode (mC M) pc = .ok (.lmul, 1))  (k : AW G X cu su S I R L (pc + 1) ls (.long (x * y) :: st)) : AW G X cu su S I R L pc ls (.long y :: .long x :: st) := by
  obtain ⟨p, e, Rm, s, m, args, below, meth, c, Z⟩ := X
  obtain ⟨hx, hb, hml, hown, hts, hr, hlk, hnm, hrm, hG⟩ := hX
  intro H locs la h1 h2 h3 h4
  exact lv_lmul hx hb hd (k H locs la h1 h2 h3 h4)
theorem aw_ldiv (hX : XOK G X M) {x y : Int64} (hd : decode (mC M) pc = .ok (.ldiv, 1)) (hne : ¬ y = 0) (k : AW G X cu su S I R L (pc + 1) ls (.long (x / y) :: st)) : AW G X cu su S I R L pc ls (.long y :: .long x :: st) := by
  obtain ⟨p, e, Rm, s, m, args, below, meth, c, Z⟩ := X
  obtain ⟨hx, hb, hml, hown, hts, hr, hlk, hnm, hrm, hG⟩ := hX
  intro H locs la h1 h2 h3 h4
  exact lv_ldiv hx hb hd hne (k H locs la h1 h2 h3 h4)
theorem aw_lrem (hX : XOK G X M) {x y : Int64} (hd : decode (mC M) pc = .ok (.lrem, 1)) (hne : ¬ y = 0) (k : AW G X cu su S I R L (pc + 1) ls (.long (x - x / y * y) :: st)) : AW G X cu su S I R L pc ls (.long y :: .long x :: st) := by
  obtain ⟨p, e, Rm, s, m, args, below, meth, c, Z⟩ := X
  obtain ⟨hx, hb, hml, hown, hts, hr, hlk, hnm, hrm, hG⟩ := hX
  intro H locs la h1 h2 h3 h4
  exact lv_lrem hx hb hd hne (k H locs la h1 h2 h3 h4)
theorem aw_i2l (hX : XOK G X M) {x : Int32} (hd : decode (mC M) pc = .ok (.i2l, 1))  (k : AW G X cu su S I R L (pc + 1) ls (.long x.toInt64 :: st)) : AW G X cu su S I R L pc ls (.int x :: st) := by
  obtain ⟨p, e, Rm, s, m, args, below, meth, c, Z⟩ := X
  obtain ⟨hx, hb, hml, hown, hts, hr, hlk, hnm, hrm, hG⟩ := hX
  intro H locs la h1 h2 h3 h4
  exact lv_i2l hx hb hd rfl (k H locs la h1 h2 h3 h4)
theorem aw_l2i (hX : XOK G X M) {x : Int64} (hd : decode (mC M) pc = .ok (.l2i, 1))  (k : AW G X cu su S I R L (pc + 1) ls (.int x.toInt32 :: st)) : AW G X cu su S I R L pc ls (.long x :: st) := by
  obtain ⟨p, e, Rm, s, m, args, below, meth, c, Z⟩ := X
  obtain ⟨hx, hb, hml, hown, hts, hr, hlk, hnm, hrm, hG⟩ := hX
  intro H locs la h1 h2 h3 h4
  exact lv_l2i hx hb hd rfl (k H locs la h1 h2 h3 h4)
theorem aw_lcmp (hX : XOK G X M) {x y : Int64} (hd : decode (mC M) pc = .ok (.lcmp, 1))  (k : AW G X cu su S I R L (pc + 1) ls (.int (lg_cmp x y) :: st)) : AW G X cu su S I R L pc ls (.long y :: .long x :: st) := by
  obtain ⟨p, e, Rm, s, m, args, below, meth, c, Z⟩ := X
  obtain ⟨hx, hb, hml, hown, hts, hr, hlk, hnm, hrm, hG⟩ := hX
  intro H locs la h1 h2 h3 h4
  exact W.lcmp hx hb hd (k H locs la h1 h2 h3 h4)
theorem aw_dup (hX : XOK G X M) {v : Value} (hd : decode (mC M) pc = .ok (.dup, 1)) (hc : v.category = 1) (k : AW G X cu su S I R L (pc + 1) ls (v :: v :: st)) : AW G X cu su S I R L pc ls (v :: st) := by
  obtain ⟨p, e, Rm, s, m, args, below, meth, c, Z⟩ := X
  obtain ⟨hx, hb, hml, hown, hts, hr, hlk, hnm, hrm, hG⟩ := hX
  intro H locs la h1 h2 h3 h4
  exact lv_dup hx hb hd (by rw [rv_cat]; exact hc) (k H locs la h1 h2 h3 h4)
theorem aw_dup2 (hX : XOK G X M) {v u : Value} (hd : decode (mC M) pc = .ok (.dup2, 1)) (hc : v.category = 1) (hc2 : u.category = 1) (k : AW G X cu su S I R L (pc + 1) ls (v :: u :: v :: u :: st)) : AW G X cu su S I R L pc ls (v :: u :: st) := by
  obtain ⟨p, e, Rm, s, m, args, below, meth, c, Z⟩ := X
  obtain ⟨hx, hb, hml, hown, hts, hr, hlk, hnm, hrm, hG⟩ := hX
  intro H locs la h1 h2 h3 h4
  exact lv_dup2_11 hx hb hd (by rw [rv_cat]; exact hc) (by rw [rv_cat]; exact hc2) (k H locs la h1 h2 h3 h4)
theorem aw_if_eq (hX : XOK G X M) {x : Int32} {off : Int} (tgt : Nat) (hd : decode (mC M) pc = .ok (.ifCond .eq off, 3)) (ht : (pc : Int) + off = (tgt : Int)) (kt : x = 0 → AW G X cu su S I R L tgt ls st) (kf : ¬ x = 0 → AW G X cu su S I R L (pc + 3) ls st) : AW G X cu su S I R L pc ls (.int x :: st) := by
  obtain ⟨p, e, Rm, s, m, args, below, meth, c, Z⟩ := X
  obtain ⟨hx, hb, hml, hown, hts, hr, hlk, hnm, hrm, hG⟩ := hX
  intro H locs la h1 h2 h3 h4
  exact lv_if_eq hx hb hd ht (fun hc => kt hc H locs la h1 h2 h3 h4) (fun hc => kf hc H locs la h1 h2 h3 h4)
theorem aw_icmp_eq (hX : XOK G X M) {x y : Int32} {off : Int} (tgt : Nat) (hd : decode (mC M) pc = .ok (.if_icmp .eq off, 3)) (ht : (pc : Int) + off = (tgt : Int)) (kt : x = y → AW G X cu su S I R L tgt ls st) (kf : ¬ x = y → AW G X cu su S I R L (pc + 3) ls st) : AW G X cu su S I R L pc ls (.int y :: .int x :: st) := by
  obtain ⟨p, e, Rm, s, m, args, below, meth, c, Z⟩ := X
  obtain ⟨hx, hb, hml, hown, hts, hr, hlk, hnm, hrm, hG⟩ := hX
  intro H locs la h1 h2 h3 h4
  exact lv_icmp_eq hx hb hd ht (fun hc => kt hc H locs la h1 h2 h3 h4) (fun hc => kf hc H locs la h1 h2 h3 h4)
theorem aw_if_ne (hX : XOK G X M) {x : Int32} {off : Int} (tgt : Nat) (hd : decode (mC M) pc = .ok (.ifCond .ne off, 3)) (ht : (pc : Int) + off = (tgt : Int)) (kt : ¬ x = 0 → AW G X cu su S I R L tgt ls st) (kf : x = 0 → AW G X cu su S I R L (pc + 3) ls st) : AW G X cu su S I R L pc ls (.int x :: st) := by
  obtain ⟨p, e, Rm, s, m, args, below, meth, c, Z⟩ := X
  obtain ⟨hx, hb, hml, hown, hts, hr, hlk, hnm, hrm, hG⟩ := hX
  intro H locs la h1 h2 h3 h4
  exact lv_if_ne hx hb hd ht (fun hc => kt hc H locs la h1 h2 h3 h4) (fun hc => kf hc H locs la h1 h2 h3 h4)
theorem aw_icmp_ne (hX : XOK G X M) {x y : Int32} {off : Int} (tgt : Nat) (hd : decode (mC M) pc = .ok (.if_icmp .ne off, 3)) (ht : (pc : Int) + off = (tgt : Int)) (kt : ¬ x = y → AW G X cu su S I R L tgt ls st) (kf : x = y → AW G X cu su S I R L (pc + 3) ls st) : AW G X cu su S I R L pc ls (.int y :: .int x :: st) := by
  obtain ⟨p, e, Rm, s, m, args, below, meth, c, Z⟩ := X
  obtain ⟨hx, hb, hml, hown, hts, hr, hlk, hnm, hrm, hG⟩ := hX
  intro H locs la h1 h2 h3 h4
  exact lv_icmp_ne hx hb hd ht (fun hc => kt hc H locs la h1 h2 h3 h4) (fun hc => kf hc H locs la h1 h2 h3 h4)
theorem aw_if_lt (hX : XOK G X M) {x : Int32} {off : Int} (tgt : Nat) (hd : decode (mC M) pc = .ok (.ifCond .lt off, 3)) (ht : (pc : Int) + off = (tgt : Int)) (kt : x < 0 → AW G X cu su S I R L tgt ls st) (kf : ¬ x < 0 → AW G X cu su S I R L (pc + 3) ls st) : AW G X cu su S I R L pc ls (.int x :: st) := by
  obtain ⟨p, e, Rm, s, m, args, below, meth, c, Z⟩ := X
  obtain ⟨hx, hb, hml, hown, hts, hr, hlk, hnm, hrm, hG⟩ := hX
  intro H locs la h1 h2 h3 h4
  exact lv_if_lt hx hb hd ht (fun hc => kt hc H locs la h1 h2 h3 h4) (fun hc => kf hc H locs la h1 h2 h3 h4)
theorem aw_icmp_lt (hX : XOK G X M) {x y : Int32} {off : Int} (tgt : Nat) (hd : decode (mC M) pc = .ok (.if_icmp .lt off, 3)) (ht : (pc : Int) + off = (tgt : Int)) (kt : x < y → AW G X cu su S I R L tgt ls st) (kf : ¬ x < y → AW G X cu su S I R L (pc + 3) ls st) : AW G X cu su S I R L pc ls (.int y :: .int x :: st) := by
  obtain ⟨p, e, Rm, s, m, args, below, meth, c, Z⟩ := X
  obtain ⟨hx, hb, hml, hown, hts, hr, hlk, hnm, hrm, hG⟩ := hX
  intro H locs la h1 h2 h3 h4
  exact lv_icmp_lt hx hb hd ht (fun hc => kt hc H locs la h1 h2 h3 h4) (fun hc => kf hc H locs la h1 h2 h3 h4)
theorem aw_if_ge (hX : XOK G X M) {x : Int32} {off : Int} (tgt : Nat) (hd : decode (mC M) pc = .ok (.ifCond .ge off, 3)) (ht : (pc : Int) + off = (tgt : Int)) (kt : 0 ≤ x → AW G X cu su S I R L tgt ls st) (kf : ¬ 0 ≤ x → AW G X cu su S I R L (pc + 3) ls st) : AW G X cu su S I R L pc ls (.int x :: st) := by
  obtain ⟨p, e, Rm, s, m, args, below, meth, c, Z⟩ := X
  obtain ⟨hx, hb, hml, hown, hts, hr, hlk, hnm, hrm, hG⟩ := hX
  intro H locs la h1 h2 h3 h4
  exact lv_if_ge hx hb hd ht (fun hc => kt hc H locs la h1 h2 h3 h4) (fun hc => kf hc H locs la h1 h2 h3 h4)
theorem aw_icmp_ge (hX : XOK G X M) {x y : Int32} {off : Int} (tgt : Nat) (hd : decode (mC M) pc = .ok (.if_icmp .ge off, 3)) (ht : (pc : Int) + off = (tgt : Int)) (kt : y ≤ x → AW G X cu su S I R L tgt ls st) (kf : ¬ y ≤ x → AW G X cu su S I R L (pc + 3) ls st) : AW G X cu su S I R L pc ls (.int y :: .int x :: st) := by
  obtain ⟨p, e, Rm, s, m, args, below, meth, c, Z⟩ := X
  obtain ⟨hx, hb, hml, hown, hts, hr, hlk, hnm, hrm, hG⟩ := hX
  intro H locs la h1 h2 h3 h4
  exact lv_icmp_ge hx hb hd ht (fun hc => kt hc H locs la h1 h2 h3 h4) (fun hc => kf hc H locs la h1 h2 h3 h4)
theorem aw_if_gt (hX : XOK G X M) {x : Int32} {off : Int} (tgt : Nat) (hd : decode (mC M) pc = .ok (.ifCond .gt off, 3)) (ht : (pc : Int) + off = (tgt : Int)) (kt : 0 < x → AW G X cu su S I R L tgt ls st) (kf : ¬ 0 < x → AW G X cu su S I R L (pc + 3) ls st) : AW G X cu su S I R L pc ls (.int x :: st) := by
  obtain ⟨p, e, Rm, s, m, args, below, meth, c, Z⟩ := X
  obtain ⟨hx, hb, hml, hown, hts, hr, hlk, hnm, hrm, hG⟩ := hX
  intro H locs la h1 h2 h3 h4
  exact lv_if_gt hx hb hd ht (fun hc => kt hc H locs la h1 h2 h3 h4) (fun hc => kf hc H locs la h1 h2 h3 h4)
theorem aw_icmp_gt (hX : XOK G X M) {x y : Int32} {off : Int} (tgt : Nat) (hd : decode (mC M) pc = .ok (.if_icmp .gt off, 3)) (ht : (pc : Int) + off = (tgt : Int)) (kt : y < x → AW G X cu su S I R L tgt ls st) (kf : ¬ y < x → AW G X cu su S I R L (pc + 3) ls st) : AW G X cu su S I R L pc ls (.int y :: .int x :: st) := by
  obtain ⟨p, e, Rm, s, m, args, below, meth, c, Z⟩ := X
  obtain ⟨hx, hb, hml, hown, hts, hr, hlk, hnm, hrm, hG⟩ := hX
  intro H locs la h1 h2 h3 h4
  exact lv_icmp_gt hx hb hd ht (fun hc => kt hc H locs la h1 h2 h3 h4) (fun hc => kf hc H locs la h1 h2 h3 h4)
theorem aw_if_le (hX : XOK G X M) {x : Int32} {off : Int} (tgt : Nat) (hd : decode (mC M) pc = .ok (.ifCond .le off, 3)) (ht : (pc : Int) + off = (tgt : Int)) (kt : x ≤ 0 → AW G X cu su S I R L tgt ls st) (kf : ¬ x ≤ 0 → AW G X cu su S I R L (pc + 3) ls st) : AW G X cu su S I R L pc ls (.int x :: st) := by
  obtain ⟨p, e, Rm, s, m, args, below, meth, c, Z⟩ := X
  obtain ⟨hx, hb, hml, hown, hts, hr, hlk, hnm, hrm, hG⟩ := hX
  intro H locs la h1 h2 h3 h4
  exact lv_if_le hx hb hd ht (fun hc => kt hc H locs la h1 h2 h3 h4) (fun hc => kf hc H locs la h1 h2 h3 h4)
theorem aw_icmp_le (hX : XOK G X M) {x y : Int32} {off : Int} (tgt : Nat) (hd : decode (mC M) pc = .ok (.if_icmp .le off, 3)) (ht : (pc : Int) + off = (tgt : Int)) (kt : x ≤ y → AW G X cu su S I R L tgt ls st) (kf : ¬ x ≤ y → AW G X cu su S I R L (pc + 3) ls st) : AW G X cu su S I R L pc ls (.int y :: .int x :: st) := by
  obtain ⟨p, e, Rm, s, m, args, below, meth, c, Z⟩ := X
  obtain ⟨hx, hb, hml, hown, hts, hr, hlk, hnm, hrm, hG⟩ := hX
  intro H locs la h1 h2 h3 h4
  exact lv_icmp_le hx hb hd ht (fun hc => kt hc H locs la h1 h2 h3 h4) (fun hc => kf hc H locs la h1 h2 h3 h4)
theorem aw_goto (hX : XOK G X M) {off : Int} (tgt : Nat) (hd : decode (mC M) pc = .ok (.goto off, 3)) (ht : (pc : Int) + off = (tgt : Int)) (k : AW G X cu su S I R L tgt ls st) : AW G X cu su S I R L pc ls st := by
  obtain ⟨p, e, Rm, s, m, args, below, meth, c, Z⟩ := X
  obtain ⟨hx, hb, hml, hown, hts, hr, hlk, hnm, hrm, hG⟩ := hX
  intro H locs la h1 h2 h3 h4
  exact lv_goto hx hb hd ht (k H locs la h1 h2 h3 h4)
theorem aw_lookup (hX : XOK G X M) {dflt : Int} {ps : Array (Int × Int)} {len : Nat} {x : Int32} {off : Int} (tgt : Nat) (hd : decode (mC M) pc = .ok (.lookupswitch dflt ps, len)) (hp : (ps.toList.zip (ps.toList.drop 1)).all (fun (a, next) => a.1 < next.1) = true) (ho : Op.lookupswitch.offset ps.toList dflt x.toInt = off) (ht : (pc : Int) + off = (tgt : Int)) (k : AW G X cu su S I R L tgt ls st) : AW G X cu su S I R L pc ls (.int x :: st) := by
  obtain ⟨p, e, Rm, s, m, args, below, meth, c, Z⟩ := X
  obtain ⟨hx, hb, hml, hown, hts, hr, hlk, hnm, hrm, hG⟩ := hX
  intro H locs la h1 h2 h3 h4
  exact lv_lookup hx hb hd hp ho ht (k H locs la h1 h2 h3 h4)
theorem aw_tableOut (hX : XOK G X M) {dflt lo hi : Int} {offs : Array Int} {len : Nat} {x : Int32} (tgt : Nat) (hd : decode (mC M) pc = .ok (.tableswitch dflt lo hi offs, len)) (h : x.toInt < lo ∨ hi < x.toInt) (ht : (pc : Int) + dflt = (tgt : Int)) (k : AW G X cu su S I R L tgt ls st) : AW G X cu su S I R L pc ls (.int x :: st) := by
  obtain ⟨p, e, Rm, s, m, args, below, meth, c, Z⟩ := X
  obtain ⟨hx, hb, hml, hown, hts, hr, hlk, hnm, hrm, hG⟩ := hX
  intro H locs la h1 h2 h3 h4
  exact lv_tableOut hx hb hd h ht (k H locs la h1 h2 h3 h4)
theorem aw_tableIn (hX : XOK G X M) {dflt lo hi : Int} {offs : Array Int} {len : Nat} {x : Int32} {off : Int} (tgt : Nat) (hd : decode (mC M) pc = .ok (.tableswitch dflt lo hi offs, len)) (ha : ¬ x.toInt < lo) (hb2 : ¬ hi < x.toInt) (ho : offs[(x.toInt - lo).toNat]? = some off) (ht : (pc : Int) + off = (tgt : Int)) (k : AW G X cu su S I R L tgt ls st) : AW G X cu su S I R L pc ls (.int x :: st) := by
  obtain ⟨p, e, Rm, s, m, args, below, meth, c, Z⟩ := X
  obtain ⟨hx, hb, hml, hown, hts, hr, hlk, hnm, hrm, hG⟩ := hX
  intro H locs la h1 h2 h3 h4
  exact lv_tableIn hx hb hd ha hb2 ho ht (k H locs la h1 h2 h3 h4)
/-- forget what some locals hold -/
def fgt : List Value → List Value → Bool
  | [], _ => true
  | .null :: l, _ :: l2 => fgt l l2
  | v :: l, v2 :: l2 => (v == v2) && fgt l l2
  | _ :: _, [] => false
theorem AW.locals {ls2 : List Value} (h : ∀ (i : Nat) (v : Value), ls2[i]? = some v → v ≠ .null → ls[i]? = some v) (k : AW G X cu su S I R L pc ls2 st) : AW G X cu su S I R L pc ls st := by
  obtain ⟨p, e, Rm, s, m, args, below, meth, c, Z⟩ := X
  intro H locs la h1 h2 h3 h4
  exact k H locs la h1 h2 h3 ⟨h4.1, h4.2.1, fun i v hi hv => h4.2.2 i v (h i v hi hv) hv⟩
theorem AW.widen {su' : Nat} (h2 : su ≤ su') (k : AW G X cu su' S I R L pc ls st) : AW G X cu su S I R L pc ls st := by
  obtain ⟨p, e, Rm, s, m, args, below, meth, c, Z⟩ := X
  intro H locs la g1 g2 g3 g4
  exact W.widen (Nat.le_refl _) h2 (k H locs la g1 g2 g3 g4)
end RULES
