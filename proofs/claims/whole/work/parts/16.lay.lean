/-! the layout behind the two constructors: cells 0 .. 76 the class's, 77 .. 95 the model's -/
def nowsL : List Nat := [15, 21, 25, 29, 33, 37, 41, 45, 49, 53, 57, 69, 73]
def nowSh : Shp := [(3, 6), (8, 6), (8, 6), (8, 6)]
def courtSh : Shp := [(0, 10), (8, 5), (8, 6), (8, 24), (8, 3), (8, 3)]
def S0 : Shp := [(6, 10), (5, 6), (8, 160)] ++ courtSh ++ courtSh ++ nowSh ++ [(1, 3), (10, 10)] ++ nowSh ++ nowSh ++ nowSh ++ nowSh ++ nowSh ++ nowSh ++ nowSh ++ nowSh ++ nowSh ++ nowSh ++ [(10, 2), (9, 2), (4, 4), (8, 6), (8, 6), (8, 6), (2, 1), (8, 64)] ++ nowSh ++ nowSh ++ [(7, 36), (8, 5), (8, 6), (8, 24), (8, 3), (8, 3), (8, 21), (8, 210), (8, 42), (9, 2), (8, 18), (8, 160), (8, 5), (8, 6), (8, 24), (8, 3), (8, 3), (8, 6), (8, 6)]
def mRef (j : Nat) : Option Nat := match j with
  | 1 => some 78
  | 3 => some 79
  | 5 => some 80
  | 7 => some 81
  | 8 => some 82
  | 10 => some 83
  | 11 => some 84
  | 13 => some 85
  | 14 => some 86
  | 15 => some 87
  | 18 => some 88
  | 25 => some 89
  | 27 => some 90
  | 29 => some 91
  | 31 => some 92
  | 32 => some 93
  | 34 => some 94
  | 35 => some 95
  | _ => none
def pRef (c d j : Nat) : Option Nat := match j with
  | 0 => some 1
  | 1 => some c
  | 2 => some d
  | 3 => some 15
  | 4 => some 19
  | 5 => some 61
  | 6 => some 62
  | 7 => some 63
  | 8 => some 67
  | _ => none
/-- the references: c the court, d the draft -/
def R0 (c d : Nat) : Hr := fun a j =>
  if a == 0 then pRef c d j
  else if a == 77 then mRef j
  else if a == 3 || a == 9 then (if Nat.blt j 5 then some (a + 1 + j) else none)
  else if nowsL.contains a then (if Nat.blt j 3 then none else if Nat.blt j 6 then some (a + 1 + (j - 3)) else none)
  else if a == 20 then (if Nat.blt j 10 then some (21 + 4 * j) else none)
  else if a == 61 then (if Nat.blt j 2 then some (69 + 4 * j) else none)
  else if a == 63 then (if Nat.blt j 3 then some (64 + j) else none)
  else if a == 1 || a == 19 || a == 67 then (if j == 0 then some (a + 1) else none)
  else none
def isC (c : Nat) : Prop := c = 3 ∨ c = 9
def isN (n : Nat) : Prop := n ∈ nowsL
theorem csh0 {c : Nat} (h : isC c) : S0[c]? = some (0, 10) := by rcases h with rfl | rfl <;> rfl
theorem csh1 {c : Nat} (h : isC c) : S0[c + 1]? = some (8, 5) := by rcases h with rfl | rfl <;> rfl
theorem csh2 {c : Nat} (h : isC c) : S0[c + 2]? = some (8, 6) := by rcases h with rfl | rfl <;> rfl
theorem csh3 {c : Nat} (h : isC c) : S0[c + 3]? = some (8, 24) := by rcases h with rfl | rfl <;> rfl
theorem csh4 {c : Nat} (h : isC c) : S0[c + 4]? = some (8, 3) := by rcases h with rfl | rfl <;> rfl
theorem csh5 {c : Nat} (h : isC c) : S0[c + 5]? = some (8, 3) := by rcases h with rfl | rfl <;> rfl
theorem crf0 {c x y : Nat} (h : isC c) : R0 x y c 0 = some (c + 1) := by rcases h with rfl | rfl <;> rfl
theorem crf1 {c x y : Nat} (h : isC c) : R0 x y c 1 = some (c + 2) := by rcases h with rfl | rfl <;> rfl
theorem crf2 {c x y : Nat} (h : isC c) : R0 x y c 2 = some (c + 3) := by rcases h with rfl | rfl <;> rfl
theorem crf3 {c x y : Nat} (h : isC c) : R0 x y c 3 = some (c + 4) := by rcases h with rfl | rfl <;> rfl
theorem crf4 {c x y : Nat} (h : isC c) : R0 x y c 4 = some (c + 5) := by rcases h with rfl | rfl <;> rfl
theorem isN_all {P : Nat → Prop} [DecidablePred P] (h : nowsL.all (fun n => decide (P n)) = true) {n : Nat} (hn : isN n) : P n := by
  have := List.all_eq_true.mp h n hn
  simpa using this
theorem isNb {n : Nat} (h : nowsL.contains n = true) : isN n := List.mem_of_elem_eq_true h
theorem nsh0 {n : Nat} (h : isN n) : S0[n]? = some (3, 6) := isN_all (P := fun n => S0[n]? = some (3, 6)) (by decide +kernel) h
theorem nsh1 {n : Nat} (h : isN n) : S0[n + 1]? = some (8, 6) := isN_all (P := fun n => S0[n + 1]? = some (8, 6)) (by decide +kernel) h
theorem nsh2 {n : Nat} (h : isN n) : S0[n + 2]? = some (8, 6) := isN_all (P := fun n => S0[n + 2]? = some (8, 6)) (by decide +kernel) h
theorem nsh3 {n : Nat} (h : isN n) : S0[n + 3]? = some (8, 6) := isN_all (P := fun n => S0[n + 3]? = some (8, 6)) (by decide +kernel) h
theorem nrfA : nowsL.all (fun n => !(n == 0) && !(n == 77) && !(n == 3 || n == 9) && nowsL.contains n) = true := by decide +kernel
theorem nrf {n x y j : Nat} (h : isN n) : R0 x y n j = if Nat.blt j 3 then none else if Nat.blt j 6 then some (n + 1 + (j - 3)) else none := by
  have h1 := List.all_eq_true.mp nrfA n h
  simp only [Bool.and_eq_true, Bool.not_eq_true'] at h1
  simp only [R0, h1.1.1.1, h1.1.1.2, h1.1.2, h1.2]
  rfl
theorem nrf3 {n x y : Nat} (h : isN n) : R0 x y n 3 = some (n + 1) := nrf h
theorem nrf4 {n x y : Nat} (h : isN n) : R0 x y n 4 = some (n + 2) := nrf h
theorem nrf5 {n x y : Nat} (h : isN n) : R0 x y n 5 = some (n + 3) := nrf h
/-- an index within, as a test -/
def vinb (x : Int32) (n : Nat) : Bool := !(decide (x < 0)) && Nat.blt x.toNatClampNeg n
theorem vinb_in {x : Int32} {n : Nat} (h : vinb x n = true) : vp_in x n := by
  simp only [vinb, Bool.and_eq_true, Bool.not_eq_true', decide_eq_false_iff_not] at h
  rintro (h1 | h1)
  · exact h.1 h1
  · have := Nat.le_of_ble_eq_true h.2
    omega
theorem vinb_nI {k n : Nat} (h : k < n) (hn : n < 2 ^ 31) : vinb (nI k) n = true := by
  simp only [vinb, Bool.and_eq_true, Bool.not_eq_true', decide_eq_false_iff_not]
  refine ⟨nI_pos (by omega), ?_⟩
  rw [nI_clamp (by omega)]
  exact Nat.ble_eq_true_of_le h
theorem vinb_lt {x : Int32} {n : Nat} (h : vinb x n = true) : x.toNatClampNeg < n := by
  simp only [vinb, Bool.and_eq_true] at h
  exact Nat.le_of_ble_eq_true h.2
theorem bef_ok : (List.range 10).all (fun k => decide (R0 0 0 20 k = some (21 + 4 * k)) && nowsL.contains (21 + 4 * k)) = true := by decide +kernel
theorem bef_rf {x y : Nat} {i : Int32} (h : vinb i 10 = true) : R0 x y 20 i.toNatClampNeg = some (21 + 4 * i.toNatClampNeg) := by
  have h1 := List.all_eq_true.mp bef_ok _ (List.mem_range.mpr (vinb_lt h))
  simp only [Bool.and_eq_true, decide_eq_true_eq] at h1
  exact h1.1
theorem bef_N {i : Int32} (h : vinb i 10 = true) : isN (21 + 4 * i.toNatClampNeg) := by
  have h1 := List.all_eq_true.mp bef_ok _ (List.mem_range.mpr (vinb_lt h))
  simp only [Bool.and_eq_true] at h1
  exact List.mem_of_elem_eq_true h1.2
theorem img_ok : (List.range 2).all (fun k => decide (R0 0 0 61 k = some (69 + 4 * k)) && nowsL.contains (69 + 4 * k)) = true := by decide +kernel
theorem img_rf {x y : Nat} {i : Int32} (h : vinb i 2 = true) : R0 x y 61 i.toNatClampNeg = some (69 + 4 * i.toNatClampNeg) := by
  have h1 := List.all_eq_true.mp img_ok _ (List.mem_range.mpr (vinb_lt h))
  simp only [Bool.and_eq_true, decide_eq_true_eq] at h1
  exact h1.1
theorem img_N {i : Int32} (h : vinb i 2 = true) : isN (69 + 4 * i.toNatClampNeg) := by
  have h1 := List.all_eq_true.mp img_ok _ (List.mem_range.mpr (vinb_lt h))
  simp only [Bool.and_eq_true] at h1
  exact List.mem_of_elem_eq_true h1.2
/-! pieces for the walks -/
def bI (b : Bool) : Int32 := if b = true then 1 else 0
theorem bI0 {b : Bool} (h : bI b = 0) : ¬ b = true := by cases b <;> simp_all [bI]
theorem bI1 {b : Bool} (h : ¬ bI b = 0) : b = true := by cases b <;> simp_all [bI]
theorem bI01 (b : Bool) : bI b = 0 ∨ bI b = 1 := by cases b <;> simp [bI]
theorem ite_t {α : Type} {c : Prop} [Decidable c] {a b v : α} (h : (if c then a else b) = v) (hc : c) : a = v := by rwa [if_pos hc] at h
theorem ite_f {α : Type} {c : Prop} [Decidable c] {a b v : α} (h : (if c then a else b) = v) (hc : ¬ c) : b = v := by rwa [if_neg hc] at h
theorem ite_g {α : Type} {c : Prop} [Decidable c] {a : Option α} {v : α} (h : (if c then a else none) = some v) : c ∧ a = some v := by
  by_cases hc : c
  · rw [if_pos hc] at h; exact ⟨hc, h⟩
  · rw [if_neg hc] at h; cases h
theorem ite_n {α : Type} {c : Prop} [Decidable c] {a : Option α} {v : α} (h : (if c then none else a) = some v) : ¬ c ∧ a = some v := by
  by_cases hc : c
  · rw [if_pos hc] at h; cases h
  · rw [if_neg hc] at h; exact ⟨hc, h⟩
theorem bind_s {α β : Type} {o : Option α} {f : α → Option β} {v : β} (h : o.bind f = some v) : ∃ a, o = some a ∧ f a = some v := Option.bind_eq_some_iff.mp h
def locsub : List Value → List Value → Prop
  | [], _ => True
  | v :: l, w :: m => (v = .null ∨ v = w) ∧ locsub l m
  | _ :: _, [] => False
theorem locsub_spec : ∀ (l m : List Value), locsub l m → ∀ (i : Nat) (v : Value), l[i]? = some v → v ≠ .null → m[i]? = some v
  | [], _, _, _, _, h, _ => by simp at h
  | _ :: _, [], hs, _, _, _, _ => hs.elim
  | a :: l, b :: m, hs, 0, v, h, hv => by
    cases h
    rcases hs.1 with h1 | h1
    · exact absurd h1 hv
    · rw [h1]; rfl
  | a :: l, b :: m, hs, i + 1, v, h, hv => locsub_spec l m hs.2 i v h hv
section WALK
variable {G : GP} {X : CX} {M : MI} {cu su : Nat} {S : Shp} {I : Hi} {R : Hr} {L : Hl} {pc : Nat} {ls st : List Value}
theorem AW.lo {ls2 : List Value} (k : AW G X cu su S I R L pc ls2 st) (h : locsub ls2 ls) : AW G X cu su S I R L pc ls st := AW.locals (locsub_spec ls2 ls h) k
theorem aw_tcase (hX : XOK G X M) {dflt lo hi : Int} {offs : Array Int} {len : Nat} {x : Int32} (kk : Int32) {off : Int} (tgt : Nat) (hd : decode (mC M) pc = .ok (.tableswitch dflt lo hi offs, len)) (hx : x = kk) (ha : ¬ kk.toInt < lo) (hb2 : ¬ hi < kk.toInt) (ho : offs[(kk.toInt - lo).toNat]? = some off) (ht : (pc : Int) + off = (tgt : Int)) (k : AW G X cu su S I R L tgt ls st) : AW G X cu su S I R L pc ls (.int x :: st) := by
  subst hx
  exact aw_tableIn hX tgt hd ha hb2 ho ht k
theorem aw_lcase (hX : XOK G X M) {dflt : Int} {ps : Array (Int × Int)} {len : Nat} {x : Int32} (kk : Int32) {off : Int} (tgt : Nat) (hd : decode (mC M) pc = .ok (.lookupswitch dflt ps, len)) (hx : x = kk) (hp : (ps.toList.zip (ps.toList.drop 1)).all (fun (a, next) => a.1 < next.1) = true) (ho : Op.lookupswitch.offset ps.toList dflt kk.toInt = off) (ht : (pc : Int) + off = (tgt : Int)) (k : AW G X cu su S I R L tgt ls st) : AW G X cu su S I R L pc ls (.int x :: st) := by
  subst hx
  exact aw_lookup hX tgt hd hp ho ht k
end WALK
