/-! abstract states: S the shapes of the cells made so far (kind, length), I their ints, R their references, L their longs -/
abbrev Hi : Type := Nat → Nat → Int32
abbrev Hr : Type := Nat → Nat → Option Nat
abbrev Hl : Type := Nat → Nat → Int64
abbrev Shp : Type := List (Nat × Nat)
/-- launch, first address, script's address, length, contents, classes, class numbers of the arrays -/
abbrev GP : Type := Launch × Nat × Nat × Nat × (Nat → Int32) × va_G × ClassId × ClassId × ClassId
abbrev gl (G : GP) : Launch := G.1
abbrev gN (G : GP) : Nat := G.2.1
abbrev gB (G : GP) : Nat := G.2.2.1
abbrev gL (G : GP) : Nat := G.2.2.2.1
abbrev gX (G : GP) : Nat → Int32 := G.2.2.2.2.1
abbrev gD (G : GP) : va_G := G.2.2.2.2.2.1
abbrev gI (G : GP) : ClassId := G.2.2.2.2.2.2.1
abbrev gZ (G : GP) : ClassId := G.2.2.2.2.2.2.2.1
abbrev gQ (G : GP) : ClassId := G.2.2.2.2.2.2.2.2
def gT (G : GP) : List (ClassId × FieldType) := [(gI G, .int), (gZ G, .boolean), (gQ G, .object RX3)]
def gA (G : GP) : Nat → Prop := fun q => gN G ≤ q
/-- the words that a callee may be given -/
def gtbl : List Cond := lw_tbl.filter goodWord
def isNest : Cond → Bool
  | .methodLinkNest .. => true
  | _ => false
def ntbl : List Cond := lw_tbl.filter isNest
theorem gmem {w : Cond} (h : w ∈ lw_tbl) (hg : goodWord w = true) : w ∈ gtbl := List.mem_filter.mpr ⟨h, hg⟩
theorem nmem {w : Cond} (h : w ∈ lw_tbl) (hg : isNest w = true) : w ∈ ntbl := List.mem_filter.mpr ⟨h, hg⟩
/-! classes by number -/
def cTy (ci : Nat) : Nat → FieldType := match ci with
  | 0 => tyX0
  | 1 => tyX1
  | 2 => tyX2
  | 3 => tyX3
  | 4 => tyX4
  | 5 => tyX5
  | 6 => tyX6
  | _ => tyX7
def cTb (ci : Nat) : u_T := match ci with
  | 0 => TX0
  | 1 => TX1
  | 2 => TX2
  | 3 => TX3
  | 4 => TX4
  | 5 => TX5
  | 6 => TX6
  | _ => TX7
def cNm (ci : Nat) : String := match ci with
  | 0 => RX0
  | 1 => RX1
  | 2 => RX2
  | 3 => RX3
  | 4 => RX4
  | 5 => RX5
  | 6 => RX6
  | _ => RX7
def cNf (ci : Nat) : Nat := match ci with
  | 0 => 10
  | 1 => 3
  | 2 => 1
  | 3 => 6
  | 4 => 4
  | 5 => 6
  | 6 => 10
  | _ => 36
theorem c8 {P : Nat → Prop} (h0 : P 0) (h1 : P 1) (h2 : P 2) (h3 : P 3) (h4 : P 4) (h5 : P 5) (h6 : P 6) (h7 : P 7) {ci : Nat} (h : ci < 8) : P ci := by
  have hc : ci = 0 ∨ ci = 1 ∨ ci = 2 ∨ ci = 3 ∨ ci = 4 ∨ ci = 5 ∨ ci = 6 ∨ ci = 7 := by omega
  rcases hc with rfl | rfl | rfl | rfl | rfl | rfl | rfl | rfl <;> assumption
theorem vwCl_at {ci : Nat} (h : ci < 8) : vwCl[ci]? = some (cNm ci, cTb ci, cNf ci) := c8 (P := fun ci => vwCl[ci]? = some (cNm ci, cTb ci, cNf ci)) rfl rfl rfl rfl rfl rfl rfl rfl h
theorem cTy_ok {ci : Nat} (h : ci < 8) : ∀ k, k < cNf ci → parseFieldDescriptor (cTb ci k).2.2.1 = some (cTy ci k) :=
  c8 (P := fun ci => ∀ k, k < cNf ci → parseFieldDescriptor (cTb ci k).2.2.1 = some (cTy ci k)) tyX0_ok tyX1_ok tyX2_ok tyX3_ok tyX4_ok tyX5_ok tyX6_ok tyX7_ok h
theorem cNm_ok {ci : Nat} (h : ci < 8) : ∀ a, a < cNf ci → ∀ b, b < cNf ci → a ≠ b → (cTb ci a).2.1 ≠ (cTb ci b).2.1 :=
  c8 (P := fun ci => ∀ a, a < cNf ci → ∀ b, b < cNf ci → a ≠ b → (cTb ci a).2.1 ≠ (cTb ci b).2.1) nmX0 nmX1 nmX2 nmX3 nmX4 nmX5 nmX6 nmX7 h
set_option maxRecDepth 100000 in
theorem cIn_all : ((List.range 8).all fun ci => (u_ws (cNm ci) (cTb ci) (cNf ci)).all fun w => decide (w ∈ lw_tbl) && goodWord w) = true := by decide +kernel
theorem cIn {ci : Nat} (h : ci < 8) : ∀ w ∈ u_ws (cNm ci) (cTb ci) (cNf ci), w ∈ gtbl := by
  intro w hw
  have h1 := List.all_eq_true.mp cIn_all ci (List.mem_range.mpr h)
  have h2 := List.all_eq_true.mp h1 w hw
  simp only [Bool.and_eq_true, decide_eq_true_eq] at h2
  exact gmem h2.1 h2.2
/-- what a field holds: 0 an int, 1 a long, 2 a reference -/
def fkd (ci j : Nat) : Nat := match cTy ci j with
  | .long => 1
  | .array _ => 2
  | .object _ => 2
  | _ => 0
def fv (G : GP) (I : Hi) (R : Hr) (L : Hl) (ci k j : Nat) : Value := match fkd ci j with
  | 0 => .int (I k j)
  | 1 => .long (L k j)
  | _ => va_rf ((R k j).map (gN G + ·))
def fvs (G : GP) (I : Hi) (R : Hr) (L : Hl) (ci k : Nat) : List Value := (List.range (cNf ci)).map (fv G I R L ci k)
/-- a cell: 0 .. 7 an object, 8 an int array, 9 a boolean array, 10 an array of Now -/
def ce (G : GP) (I : Hi) (R : Hr) (L : Hl) (k : Nat) (sh : Nat × Nat) : va_E :=
  if sh.1 < 8 then .inr (sh.1, fvs G I R L sh.1 k)
  else if sh.1 = 8 then .inl (gI G, sh.2, .inl (I k))
  else if sh.1 = 9 then .inl (gZ G, sh.2, .inl (I k))
  else .inl (gQ G, sh.2, .inr (.inr (.inr (.inr (fun j => (R k j).map (gN G + ·))))))
def wd (G : GP) (S : Shp) (I : Hi) (R : Hr) (L : Hl) : va_W := S.mapIdx (fun k sh => (gN G + k, ce G I R L k sh))
section BASE
variable {G : GP} {S : Shp} {I I' : Hi} {R R' : Hr} {L L' : Hl} {k j : Nat} {sh : Nat × Nat}
theorem wd_at (h : S[k]? = some sh) : (wd G S I R L)[k]? = some (gN G + k, ce G I R L k sh) := by
  simp [wd, List.getElem?_mapIdx, h]
theorem wd_inv {q : Nat × va_E} (h : (wd G S I R L)[k]? = some q) : ∃ sh, S[k]? = some sh ∧ q = (gN G + k, ce G I R L k sh) := by
  rw [wd, List.getElem?_mapIdx] at h
  cases hs : S[k]? with
  | none => rw [hs] at h; cases h
  | some sh => rw [hs] at h; exact ⟨sh, rfl, (Option.some.inj h).symm⟩
theorem wd_D : va_D (gA G) (wd G S I R L) := by
  refine ⟨fun i j p q hp hq e => ?_, fun k q hq => ?_⟩
  · obtain ⟨_, _, rfl⟩ := wd_inv hp
    obtain ⟨_, _, rfl⟩ := wd_inv hq
    have e : gN G + i = gN G + j := e
    omega
  · obtain ⟨_, _, rfl⟩ := wd_inv hq
    exact Nat.le_add_right _ _
theorem fvs_congr {ci : Nat} (hi : I' k = I k) (hr : R' k = R k) (hl : L' k = L k) : fvs G I' R' L' ci k = fvs G I R L ci k := by
  have : fv G I' R' L' ci k = fv G I R L ci k := by
    funext j
    simp only [fv, hi, hr, hl]
  simp only [fvs, this]
theorem ce_congr (hi : I' k = I k) (hr : R' k = R k) (hl : L' k = L k) : ce G I' R' L' k sh = ce G I R L k sh := by
  simp only [ce, fvs_congr hi hr hl, hi, hr]
theorem wd_set (h : S[k]? = some sh) (hi : ∀ a, a ≠ k → I' a = I a) (hr : ∀ a, a ≠ k → R' a = R a) (hl : ∀ a, a ≠ k → L' a = L a) : (wd G S I R L).set k (gN G + k, ce G I' R' L' k sh) = wd G S I' R' L' := by
  have hk : k < (wd G S I R L).length := (List.getElem?_eq_some_iff.mp (wd_at (G := G) (I := I) (R := R) (L := L) h)).1
  apply List.ext_getElem?
  intro i
  by_cases hik : i = k
  · subst hik
    rw [List.getElem?_set_self hk, wd_at h]
  · rw [List.getElem?_set_ne (Ne.symm hik)]
    simp only [wd, List.getElem?_mapIdx]
    cases S[i]? with
    | none => rfl
    | some s2 => simp only [Option.map_some]; rw [ce_congr (hi i hik) (hr i hik) (hl i hik)]
theorem wd_push (hi : ∀ a, a < S.length → I' a = I a) (hr : ∀ a, a < S.length → R' a = R a) (hl : ∀ a, a < S.length → L' a = L a) : wd G (S ++ [sh]) I' R' L' = wd G S I R L ++ [(gN G + S.length, ce G I' R' L' S.length sh)] := by
  apply List.ext_getElem?
  intro i
  have hlen : (wd G S I R L).length = S.length := by simp [wd]
  by_cases h1 : i < S.length
  · rw [List.getElem?_append_left (by rw [hlen]; exact h1)]
    simp only [wd, List.getElem?_mapIdx]
    rw [List.getElem?_append_left h1]
    cases S[i]? with
    | none => rfl
    | some s2 => simp only [Option.map_some]; rw [ce_congr (hi i h1) (hr i h1) (hl i h1)]
  · by_cases h2 : i = S.length
    · subst h2
      rw [List.getElem?_append_right (by rw [hlen]; exact Nat.le_refl _), hlen, Nat.sub_self]
      simp only [wd, List.getElem?_mapIdx]
      rw [List.getElem?_append_right (Nat.le_refl _), Nat.sub_self]
      rfl
    · rw [List.getElem?_eq_none (by simp [wd]; omega), List.getElem?_eq_none (by simp [wd]; omega)]
theorem fvs_at {ci : Nat} (hj : j < cNf ci) : (fvs G I R L ci k)[j]? = some (fv G I R L ci k j) := by
  simp [fvs, hj]
theorem ce_obj (h : sh.1 < 8) : ce G I R L k sh = .inr (sh.1, fvs G I R L sh.1 k) := by simp [ce, h]
theorem ce_int {n : Nat} : ce G I R L k (8, n) = .inl (gI G, n, .inl (I k)) := rfl
theorem ce_bool {n : Nat} : ce G I R L k (9, n) = .inl (gZ G, n, .inl (I k)) := rfl
theorem ce_ref {n : Nat} : ce G I R L k (10, n) = .inl (gQ G, n, .inr (.inr (.inr (.inr (fun j => (R k j).map (gN G + ·)))))) := rfl
end BASE
/-! updates -/
def u2 {α : Type} (f : Nat → Nat → α) (k j : Nat) (v : α) : Nat → Nat → α := fun a b => if a = k ∧ b = j then v else f a b
def rs {α : Type} (f : Nat → Nat → α) (k : Nat) (g : Nat → α) : Nat → Nat → α := fun a b => if a = k then g b else f a b
section UPD
variable {α : Type} {f : Nat → Nat → α} {k j a b : Nat} {v : α} {g : Nat → α}
theorem u2_s : u2 f k j v k j = v := if_pos ⟨rfl, rfl⟩
theorem u2_r (h : a ≠ k) : u2 f k j v a b = f a b := if_neg fun q => h q.1
theorem u2_c (h : b ≠ j) : u2 f k j v a b = f a b := if_neg fun q => h q.2
theorem u2_row (h : a ≠ k) : u2 f k j v a = f a := funext fun _ => u2_r h
theorem rs_s : rs f k g k b = g b := if_pos rfl
theorem rs_sr : rs f k g k = g := funext fun _ => rs_s
theorem rs_r (h : a ≠ k) : rs f k g a b = f a b := if_neg h
theorem rs_row (h : a ≠ k) : rs f k g a = f a := funext fun _ => rs_r h
end UPD
section FLD
variable {G : GP} {S : Shp} {I : Hi} {R : Hr} {L : Hl} {k j ci : Nat}
theorem fvs_setI {x : Int32} (hk : fkd ci j = 0) : (fvs G I R L ci k).set j (.int x) = fvs G (u2 I k j x) R L ci k := by
  apply List.ext_getElem?
  intro i
  by_cases hij : i = j
  · subst hij
    by_cases hl : i < cNf ci
    · rw [List.getElem?_set_self (by simp [fvs, hl]), fvs_at hl]
      simp only [fv, hk, u2_s]
    · rw [List.getElem?_eq_none (by simp [fvs]; omega), List.getElem?_eq_none (by simp [fvs]; omega)]
  · rw [List.getElem?_set_ne (Ne.symm hij)]
    by_cases hl : i < cNf ci
    · rw [fvs_at hl, fvs_at hl]
      simp only [fv, u2_c (a := k) hij]
    · rw [List.getElem?_eq_none (by simp [fvs]; omega), List.getElem?_eq_none (by simp [fvs]; omega)]
theorem fvs_setL {x : Int64} (hk : fkd ci j = 1) : (fvs G I R L ci k).set j (.long x) = fvs G I R (u2 L k j x) ci k := by
  apply List.ext_getElem?
  intro i
  by_cases hij : i = j
  · subst hij
    by_cases hl : i < cNf ci
    · rw [List.getElem?_set_self (by simp [fvs, hl]), fvs_at hl]
      simp only [fv, hk, u2_s]
    · rw [List.getElem?_eq_none (by simp [fvs]; omega), List.getElem?_eq_none (by simp [fvs]; omega)]
  · rw [List.getElem?_set_ne (Ne.symm hij)]
    by_cases hl : i < cNf ci
    · rw [fvs_at hl, fvs_at hl]
      simp only [fv, u2_c (a := k) hij]
    · rw [List.getElem?_eq_none (by simp [fvs]; omega), List.getElem?_eq_none (by simp [fvs]; omega)]
theorem fvs_setR {x : Nat} (hk : fkd ci j = 2) : (fvs G I R L ci k).set j (.ref (gN G + x)) = fvs G I (u2 R k j (some x)) L ci k := by
  apply List.ext_getElem?
  intro i
  by_cases hij : i = j
  · subst hij
    by_cases hl : i < cNf ci
    · rw [List.getElem?_set_self (by simp [fvs, hl]), fvs_at hl]
      simp only [fv, hk, u2_s]
      rfl
    · rw [List.getElem?_eq_none (by simp [fvs]; omega), List.getElem?_eq_none (by simp [fvs]; omega)]
  · rw [List.getElem?_set_ne (Ne.symm hij)]
    by_cases hl : i < cNf ci
    · rw [fvs_at hl, fvs_at hl]
      simp only [fv, u2_c (a := k) hij]
    · rw [List.getElem?_eq_none (by simp [fvs]; omega), List.getElem?_eq_none (by simp [fvs]; omega)]
end FLD
/-! values, locals -/
def rv (G : GP) : Value → Value
  | .ref k => .ref (gN G + k)
  | .float _ => .ref (gB G)
  | v => v
theorem rv_cat (G : GP) (v : Value) : (rv G v).category = v.category := by cases v <;> rfl
theorem rv_cats (G : GP) (st : List Value) : ((st.map (rv G)).map fun v => v.category).sum = (st.map fun v => v.category).sum := by
  rw [List.map_map]
  congr 1
  apply List.map_congr_left
  intro v _
  exact rv_cat G v
/-- the locals: .null says nothing of its place -/
def lrel (G : GP) (la : Array Slot) (nL : Nat) (ls : List Value) : Prop := la.size = nL ∧ lv_wf la ∧ ∀ (i : Nat) (v : Value), ls[i]? = some v → v ≠ .null → la[i]? = some (.val (rv G v))
/-- no long stands right before place i -/
def okl (ls : List Value) (i : Nat) : Bool := match i with
  | 0 => true
  | j + 1 => match ls[j]? with
    | some (.long _) => false
    | some (.double _) => false
    | _ => true
theorem okl_spec {ls : List Value} {i j : Nat} {v : Value} (h : okl ls i = true) (hj : j + 1 = i) (hv : ls[j]? = some v) : v.category ≠ 2 := by
  subst hj
  simp only [okl, hv] at h
  cases v <;> simp_all [Value.category]
def al (G : GP) (ls : List Value) : List (Nat × Value) := (ls.zipIdx.filter (fun q => !(q.1 == .null))).map (fun q => (q.2, rv G q.1))
theorem al_mem {G : GP} {ls : List Value} {q : Nat × Value} (h : q ∈ al G ls) : ∃ v, ls[q.1]? = some v ∧ v ≠ .null ∧ q.2 = rv G v := by
  obtain ⟨x, hx, rfl⟩ := List.mem_map.mp h
  obtain ⟨h1, h2⟩ := List.mem_filter.mp hx
  obtain ⟨v, i⟩ := x
  have h3 := List.mem_zipIdx_iff_getElem?.mp h1
  exact ⟨v, h3, by simpa using h2, rfl⟩
theorem al_in {G : GP} {ls : List Value} {i : Nat} {v : Value} (h : ls[i]? = some v) (hv : v ≠ .null) : (i, rv G v) ∈ al G ls := by
  refine List.mem_map.mpr ⟨(v, i), List.mem_filter.mpr ⟨List.mem_zipIdx_iff_getElem?.mpr h, ?_⟩, rfl⟩
  simpa using hv
theorem lrel.has {G : GP} {la : Array Slot} {nL : Nat} {ls : List Value} (h : lrel G la nL ls) : lv_has la nL (al G ls) := by
  refine ⟨h.1, h.2.1, fun q hq => ?_⟩
  obtain ⟨v, h1, h2, h3⟩ := al_mem hq
  rw [h3]
  exact h.2.2 q.1 v h1 h2
theorem lrel.store1 {G : GP} {la' : Array Slot} {nL i : Nat} {ls : List Value} {v : Value} (ho : okl ls i = true) (h' : lv_has la' nL ((i, rv G v) :: (al G ls).filter (fun q => !(q.1 == i) && !(q.1 + 1 == i && q.2.category == 2)))) : lrel G la' nL (ls.set i v) := by
  refine ⟨h'.1, h'.2.1, fun j w hj hw => ?_⟩
  by_cases hji : j = i
  · subst hji
    have hlt : j < ls.length := by
      have := (List.getElem?_eq_some_iff.mp hj).1
      simpa using this
    rw [List.getElem?_set_self hlt] at hj
    cases hj
    exact h'.2.2 (j, rv G v) List.mem_cons_self
  · rw [List.getElem?_set_ne (Ne.symm hji)] at hj
    refine h'.2.2 (j, rv G w) (List.mem_cons_of_mem _ (List.mem_filter.mpr ⟨al_in hj hw, ?_⟩))
    have h2 : ∀ _ : j + 1 = i, ¬ (rv G w).category = 2 := fun e => by rw [rv_cat]; exact okl_spec ho e hj
    by_cases hj1 : j + 1 = i
    · simp [hji, h2 hj1]
    · simp [hji, hj1]
theorem lrel.store2 {G : GP} {la' : Array Slot} {nL i : Nat} {ls : List Value} {v : Value} (ho : okl ls i = true) (h' : lv_has la' nL ((i, rv G v) :: (al G ls).filter (fun q => !(q.1 == i) && (!(q.1 == i + 1) && !(q.1 + 1 == i && q.2.category == 2))))) : lrel G la' nL ((ls.set i v).set (i + 1) .null) := by
  refine ⟨h'.1, h'.2.1, fun j w hj hw => ?_⟩
  by_cases hji1 : j = i + 1
  · subst hji1
    have hlt : i + 1 < (ls.set i v).length := by
      have := (List.getElem?_eq_some_iff.mp hj).1
      simpa using this
    rw [List.getElem?_set_self hlt] at hj
    cases hj
    exact absurd rfl hw
  · rw [List.getElem?_set_ne (Ne.symm hji1)] at hj
    by_cases hji : j = i
    · subst hji
      have hlt : j < ls.length := by
        have := (List.getElem?_eq_some_iff.mp hj).1
        simpa using this
      rw [List.getElem?_set_self hlt] at hj
      cases hj
      exact h'.2.2 (j, rv G v) List.mem_cons_self
    · rw [List.getElem?_set_ne (Ne.symm hji)] at hj
      refine h'.2.2 (j, rv G w) (List.mem_cons_of_mem _ (List.mem_filter.mpr ⟨al_in hj hw, ?_⟩))
      have h2 : ∀ _ : j + 1 = i, ¬ (rv G w).category = 2 := fun e => by rw [rv_cat]; exact okl_spec ho e hj
      by_cases hj1 : j + 1 = i
      · simp [hji, hji1, h2 hj1]
      · simp [hji, hji1, hj1]
/-- the locals at a method's entry -/
def el : List Value → List Value
  | [] => []
  | v :: vs => if v.category = 2 then v :: .null :: el vs else v :: el vs
theorem el_at (G : GP) : ∀ (vs : List Value) (b i : Nat) (v : Value), (el vs)[i]? = some v → v ≠ .null → (b + i, rv G v) ∈ lv_args b (vs.map (rv G))
  | [], _, _, _, h, _ => by simp [el] at h
  | w :: vs, b, i, v, h, hv => by
    simp only [el] at h
    simp only [List.map_cons, lv_args, rv_cat]
    by_cases hc : w.category = 2
    · rw [if_pos hc] at h ⊢
      match i, h with
      | 0, h => cases h; exact List.mem_cons_self
      | 1, h => cases h; exact absurd rfl hv
      | i + 2, h =>
        have := el_at G vs (b + 2) i v h hv
        rw [show b + (i + 2) = b + 2 + i by omega]
        exact List.mem_cons_of_mem _ this
    · rw [if_neg hc] at h ⊢
      match i, h with
      | 0, h => cases h; exact List.mem_cons_self
      | i + 1, h =>
        have := el_at G vs (b + 1) i v h hv
        rw [show b + (i + 1) = b + 1 + i by omega]
        exact List.mem_cons_of_mem _ this
theorem el_len (G : GP) : ∀ (vs : List Value), (lg_sl (vs.map (rv G))).length = (el vs).length
  | [] => rfl
  | v :: vs => by
    have ih := el_len G vs
    simp only [lg_sl, List.map_cons, List.flatMap_cons, List.length_append, el, rv_cat] at ih ⊢
    by_cases hc : v.category = 2
    · rw [if_pos hc, if_pos hc]; simp only [List.length_cons, List.length_nil]; omega
    · rw [if_neg hc, if_neg hc]; simp only [List.length_cons, List.length_nil]; omega
/-- more places that say nothing -/
theorem lrel.pad {G : GP} {la : Array Slot} {nL n : Nat} {ls : List Value} (h : lrel G la nL ls) : lrel G la nL (ls ++ List.replicate n .null) := by
  refine ⟨h.1, h.2.1, fun i v hv hn => ?_⟩
  by_cases hl : i < ls.length
  · rw [List.getElem?_append_left hl] at hv
    exact h.2.2 i v hv hn
  · rw [List.getElem?_append_right (by omega)] at hv
    have := List.mem_of_getElem? hv
    exact absurd (List.mem_replicate.mp this).2 hn
