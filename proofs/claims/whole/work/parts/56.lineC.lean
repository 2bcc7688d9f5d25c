/-! the model's line -/
def R9 (a : Nat) (I : Hi) (l : List Nat) : Prop := ∀ j, j < l.length → I a j = nI (gq l j)
theorem gq_set {l : List Nat} {a j x : Nat} (h : a < l.length) : gq (l.set a x) j = if j = a then x else gq l j := by
  unfold gq
  rw [List.getD_eq_getElem?_getD, List.getD_eq_getElem?_getD, List.getElem?_set]
  by_cases hj : j = a
  · subst hj
    rw [if_pos rfl, if_pos h, if_pos rfl]
    rfl
  · rw [if_neg (fun h => hj h.symm), if_neg hj]
section LNC
variable {c d : Nat} {I J K : Hi} {L : Hl} {q : Ct} {lf s : Nat}
theorem R9.swap {l : List Nat} (h : R9 94 I l) {a b : Nat} (ha : a < l.length) (hb : b < l.length) : R9 94 (u2 (u2 I 94 a (nI (gq l b))) 94 b (nI (gq l a))) (swp l a b) := by
  intro j hj
  unfold swp at hj ⊢
  rw [List.length_set, List.length_set] at hj
  rw [gq_set (by rw [List.length_set]; exact hb), gq_set ha]
  by_cases h1 : j = b
  · subst h1; rw [u2_s, if_pos rfl]
  · rw [u2_c h1, if_neg h1]
    by_cases h2 : j = a
    · subst h2; rw [u2_s, if_pos rfl]
    · rw [u2_c h2, if_neg h2]; exact h j hj
theorem swp_len {l : List Nat} {a b : Nat} : (swp l a b).length = l.length := by unfold swp; rw [List.length_set, List.length_set]
theorem rvs_len : ∀ (n : Nat) (l : List Nat) (a b : Nat), (rvs n l a b).length = l.length
  | 0, _, _, _ => rfl
  | n + 1, l, a, b => by
    rw [rvs]
    split
    · rfl
    · rw [rvs_len n, swp_len]
theorem l_nR : ∀ (n f : Nat) (I : Hi) (l : List Nat) (a b : Nat), R9 94 I l → l.length ≤ 6 → b < l.length → b ≤ a + 2 * n → a + n ≤ 20 → n < f → ∃ K, b_X7_nextOrder_100 f I (nI a) (nI b) = some (true, K) ∧ R9 94 K (rvs n l a b) ∧ ∀ x y, x ≠ 94 → K x y = I x y
  | 0, f + 1, I, l, a, b, h, h6, hb, hab, ha, hf => ⟨I, by rw [b_X7_nextOrder_100, if_pos ((nIle (by omega) (by omega)).mpr (by omega))], h, fun _ _ _ => rfl⟩
  | n + 1, f + 1, I, l, a, b, h, h6, hb, hab, ha, hf => by
    by_cases hc : b ≤ a
    · exact ⟨I, by rw [b_X7_nextOrder_100, if_pos ((nIle (by omega) (by omega)).mpr hc)], by rw [rvs, if_pos hc]; exact h, fun _ _ _ => rfl⟩
    · obtain ⟨K, k1, k2, k3⟩ := l_nR n f (u2 (u2 I 94 a (nI (gq l b))) 94 b (nI (gq l a))) (swp l a b) (a + 1) (b - 1) (h.swap (by omega) hb) (by rw [swp_len]; exact h6) (by rw [swp_len]; omega) (by omega) (by omega) (by omega)
      refine ⟨K, ?_, by rw [rvs, if_neg hc]; exact k2, fun x y hx => by rw [k3 x y hx, u2_r hx, u2_r hx]⟩
      have va : vinb (nI a) 6 = true := vinT (by omega) (by omega)
      have vb : vinb (nI b) 6 = true := vinT (by omega) (by omega)
      have eb : nI b + (-1) = nI (b - 1) := by
        rw [addm1]
        have : b = b - 1 + 1 := by omega
        rw [this, nI_pred]; rfl
      rw [b_X7_nextOrder_100, if_neg (by rw [nIle (by omega) (by omega)]; exact hc), if_pos va, if_pos vb, if_pos va, nIn (by omega), nIn (by omega), h a (by omega), h b hb, obs, if_pos vb, obs, nI_1, eb]
      exact k1
theorem l_nA {l : List Nat} (h : R9 94 I l) (h6 : l.length ≤ 6) (hv : ∀ j, gq l j < 6) : ∀ (j f : Nat), j + 1 ≤ l.length → j < f → b_X7_nextOrder_4 f I (nI l.length) (nI j - 1) = b_X7_nextOrder_31 I (nI l.length) (match fA l j with
    | none => -1
    | some t => nI t)
  | 0, f + 1, hj, hf => by rw [b_X7_nextOrder_4, if_pos (by decide), fA]; rfl
  | j + 1, f + 1, hj, hf => by
    have ih := l_nA h h6 hv j f (by omega) (by omega)
    rw [b_X7_nextOrder_4, nI_pred, if_neg (nIp (by omega)), if_pos (vinT (by omega) (by omega)), nI_1, if_pos (vinT (by omega) (by omega)), nIn (by omega), nIn (by omega), h j (by omega), h (j + 1) (by omega), fA]
    have := hv j
    have := hv (j + 1)
    by_cases hc : gq l j ≤ gq l (j + 1)
    · rw [if_pos ((nIle (by omega) (by omega)).mpr hc), if_pos hc]
    · rw [if_neg (by rw [nIle (by omega) (by omega)]; exact hc), if_neg hc, addm1, ih]
theorem fA_lt {l : List Nat} : ∀ {j t : Nat}, fA l j = some t → t < j
  | 0, t, h => by cases h
  | j + 1, t, h => by
    rw [fA] at h
    split at h
    · cases h; omega
    · have := fA_lt h; omega
theorem fB_lt {l : List Nat} {i : Nat} : ∀ {j t : Nat}, fB l i j = some t → t < j
  | 0, t, h => by cases h
  | j + 1, t, h => by
    rw [fB] at h
    split at h
    · cases h; omega
    · have := fB_lt h; omega
theorem l_nB {l : List Nat} (h : R9 94 I l) (h6 : l.length ≤ 6) (hv : ∀ j, gq l j < 6) {i t : Nat} (hi : i < l.length) : ∀ (j f : Nat), j ≤ l.length → j < f → fB l i j = some t → b_X7_nextOrder_41 f I (nI l.length) (nI i) (nI j - 1) = b_X7_nextOrder_62 I (nI l.length) (nI i) (nI t)
  | 0, f + 1, hj, hf, hb => by cases hb
  | j + 1, f + 1, hj, hf, hb => by
    have ih := l_nB (t := t) h h6 hv hi j f (by omega) (by omega)
    rw [b_X7_nextOrder_41, nI_pred, if_pos (vinT (by omega) (by omega)), if_pos (vinT (by omega) (by omega)), nIn (by omega), nIn (by omega), h j (by omega), h i hi]
    have := hv j
    have := hv i
    rw [fB] at hb
    by_cases hc : gq l i ≤ gq l j
    · rw [if_pos hc] at hb
      cases hb
      rw [if_pos ((nIle (by omega) (by omega)).mpr hc)]
    · rw [if_neg hc] at hb
      rw [if_neg (by rw [nIle (by omega) (by omega)]; exact hc), addm1, ih hb]
theorem m2 : ∀ m, m < 7 → nI (m + 1) - 2 = nI m - 1 := by
  intro m hm
  have : m = 0 ∨ m = 1 ∨ m = 2 ∨ m = 3 ∨ m = 4 ∨ m = 5 ∨ m = 6 := by omega
  rcases this with rfl | rfl | rfl | rfl | rfl | rfl | rfl <;> decide
theorem e_next0 {l : List Nat} (h : R9 94 I l) (h6 : l.length ≤ 6) (hv : ∀ j, gq l j < 6) (hn : nxL l = none) : f_X7_nextOrder I (nI l.length) = some (false, I) := by
  cases hl : l.length with
  | zero => rw [f_X7_nextOrder, b_X7_nextOrder_4, if_pos (by decide), b_X7_nextOrder_31, if_neg (by decide)]
  | succ m =>
    have la := l_nA h h6 hv m 2000 (by omega) (by omega)
    rw [hl] at la
    unfold nxL at hn
    rw [hl, Nat.add_sub_cancel] at hn
    cases ha : fA l m with
    | none =>
      rw [ha] at la
      rw [f_X7_nextOrder, m2 m (by omega), la, b_X7_nextOrder_31, if_neg (by decide)]
    | some j =>
      rw [ha] at hn
      simp only [] at hn
      split at hn <;> cases hn
theorem e_next1 {l l' : List Nat} (h : R9 94 I l) (h6 : l.length ≤ 6) (hv : ∀ j, gq l j < 6) (hn : nxL l = some l') (hll : l'.length = l.length) : ∃ K, f_X7_nextOrder I (nI l.length) = some (true, K) ∧ R9 94 K l' ∧ ∀ x y, x ≠ 94 → K x y = I x y := by
  cases hl : l.length with
  | zero =>
    unfold nxL at hn
    rw [hl] at hn
    cases hn
  | succ m =>
    have la := l_nA h h6 hv m 2000 (by omega) (by omega)
    unfold nxL at hn
    rw [hl] at la
    rw [hl, Nat.add_sub_cancel] at hn
    cases ha : fA l m with
    | none => rw [ha] at hn; cases hn
    | some j =>
      have hj := fA_lt ha
      rw [ha] at hn la
      simp only [] at hn la
      cases hb : fB l j (m + 1) with
      | none =>
        rw [hb] at hn
        cases hn
        rw [hl] at hll
        cases hll
      | some k =>
        have hk := fB_lt hb
        rw [hb] at hn
        simp only [Option.some.injEq] at hn
        have lb := l_nB (t := k) h h6 hv (show j < l.length by omega) (m + 1) 2000 (by omega) (by omega) hb
        rw [hl, nI_pred] at lb
        obtain ⟨K, k1, k2, k3⟩ := l_nR 6 2000 (u2 (u2 I 94 j (nI (gq l k))) 94 k (nI (gq l j))) (swp l j k) (j + 1) m (h.swap (by omega) (by omega)) (by rw [swp_len]; exact h6) (by rw [swp_len]; omega) (by omega) (by omega) (by omega)
        rw [hn] at k2
        refine ⟨K, ?_, k2, fun x y hx => by rw [k3 x y hx, u2_r hx, u2_r hx]⟩
        have vj : vinb (nI j) 6 = true := vinT (by omega) (by omega)
        have vk : vinb (nI k) 6 = true := vinT (by omega) (by omega)
        rw [f_X7_nextOrder, m2 m (by omega), la, b_X7_nextOrder_31, if_pos (show (0 : Int32) ≤ nI j from (nIle (a := 0) (by omega) (by omega)).mpr (by omega)), nI_pred, lb, b_X7_nextOrder_62, if_pos vj, if_pos vk, if_pos vj, nIn (by omega), nIn (by omega), h j (by omega), h k (by omega), obs, if_pos vk, obs, nI_1, nI_pred]
        exact k1
def bx (a : Bst) : Int32 := match a with
  | none => -1
  | some v => nI v.1
def bl (a : Bst) : List Nat := match a with
  | none => []
  | some v => v.2
theorem vlu_le (q : Ct) (lf : Nat) : ∀ (l : List Nat) (i : Nat), vlu (gain q lf) i l ≤ l.length
  | [], _ => Nat.le_refl _
  | g :: r, i => by
    have := vlu_le q lf r (i + 1)
    have := gain_le q lf i g
    rw [vlu, List.length_cons]
    omega
theorem vlu_0 {q : Ct} (hz : qL q = 0) (lf : Nat) : ∀ (l : List Nat) (i : Nat), vlu (gain q lf) i l = 0
  | [], _ => rfl
  | g :: r, i => by
    rw [vlu, vlu_0 hz lf r (i + 1), show gain q lf i g = 0 from if_pos (if_neg (fun h => absurd h.1 (by rw [hz]; exact Nat.not_lt_zero _)))]
theorem drop_c {l : List Nat} {i : Nat} (h : i < l.length) : l.drop i = gq l i :: l.drop (i + 1) := by
  rw [List.drop_eq_getElem_cons h, gq, List.getD_eq_getElem?_getD, List.getElem?_eq_getElem h]
  rfl
theorem l_72 (hCT : CT I c q) (h83 : I 83 1 = nI lf) (hl : lf < 1000) {p : List Nat} (hp : R9 94 I p) (h6 : p.length ≤ 6) (hG : ∀ j, j < p.length → gq p j < qG q) (k61 : Hi → Int32 → Int32 → Int32 → Bool → Option (Int32 × Hi)) (x1 x3 : Int32) : ∀ (m i f v : Nat), i + m = p.length → m < f → b_X7_line_72 k61 f I x1 (nI p.length) x3 (nI v) (nI i) = b_X7_line_129 k61 I x1 (nI p.length) x3 (nI (v + vlu (gain q lf) i (p.drop i)))
  | 0, i, f + 1, v, hi, hf => by
    rw [b_X7_line_72, if_pos ((nIle (by omega) (by omega)).mpr (by omega)), List.drop_eq_nil_of_le (by omega), vlu, Nat.add_zero]
  | m + 1, i, f + 1, v, hi, hf => by
    have ih := fun v => l_72 hCT h83 hl hp h6 hG k61 x1 x3 m (i + 1) f v (by omega) (by omega)
    have h5 := hCT.L5
    have hG6 := hCT.G6
    have hgi := hG i (by omega)
    rw [b_X7_line_72, if_neg (by rw [nIle (by omega) (by omega)]; omega), hCT.1.2.1]
    by_cases hz : qL q = 0
    · rw [if_pos (by rw [hz]; decide), vlu_0 hz, Nat.add_zero]
    · have hm : (lf + i) % qL q < qL q := Nat.mod_lt _ (by omega)
      rw [if_neg (show ¬ nI (qL q) ≤ 0 from fun h => hz (by have := (nIle (b := 0) (by omega) (by omega)).mp h; omega)), if_pos (show vinb 1 21 = true by decide), if_neg (fun h => hz ((nI_0iff (by omega)).mp h)), if_pos (vinT (by omega) (by omega)), show (1 : Int32).toNatClampNeg = 1 from by decide, h83, nI_add, pk_rem (by omega) (by omega) (by omega), nIn (by omega), hp i (by omega), m_lets hCT hm hgi, obs, drop_c (show i < p.length by omega), vlu]
      have eg : gain q lf i (gq p i) = if lets q ((lf + i) % qL q) (gq p i) = true then 1 else 0 := by
        rw [gain, if_neg hz, gd_eq hm hgi, lets]
        by_cases h0 : qlv q ((lf + i) % qL q) &&& qgv q (gq p i) = 0
        · rw [if_pos h0, decide_eq_false (fun h => h h0), if_neg (by decide)]
        · rw [if_neg h0, decide_eq_true h0, if_pos rfl]
      rw [eg]
      cases lets q ((lf + i) % qL q) (gq p i) with
      | true =>
        rw [if_pos rfl, if_pos rfl, b_X7_line_120, nI_1, show bI true = nI 1 from rfl, nI_add, ih, Nat.add_assoc]
      | false =>
        rw [if_neg (by decide), if_neg (by decide), b_X7_line_120, nI_1, show bI false = nI 0 from rfl, nI_add, ih, Nat.add_zero, Nat.zero_add]
theorem oks_of {m : Nat} {l : List Nat} (h : oks s m l = true) : l.length = m ∧ (∀ j, gq l j < 6) ∧ ∀ j, j < l.length → s.testBit (gq l j) = true := by
  unfold oks at h
  rw [Bool.and_eq_true, decide_eq_true_eq] at h
  have ha := List.all_eq_true.mp h.2
  have hm : ∀ j (hj : j < l.length), gq l j ∈ l := fun j hj => by
    rw [gq, List.getD_eq_getElem?_getD, List.getElem?_eq_getElem hj]
    exact List.getElem_mem hj
  refine ⟨h.1, fun j => ?_, fun j hj => ?_⟩
  · by_cases hj : j < l.length
    · have := ha _ (hm j hj)
      rw [Bool.and_eq_true, decide_eq_true_eq] at this
      exact this.1
    · rw [gq, List.getD_eq_getElem?_getD, List.getElem?_eq_none (by omega)]
      decide
  · have := ha _ (hm j hj)
    rw [Bool.and_eq_true] at this
    exact this.2
theorem l_61s (hl : lf < 1000) {m : Nat} (h6 : m ≤ 6) (hS : ∀ g, s.testBit g = true → g < qG q) (x1 : Int32) (p : List Nat) (a : Bst) (f : Nat) (hCT : CT I c q) (h83 : I 83 1 = nI lf) (hp : R9 94 I p) (hk : oks s m p = true) (h95 : R9 95 I (bl a)) (hb : ∀ v, a = some v → v.1 ≤ 6) : ∃ K, b_X7_line_61 (f + 1) I x1 (nI m) (bx a) true = b_X7_line_152 (b_X7_line_61 f) K x1 (nI m) (bx (upb a (vlu (gain q lf) 0 p) p)) ∧ R9 95 K (bl (upb a (vlu (gain q lf) 0 p) p)) ∧ (∀ x y, x ≠ 95 → K x y = I x y) ∧ ∀ v, upb a (vlu (gain q lf) 0 p) p = some v → v.1 ≤ 6 := by
  obtain ⟨k1, k2, k3⟩ := oks_of hk
  have hv := vlu_le q lf p 0
  have l7 := l_72 hCT h83 hl hp (by omega) (fun j hj => hS _ (k3 j hj)) (b_X7_line_61 f) x1 (bx a) p.length 0 2000 0 (by omega) (by omega)
  rw [k1, List.drop_zero, Nat.zero_add] at l7
  generalize hw : vlu (gain q lf) 0 p = w at l7 hv
  have hcp : R9 95 (cpy 94 0 95 0 m I) p := by
    intro j hj
    rw [cpy, if_pos (by omega), Nat.zero_add, Nat.sub_zero]
    exact hp j hj
  have yes : ∀ (hne : ¬ nI w ≤ bx a), b_X7_line_61 (f + 1) I x1 (nI m) (bx a) true = b_X7_line_152 (b_X7_line_61 f) (cpy 94 0 95 0 m I) x1 (nI m) (nI w) := by
    intro hne
    rw [b_X7_line_61, if_pos rfl, show b_X7_line_72 (b_X7_line_61 f) 2000 I x1 (nI m) (bx a) 0 0 = _ from l7, b_X7_line_129, if_neg hne, show f_X7_copies 94 6 95 6 I 0 0 (nI m) = _ from e_copies (s := 0) (t := 0) (by decide) (by omega) (by omega) (by decide) (by decide), obs]
  cases a with
  | none =>
    refine ⟨cpy 94 0 95 0 m I, yes ?_, hcp, fun x y hx => by rw [cpy, if_neg (by omega)], fun v hv => ?_⟩
    · intro h
      have := Int32.le_iff_toInt_le.mp h
      rw [nI_toInt (by omega)] at this
      have e1 : (bx none).toInt = -1 := by decide
      omega
    · cases hv
      show w ≤ 6
      omega
  | some v =>
    have hv6 := hb v rfl
    by_cases hlt : v.1 < w
    · refine ⟨cpy 94 0 95 0 m I, ?_, ?_, fun x y hx => by rw [cpy, if_neg (by omega)], fun v hv => ?_⟩
      · rw [yes (by show ¬ nI w ≤ nI v.1; rw [nIle (by omega) (by omega)]; omega), upb, if_pos hlt]
        rfl
      · rw [upb, if_pos hlt]; exact hcp
      · rw [upb, if_pos hlt] at hv
        cases hv
        show w ≤ 6
        omega
    · refine ⟨I, ?_, ?_, fun x y hx => rfl, fun v hv => ?_⟩
      · rw [b_X7_line_61, if_pos rfl, show b_X7_line_72 (b_X7_line_61 f) 2000 I x1 (nI m) (bx (some v)) 0 0 = _ from l7, b_X7_line_129, if_pos (by show nI w ≤ nI v.1; rw [nIle (by omega) (by omega)]; omega), upb, if_neg hlt]
      · rw [upb, if_neg hlt]; exact h95
      · rw [upb, if_neg hlt] at hv
        cases hv
        exact hv6
theorem l_61 (hc : isC c) (hl : lf < 1000) {m : Nat} (h6 : m ≤ 6) (hS : ∀ g, s.testBit g = true → g < qG q) (x1 : Int32) : ∀ (ps : List (List Nat)) (p : List Nat) (a : Bst) (f : Nat) (I : Hi), CT I c q → I 83 1 = nI lf → R9 94 I p → chk s m (p :: ps) = true → R9 95 I (bl a) → (∀ v, a = some v → v.1 ≤ 6) → ps.length + 2 < f → ∃ K, b_X7_line_61 f I x1 (nI m) (bx a) true = b_X7_line_162 K x1 (nI m) (bx (ffl (vlu (gain q lf) 0) a (p :: ps))) ∧ R9 95 K (bl (ffl (vlu (gain q lf) 0) a (p :: ps))) ∧ ∀ x y, x ≠ 94 → x ≠ 95 → K x y = I x y
  | [], p, a, f + 2, I, hCT, h83, hp, hk, h95, hb, hf => by
    rw [chk, Bool.and_eq_true, Bool.and_eq_true] at hk
    obtain ⟨⟨ho, hn⟩, -⟩ := hk
    have hn := of_decide_eq_true hn
    obtain ⟨k1, k2, k3⟩ := oks_of ho
    obtain ⟨K, e1, e2, e3, e4⟩ := l_61s hl h6 hS x1 p a (f + 1) hCT h83 hp ho h95 hb
    have hpK : R9 94 K p := fun j hj => by rw [e3 _ _ (by decide)]; exact hp j hj
    have hx := e_next0 hpK (by omega) k2 hn
    rw [k1] at hx
    refine ⟨K, ?_, e2, fun x y h1 h2 => e3 x y h2⟩
    rw [e1, b_X7_line_152, hx, obs, b_X7_line_61, if_neg (show ¬ ((false : Bool) = true) by decide)]
    rfl
  | p2 :: ps, p, a, f + 2, I, hCT, h83, hp, hk, h95, hb, hf => by
    have hc3 := isC_r hc
    rw [chk, Bool.and_eq_true, Bool.and_eq_true] at hk
    obtain ⟨⟨ho, hn⟩, hk2⟩ := hk
    have hn : nxL p = some p2 := of_decide_eq_true hn
    obtain ⟨k1, k2, k3⟩ := oks_of ho
    have ho2 : oks s m p2 = true := by
      cases ps with
      | nil => rw [chk, Bool.and_eq_true, Bool.and_eq_true] at hk2; exact hk2.1.1
      | cons a r => rw [chk, Bool.and_eq_true, Bool.and_eq_true] at hk2; exact hk2.1.1
    obtain ⟨z1, -, -⟩ := oks_of ho2
    obtain ⟨K, e1, e2, e3, e4⟩ := l_61s hl h6 hS x1 p a (f + 1) hCT h83 hp ho h95 hb
    have hpK : R9 94 K p := fun j hj => by rw [e3 _ _ (by decide)]; exact hp j hj
    obtain ⟨M, m1, m2, m3⟩ := e_next1 hpK (by omega) k2 hn (by omega)
    rw [k1] at m1
    rw [List.length_cons] at hf
    obtain ⟨N, n1, n2, n3⟩ := l_61 hc hl h6 hS x1 ps p2 (upb a (vlu (gain q lf) 0 p) p) (f + 1) M (hCT.fr (fun x y h => by unfold KC at h; rw [m3 _ _ (by omega), e3 _ _ (by omega)])) (by rw [m3 _ _ (by decide), e3 _ _ (by decide)]; exact h83) m2 hk2 (fun j hj => by rw [m3 _ _ (by decide)]; exact e2 j hj) e4 (by omega)
    refine ⟨N, ?_, n2, fun x y h1 h2 => by rw [n3 x y h1 h2, m3 x y h1, e3 x y h2]⟩
    rw [e1, b_X7_line_152, m1, obs, n1]
    rfl
/-! those who are there, put in a row -/
theorem mem_none {r : Nat} : ∀ (m k : Nat), (∀ j, k ≤ j → j < k + m → r.testBit j = false) → mem r m k = []
  | 0, _, _ => rfl
  | m + 1, k, h => by
    rw [mem_s, if_neg (by rw [h k (by omega) (by omega)]; decide), mem_none m (k + 1) (fun j h1 h2 => h j (by omega) (by omega))]
theorem gq_app {l : List Nat} {x j : Nat} : gq (l ++ [x]) j = if j < l.length then gq l j else if j = l.length then x else 0 := by
  unfold gq
  rw [List.getD_eq_getElem?_getD, List.getD_eq_getElem?_getD]
  by_cases h : j < l.length
  · rw [if_pos h, List.getElem?_append_left h]
  · rw [if_neg h, List.getElem?_append_right (by omega)]
    by_cases h2 : j = l.length
    · rw [if_pos h2, h2, Nat.sub_self]; rfl
    · rw [if_neg h2, List.getElem?_eq_none (by rw [List.length_singleton]; omega)]; rfl
theorem l_20 {G : Nat} {wh : Nat → Nat} (h6 : G ≤ 6) (hs : ∀ g, g < 6 → s.testBit g = whp wh 1 g) (hG : ∀ g, g < 6 → G ≤ g → wh g = 0) (x1 : Int32) : ∀ (m k f : Nat) (l : List Nat) (I : Hi), I 77 2 = nI G → (∀ g, g < 6 → I 83 (3 + g) = nI (wh g) ∧ wh g ≤ 3) → k + m = 6 → m < f → l.length ≤ k → R9 94 I l → ∃ K, b_X7_line_20 f I x1 (nI l.length) (nI k) = b_X7_line_56 K x1 (nI (l ++ mem s m k).length) ∧ R9 94 K (l ++ mem s m k) ∧ ∀ x y, x ≠ 94 → K x y = I x y
  | m, k, f + 1, l, I, h77, h83, hk, hf, hl, hR => by
    by_cases hkG : G ≤ k
    · have e : mem s m k = [] := mem_none m k (fun j h1 h2 => by
        rw [hs j (by omega), whp, hG j (by omega) (by omega)]; decide)
      refine ⟨I, ?_, ?_, fun _ _ _ => rfl⟩
      · rw [b_X7_line_20, h77, if_pos ((nIle (by omega) (by omega)).mpr hkG), e, List.append_nil]
      · rw [e, List.append_nil]; exact hR
    · cases m with
      | zero => omega
      | succ m =>
        obtain ⟨w1, w2⟩ := h83 k (by omega)
        have v3 : vinb (3 + nI k) 21 = true := by rw [nIl 3, nI_add]; exact vinT (by omega) (by omega)
        have n3 : (3 + nI k).toNatClampNeg = 3 + k := by rw [nIl 3, nI_add]; exact nIn (by omega)
        rw [b_X7_line_20, h77, if_neg (by rw [nIle (by omega) (by omega)]; exact hkG), if_pos v3, n3, w1, mem_s, hs k (by omega), whp]
        by_cases hw : wh k = 1
        · obtain ⟨K, k1, k2, k3⟩ := l_20 h6 hs hG x1 m (k + 1) f (l ++ [k]) (u2 I 94 l.length (nI k)) (by rw [u2_r (by decide)]; exact h77) (fun g hg => by rw [u2_r (by decide)]; exact h83 g hg) (by omega) (by omega) (by rw [List.length_append, List.length_singleton]; omega) (fun j hj => by
            rw [List.length_append, List.length_singleton] at hj
            rw [gq_app]
            by_cases hj2 : j < l.length
            · rw [if_pos hj2, u2_c (by omega)]; exact hR j hj2
            · rw [if_neg hj2, if_pos (by omega), show j = l.length by omega, u2_s])
          rw [List.append_assoc] at k1 k2
          rw [List.length_append, List.length_singleton] at k1
          rw [decide_eq_true hw, if_pos rfl]
          refine ⟨K, ?_, k2, fun x y hx => by rw [k3 x y hx, u2_r hx]⟩
          rw [if_pos (by rw [hw]; rfl), if_pos (vinT (by omega) (by omega)), nIn (by omega), obs, b_X7_line_50, nI_1, nI_1, k1]
          rfl
        · obtain ⟨K, k1, k2, k3⟩ := l_20 h6 hs hG x1 m (k + 1) f l I h77 h83 (by omega) (by omega) (by omega) hR
          rw [decide_eq_false hw, if_neg (show ¬ ((false : Bool) = true) by decide)]
          refine ⟨K, ?_, k2, k3⟩
          rw [if_neg (show ¬ nI (wh k) = 1 from fun h => hw ((nIeq (b := 1) (by omega) (by omega)).mp h)), b_X7_line_50, nI_1, k1]
/-! the whole call -/
theorem rngm15 {α : Type} {x : Int32} {a b : α} : (if x < -1 then a else if x < 6 then b else a) = if (decide ((-1 : Int64).toInt ≤ x.toInt64.toInt) && decide (x.toInt64.toInt ≤ (5 : Int64).toInt)) = true then b else a := by
  rw [toL, show (-1 : Int64).toInt = -1 from by decide, show (5 : Int64).toInt = 5 from by decide]
  have e1 : (-1 : Int32).toInt = -1 := by decide
  have e9 : (6 : Int32).toInt = 6 := by decide
  by_cases h1 : x < -1
  · rw [if_pos h1]
    have := Int32.lt_iff_toInt_lt.mp h1
    rw [decide_eq_false (by omega), Bool.false_and, if_neg (by decide)]
  · rw [if_neg h1]
    have h1' : ¬ x.toInt < -1 := fun h => h1 (Int32.lt_iff_toInt_lt.mpr (by omega))
    rw [decide_eq_true (by omega), Bool.true_and]
    by_cases h2 : x < 6
    · rw [if_pos h2]
      have := Int32.lt_iff_toInt_lt.mp h2
      rw [if_pos (decide_eq_true (by omega))]
    · rw [if_neg h2]
      have h2' : ¬ x.toInt < 6 := fun h => h2 (Int32.lt_iff_toInt_lt.mpr (by omega))
      rw [decide_eq_false (by omega), if_neg (by decide)]
theorem ofm15 {x : Int32} (h : (decide ((-1 : Int64).toInt ≤ x.toInt64.toInt) && decide (x.toInt64.toInt ≤ (5 : Int64).toInt)) = true) : x = -1 ∨ ∃ k, x = nI k ∧ k < 6 := by
  rw [toL, show (-1 : Int64).toInt = -1 from by decide, show (5 : Int64).toInt = 5 from by decide, Bool.and_eq_true, decide_eq_true_eq, decide_eq_true_eq] at h
  by_cases h1 : x < 0
  · have := Int32.lt_iff_toInt_lt.mp h1
    rw [Int32.toInt_zero] at this
    refine Or.inl (Int32.toInt_inj.mp ?_)
    rw [show (-1 : Int32).toInt = -1 from by decide]
    omega
  · obtain ⟨k, hk, rfl⟩ := nI_of h1
    rw [nI_toInt hk] at h
    exact Or.inr ⟨k, rfl, by omega⟩
theorem nI_m1 {n : Nat} (h : n < 2147483648) : ¬ nI n = -1 := by
  intro hh
  have := congrArg Int32.toInt hh
  rw [nI_toInt (by omega)] at this
  have e9 : (-1 : Int32).toInt = -1 := by decide
  omega
theorem sim_line (h : Inv c d I L) (x : Int32) : ∃ r I1 I2, f_X6_line c d I x = some (r, I1) ∧ f_X7_line I1 x = some (r, I2) ∧ Inv c d I2 L := by
  have h0 := h
  obtain ⟨hc, hd, hcd, hL, hT, q, hCT, hNW, hHS, hIM, hSN⟩ := h
  have hc3 := isC_r hc
  have h6 := hCT.G6
  have h5 := hCT.L5
  have hN := hNW
  obtain ⟨mi, lf, pi, wh, ti, ⟨a1, a2, a3⟩, ⟨b1, b2, b3⟩, ⟨c1, c2, c3⟩, hg⟩ := hN
  rw [Nat.zero_add] at b2
  rw [f_X6_line, rngm15]
  by_cases hx : (decide ((-1 : Int64).toInt ≤ x.toInt64.toInt) && decide (x.toInt64.toInt ≤ (5 : Int64).toInt)) = true
  · rw [if_pos hx]
    have hw6 : ∀ g, g < 6 → I (15 + 1) g = nI (wh g) ∧ wh g ≤ 3 := fun g hg6 => ⟨(hg g hg6).1.1, (hg g hg6).1.2.2.1⟩
    have who := e_whoAre (I := I) (n := 15) (w := 1) (by decide) hw6
    have hs : bm (whp wh 1) 6 < 64 := bm_lt _ 6
    have hbit : ∀ g, (bm (whp wh 1) 6).testBit g = (decide (g < 6) && whp wh 1 g) := bm_test (whp wh 1) 6
    generalize bm (whp wh 1) 6 = s at who hs hbit
    have hS : ∀ g, s.testBit g = true → g < qG q := by
      intro g hgb
      rw [hbit, Bool.and_eq_true, decide_eq_true_eq, whp, decide_eq_true_eq] at hgb
      apply Nat.lt_of_not_le
      intro hle
      have := (hg g hgb.1).1.2.2.2 hle
      omega
    have hl : lf < 1000 := by omega
    have lw := l_weigh (q := q) (c := c) hc b1 hl hs (s + 1) 2000 I hCT b1 (by omega) (by omega) (fun t h1 h2 h3 => by omega)
    obtain ⟨W, w1, w2, w3⟩ := lw
    rw [nI_pred] at w1
    have hWC : CT W c q := hCT.fr (fun a b h => by unfold KC at h; exact w3 _ _ (by omega))
    have pn := pc_le s
    have l20 := l_20 (s := s) (G := qG q) (wh := wh) h6 (fun g hg6 => by rw [hbit, decide_eq_true hg6, Bool.true_and]) (fun g hg6 hle => (hg g hg6).1.2.2.2 hle) x 6 0 2000 [] W (by rw [w3 _ _ (by decide)]; exact hCT.2.1.2.1) (fun g hg6 => by
      rw [w3 _ _ (by decide)]
      have z2 := (hg g hg6).1.2.1
      rw [Nat.zero_add] at z2
      exact ⟨z2, (hg g hg6).1.2.2.1⟩) (by omega) (by omega) (Nat.le_refl _) (fun j hj => absurd hj (Nat.not_lt_zero _))
    obtain ⟨A, m1, m2, m3⟩ := l20
    rw [List.nil_append] at m1 m2
    rw [mem_len hs] at m1
    obtain ⟨q1, q2, q3⟩ := chk_s hs
    cases hps : pmt s (pc s) 0 with
    | nil => rw [hps] at q2; cases q2
    | cons p ps =>
      rw [hps] at q1 q2 q3
      rw [List.head?_cons, Option.some.injEq] at q2
      rw [← q2] at m2
      rw [List.length_cons] at q3
      obtain ⟨N, n1, n2, n3⟩ := l_61 (q := q) (lf := lf) (s := s) (c := c) hc hl pn hS x ps p none 2000 A (hWC.fr (fun a b h => by unfold KC at h; exact m3 _ _ (by omega))) (by rw [m3 _ _ (by decide), w3 _ _ (by decide)]; exact b2) m2 q1 (fun j hj => absurd hj (Nat.not_lt_zero _)) (fun v hv => by cases hv) (by omega)
      have hbest := best_all (gain := gain q lf) hs (vlu (gain q lf) 0) (pc s) 0 id 0 none (by decide) (by rw [sd, Nat.zero_and]) (by rw [sd_0 hs]) (fun p => by rw [show pc 0 = 0 from by decide, Nat.zero_add]; rfl)
      rw [List.map_id, hps, Nat.zero_add] at hbest
      rw [hbest] at n1 n2
      have hB : Bv s q lf 0 = bsv s (gain q lf) (pc s) 0 := by rw [Bv, sd_0 hs]
      have hB6 := Bv_le (s := s) (q := q) (lf := lf) (t := 0)
      have mod : f_X7_line W x = b_X7_line_162 N x (nI (pc s)) (nI (bsv s (gain q lf) (pc s) 0)) := by
        rw [f_X7_line, in_eq, obs, if_pos hx, show b_X7_line_20 2000 W x 0 0 = _ from m1, b_X7_line_56]
        exact n1
      have hfin : Inv c d N L := by
        have nF : ∀ a b, a ≠ 68 → a ≠ 94 → a ≠ 95 → N a b = I a b := fun a b k1 k2 k3 => by rw [n3 a b k2 k3, m3 a b k2, w3 a b k1]
        refine ⟨hc, hd, hcd, hL, hT.fr (fun a b h => nF _ _ (by omega) (by omega) (by omega)), q, hCT.fr (fun a b h => ?_), hNW.fr (fun a b h => nF _ _ (by omega) (by omega) (by omega)), hHS.fr (fun a b h => nF _ _ (by omega) (by omega) (by omega)), hIM.fr (fun a b h => nF _ _ (by omega) (by omega) (by omega)), hSN.fr (fun a b h => nF _ _ (by omega) (by omega) (by omega))⟩
        unfold KC at h
        exact nF _ _ (by omega) (by omega) (by omega)
      rw [f_X2_weigh, show f_X3_whoAre 15 I 1 = _ from who, obs, w1, obs]
      rcases ofm15 hx with rfl | ⟨k, rfl, hk⟩
      · refine ⟨nI (bsv s (gain q lf) (pc s) 0), W, N, ?_, ?_, hfin⟩
        · rw [if_pos rfl, if_pos (by decide), show (0 : Int32).toNatClampNeg = 0 from by decide, w2 0 (Nat.zero_le _) (by rw [sd, Nat.zero_and]), hB]
        · rw [mod, b_X7_line_162, if_pos rfl]
      · have lg := l_goerAt hWC (show W 15 1 = nI lf by rw [w3 _ _ (by decide)]; exact b1) hl hs w2 hk (k + 1) 0 (pc s) 0 2000 (-9) (by omega) (by decide) (by rw [sd, Nat.zero_and]) (by rw [sd_0 hs]) (by omega)
        rw [if_neg (by omega), Nat.add_sub_cancel] at lg
        have who2 := e_whoAre (I := W) (n := 15) (w := 1) (by decide) (fun g hg6 => by rw [w3 _ _ (by decide)]; exact hw6 g hg6)
        have es : bm (whp wh 1) 6 = s := by
          apply Nat.eq_of_testBit_eq
          intro i
          rw [bm_test, hbit]
        rw [es] at who2
        refine ⟨if k + 1 ≤ pc s then nI (gq (grd s (gain q lf) (pc s) 0) k) else -9, W, N, ?_, ?_, hfin⟩
        · rw [if_neg (nI_m1 (by omega)), f_X2_goerAt, show f_X3_whoAre 15 W 1 = _ from who2, obs, show b_X2_goerAt_17 c 15 W 2000 (nI k) (nI s) 0 (-9) 0 = _ from lg, obs]
        · rw [mod, b_X7_line_162, if_neg (nI_m1 (by omega))]
          by_cases hkp : k + 1 ≤ pc s
          · rw [if_neg (by rw [nIle (by omega) (by omega)]; omega), if_pos hkp, if_pos (vinT (by omega) (by omega)), nIn (by omega)]
            have hgl : k < (grd s (gain q lf) (pc s) 0).length := by
              have : ∀ n t, (grd s (gain q lf) n t).length = n := by
                intro n
                induction n with
                | zero => intro t; rfl
                | succ n ih => intro t; rw [grd_c, List.length_cons, ih]
              rw [this]; omega
            rw [n2 k hgl]
            rfl
          · rw [if_pos ((nIle (by omega) (by omega)).mpr (by omega)), if_neg hkp]
  · refine ⟨-1, I, I, by rw [if_neg hx], ?_, h0⟩
    rw [f_X7_line, in_eq, obs, if_neg hx]
end LNC
