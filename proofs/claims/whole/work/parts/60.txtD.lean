/-! the items -/
def TsD (d row fI fJ rJ cap : Nat) (I J : Hi) : Prop := ∃ (n : Nat) (v : Nat → Nat), (I d fI = nI n ∧ J 77 fJ = nI n ∧ n ≤ cap) ∧ ∀ j, j < n → I row j = nI (v j) ∧ J rJ j = nI (v j) ∧ v j < 64
def SiD (d : Nat) (I J : Hi) : Prop := ∃ (n : Nat) (v : Nat → Nat), (I d 7 = nI n ∧ J 77 28 = nI n ∧ n ≤ 4) ∧ ∀ j, j < 6 * n → I (d + 3) j = nI (v j) ∧ J 91 j = nI (v j) ∧ v j < 6
def FrD (d : Nat) (I J : Hi) : Prop := ∃ (n : Nat) (m r : Nat → Nat), (I d 8 = nI n ∧ J 77 30 = nI n ∧ n ≤ 3) ∧ ∀ j, j < n → (I (d + 4) j = nI (m j) ∧ J 92 j = nI (m j) ∧ 2 ≤ m j ∧ m j ≤ 12) ∧ (I (d + 5) j = nI (r j) ∧ J 93 j = nI (r j) ∧ r j < m j)
def LnD (d : Nat) (I J : Hi) : Prop := ∃ ln : Nat, I d 9 = nI ln ∧ 1 ≤ ln ∧ ln ≤ 9 ∧ ((I 1 5 = 0 ∧ J 77 33 = 0 ∧ ln = 3) ∨ (I 1 5 = 1 ∧ J 77 33 = nI ln))
def DR (d : Nat) (I J : Hi) : Prop := TsD d (d + 1) 5 24 89 5 I J ∧ TsD d (d + 2) 6 26 90 6 I J ∧ SiD d I J ∧ FrD d I J ∧ LnD d I J
def CFr (d : Nat) (I I' : Hi) : Prop := ∀ a b, ¬ (a = 1 ∧ 2 ≤ b) → ¬ (d ≤ a ∧ a ≤ d + 5) → I' a b = I a b
def MFr (J J' : Hi) : Prop := ∀ a b, ¬ (a = 77 ∧ 20 ≤ b ∧ b ≤ 33) → ¬ (89 ≤ a ∧ a ≤ 93) → J' a b = J a b
section TXD
variable {I J I' J' : Hi} {tl d : Nat} {tx : Nat → Nat}
theorem TsD.fr {row fI fJ rJ cap : Nat} (h : TsD d row fI fJ rJ cap I J) (h1 : ∀ a b, ((a = d ∧ b = fI) ∨ a = row) → I' a b = I a b) (h2 : ∀ a b, ((a = 77 ∧ b = fJ) ∨ a = rJ) → J' a b = J a b) : TsD d row fI fJ rJ cap I' J' := by
  obtain ⟨n, v, ⟨a1, a2, a3⟩, h⟩ := h
  refine ⟨n, v, ⟨by rw [h1 _ _ (by omega)]; exact a1, by rw [h2 _ _ (by omega)]; exact a2, a3⟩, fun j hj => ?_⟩
  rw [h1 row j (by omega), h2 rJ j (by omega)]
  exact h j hj
theorem SiD.fr (h : SiD d I J) (h1 : ∀ a b, ((a = d ∧ b = 7) ∨ a = d + 3) → I' a b = I a b) (h2 : ∀ a b, ((a = 77 ∧ b = 28) ∨ a = 91) → J' a b = J a b) : SiD d I' J' := by
  obtain ⟨n, v, ⟨a1, a2, a3⟩, h⟩ := h
  refine ⟨n, v, ⟨by rw [h1 _ _ (by omega)]; exact a1, by rw [h2 _ _ (by omega)]; exact a2, a3⟩, fun j hj => ?_⟩
  rw [h1 _ j (by omega), h2 _ j (by omega)]
  exact h j hj
theorem FrD.fr (h : FrD d I J) (h1 : ∀ a b, ((a = d ∧ b = 8) ∨ a = d + 4 ∨ a = d + 5) → I' a b = I a b) (h2 : ∀ a b, ((a = 77 ∧ b = 30) ∨ a = 92 ∨ a = 93) → J' a b = J a b) : FrD d I' J' := by
  obtain ⟨n, m, r, ⟨a1, a2, a3⟩, h⟩ := h
  refine ⟨n, m, r, ⟨by rw [h1 _ _ (by omega)]; exact a1, by rw [h2 _ _ (by omega)]; exact a2, a3⟩, fun j hj => ?_⟩
  rw [h1 (d + 4) j (by omega), h2 92 j (by omega), h1 (d + 5) j (by omega), h2 93 j (by omega)]
  exact h j hj
theorem LnD.fr (h : LnD d I J) (h1 : ∀ a b, ((a = d ∧ b = 9) ∨ (a = 1 ∧ b = 5)) → I' a b = I a b) (h2 : J' 77 33 = J 77 33) : LnD d I' J' := by
  obtain ⟨ln, a1, a2, a3, h⟩ := h
  exact ⟨ln, by rw [h1 _ _ (by omega)]; exact a1, a2, a3, by rw [h1 1 5 (by omega), h2]; exact h⟩
theorem K2.fr {k st en : Nat} (h : K2 I J tl tx k st en) (h1 : ∀ b, 2 ≤ b → b ≤ 4 → I' 1 b = I 1 b) (h2 : ∀ b, 20 ≤ b → b ≤ 23 → J' 77 b = J 77 b) : K2 I' J' tl tx k st en := by
  obtain ⟨⟨a1, a2, a3⟩, ⟨b1, b2, b3⟩, ⟨c1, c2, c3⟩, h4, h5⟩ := h
  refine ⟨⟨by rw [h1 _ (by decide) (by decide)]; exact a1, by rw [h2 _ (by decide) (by decide)]; exact a2, a3⟩, ⟨by rw [h1 _ (by decide) (by decide)]; exact b1, by rw [h2 _ (by decide) (by decide)]; exact b2, b3⟩, ⟨by rw [h1 _ (by decide) (by decide)]; exact c1, by rw [h2 _ (by decide) (by decide)]; exact c2, c3⟩, h4, fun k => ?_⟩
  rw [h2 _ (by decide) (by decide)]
  exact h5 k
def ITEM (tl : Nat) (tx : Nat → Nat) (d : Nat) (I J : Hi) (rc rm : Option (Bool × Hi)) (st : Nat) : Prop :=
  (∃ I' J' s, rc = some (false, I') ∧ rm = some (false, J') ∧ I' 1 3 = nI s ∧ J' 77 21 = nI s ∧ s ≤ 160 ∧ CFr d I I' ∧ MFr J J') ∨
  (∃ I' J1 J2 k s e, rc = some (true, I') ∧ rm = some (true, J1) ∧ f_X7_step J1 = some J2 ∧ K2 I' J2 tl tx k s e ∧ T2 I' J2 tl tx ∧ DR d I' J2 ∧ st + 2 ≤ s ∧ CFr d I I' ∧ MFr J J2)
theorem it_Leaf (hd : d = 3 ∨ d = 9) (h : T2 I J tl tx) {k st en : Nat} (hK : K2 I J tl tx k st en) (hk : k ≠ 0) (hD : DR d I J) : ITEM tl tx d I J (f_X5_readLeaf d I) (f_X7_isLeaf J) st := by
  have h160 := h.1.2.2
  have hse := hK.2.2.2.1 hk
  obtain ⟨D1, D2, D3, D4, D5⟩ := hD
  obtain ⟨n, v, ⟨a1, a2, a3⟩, hv⟩ := D1
  obtain ⟨-, ⟨b1, b2, b3⟩, ⟨c1, c2, c3⟩, -⟩ := id hK
  by_cases hn : n = 5
  · refine Or.inl ⟨I, J, st, ?_, ?_, b1, b2, by omega, fun _ _ _ _ => rfl, fun _ _ _ _ => rfl⟩
    · rw [f_X5_readLeaf, f_X5_readTastes, a1, if_neg (by rw [nIlt (by omega) (by omega)]; omega), obs]
      exact if_neg Bool.false_ne_true
    · rw [f_X7_isLeaf, a2, nIl 5, if_pos (by rw [hn])]
  · obtain ⟨k1, s1, e1, I1, J1, p1, p2, hK1, hs1, F1, G1⟩ := step2 h c1 c2 c3
    have hT1 : T2 I1 J1 tl tx := h.fr (fun a b k => F1 _ _ (by omega)) (fun a b k => G1 _ _ (by omega))
    have hr := e_isRow hT1 (mn := 1) hK1 (by omega)
    have hm := l_mrow hT1 (mn := 1) hK1 (by omega) (e1 - s1) s1 2000 0 (by have := hK1.2.1.2.2; omega) (by have := hK1.2.2.1.2.2; omega)
    have hst1 : J1 77 21 = nI s1 := hK1.2.1.2.1
    have hsI1 : I1 1 3 = nI s1 := hK1.2.1.1
    have hE1 := hK1.2.2.1
    have hS1 := hK1.2.1.2.2
    rw [show (decide (k1 = 1) && (decide (1 ≤ e1 - s1) && (decide (e1 - s1 ≤ 6) && aaf tx (e1 - s1) s1))) = rok tx k1 s1 e1 1 from rfl] at hm
    have hrow : f_X7_row J 1 6 = some (if rok tx k1 s1 e1 1 = true then nI (rbs tx (e1 - s1) s1 0) else 0, J1) := by
      rw [f_X7_row, p2, obs, hst1]
      exact hm
    cases hok : rok tx k1 s1 e1 1 with
    | false =>
      rw [hok] at hr hrow
      refine Or.inl ⟨I1, J1, s1, ?_, ?_, hsI1, hst1, by omega, fun a b k1 k2 => F1 _ _ (by omega), fun a b k1 k2 => G1 _ _ (by omega)⟩
      · rw [f_X5_readLeaf, f_X5_readTastes, a1, if_pos ((nIlt (by omega) (by omega)).mpr (by omega)), p1, obs, show f_X5_isRow I1 1 = some false from hr, obs, if_neg (by decide), obs]
        exact if_neg Bool.false_ne_true
      · rw [f_X7_isLeaf, a2, if_neg (show ¬ nI n = (5 : Int32) from fun hh => hn ((nIeq (b := 5) (by omega) (by omega)).mp hh)), hrow, obs]
        exact if_pos rfl
    | true =>
      rw [hok, if_pos rfl] at hrow
      rw [hok] at hr
      unfold rok at hok
      rw [Bool.and_eq_true, Bool.and_eq_true, Bool.and_eq_true, decide_eq_true_eq, decide_eq_true_eq, decide_eq_true_eq] at hok
      obtain ⟨ok1, ok2, ok3, ok4⟩ := hok
      have hw := rbs_lt (tx := tx) (e1 - s1) s1 0 ok4 (by decide)
      have hwp := rbs_pos (tx := tx) (m := e1 - s1) (s := s1) (by omega)
      have hbits : f_X5_rowBits I1 = some (nI (rbs tx (e1 - s1) s1 0)) := by
        rw [f_X5_rowBits, hsI1]
        exact l_rowBits hT1 hE1.1 hE1.2.2 (e1 - s1) s1 2000 0 (by omega) (by omega) ok4
      generalize rbs tx (e1 - s1) s1 0 = w at hw hwp hbits hrow
      have j24 : J1 77 24 = nI n := by rw [G1 _ _ (by omega)]; exact a2
      obtain ⟨k2, s2, e2, I2, J2, q1, q2, hK2, hs2, F2, G2⟩ := step2 (I := u2 I1 (d + 1) n (nI w)) (J := u2 (u2 J1 89 n (nI w)) 77 24 (nI (n + 1))) (tl := tl) (tx := tx) (e := e1) (hT1.fr (fun a b k => by show u2 _ _ _ _ _ _ = _; exact if_neg (by omega)) (fun a b k => by simp only [u2]; rw [if_neg (by omega), if_neg (by omega)])) (by rw [u2_r (by omega)]; exact hE1.1) (by rw [u2_c (by decide), u2_r (by decide)]; exact hE1.2.1) hE1.2.2
      have i25 : I2 d 5 = nI n := by rw [F2 _ _ (by omega), u2_r (by omega), F1 _ _ (by omega)]; exact a1
      have FI2 : ∀ a b, ¬ (a = 1 ∧ 2 ≤ b ∧ b ≤ 4) → ¬ (a = d ∧ b = 5) → ¬ (a = d + 1 ∧ b = n) → u2 I2 d 5 (nI (n + 1)) a b = I a b := fun a b z1 z2 z3 => by
        refine (if_neg z2).trans ?_
        rw [F2 _ _ z1]
        exact (if_neg z3).trans (F1 _ _ z1)
      have GJ2 : ∀ a b, ¬ (a = 77 ∧ 20 ≤ b ∧ b ≤ 23) → ¬ (a = 77 ∧ b = 24) → ¬ (a = 89 ∧ b = n) → J2 a b = J a b := fun a b z1 z2 z3 => by
        rw [G2 _ _ z1]
        exact (if_neg z2).trans ((if_neg z3).trans (G1 _ _ z1))
      refine Or.inr ⟨u2 I2 d 5 (nI (n + 1)), _, J2, k2, s2, e2, ?_, ?_, q2, hK2.fr (fun b z1 z2 => u2_r (by omega)) (fun _ _ _ => rfl), h.fr (fun a b k => FI2 _ _ (by omega) (by omega) (by omega)) (fun a b k => GJ2 _ _ (by omega) (by omega) (by omega)), ?_, by omega, fun a b z1 z2 => FI2 _ _ (by omega) (by omega) (by omega), fun a b z1 z2 => GJ2 _ _ (by omega) (by omega) (by omega)⟩
      · rw [f_X5_readLeaf, f_X5_readTastes, a1, if_pos ((nIlt (by omega) (by omega)).mpr (by omega)), p1, obs, show f_X5_isRow I1 1 = some true from hr, obs, if_pos rfl, hbits, obs, if_pos (vinT (by omega) (by omega)), nIn (by omega), obs, q1, obs, obs]
        refine (if_pos rfl).trans ?_
        dsimp only
        rw [i25, nI_1, obs]
      · rw [f_X7_isLeaf, a2, if_neg (show ¬ nI n = (5 : Int32) from fun hh => hn ((nIeq (b := 5) (by omega) (by omega)).mp hh)), hrow, obs]
        refine (if_neg (show ¬ nI w = 0 from fun hh => by have := (nI_0iff (by omega)).mp hh; omega)).trans ?_
        refine (if_pos (show vinb (J1 77 24) 5 = true by rw [j24]; exact vinT (by omega) (by omega))).trans ?_
        show ((some (u2 J1 89 (J1 77 24).toNatClampNeg (nI w))).bind fun I33 => (some (u2 I33 77 24 (I33 77 24 + 1))).bind fun I41 => some (true, I41)) = _
        rw [j24, nIn (by omega), obs, u2_r (by decide), j24, nI_1, obs]
      · have new : TsD d (d + 1) 5 24 89 5 (u2 I2 d 5 (nI (n + 1))) J2 := by
          refine ⟨n + 1, fun j => if j = n then w else v j, ⟨u2_s, by rw [G2 _ _ (by omega)]; exact u2_s, by omega⟩, fun j hj => ?_⟩
          by_cases hjn : j = n
          · subst hjn
            simp only [if_true, eq_self]
            exact ⟨by rw [u2_r (by omega), F2 _ _ (by omega)]; exact u2_s, by rw [G2 _ _ (by omega), u2_r (by decide)]; exact u2_s, hw⟩
          · simp only [if_neg hjn]
            rw [FI2 _ _ (by omega) (by omega) (by omega), GJ2 _ _ (by omega) (by omega) (by omega)]
            exact hv j (by omega)
        exact ⟨new, D2.fr (fun a b k => FI2 _ _ (by omega) (by omega) (by omega)) (fun a b k => GJ2 _ _ (by omega) (by omega) (by omega)), D3.fr (fun a b k => FI2 _ _ (by omega) (by omega) (by omega)) (fun a b k => GJ2 _ _ (by omega) (by omega) (by omega)), D4.fr (fun a b k => FI2 _ _ (by omega) (by omega) (by omega)) (fun a b k => GJ2 _ _ (by omega) (by omega) (by omega)), D5.fr (fun a b k => FI2 _ _ (by omega) (by omega) (by omega)) (GJ2 _ _ (by omega) (by omega) (by omega))⟩
theorem it_Goer (hd : d = 3 ∨ d = 9) (h : T2 I J tl tx) {k st en : Nat} (hK : K2 I J tl tx k st en) (hk : k ≠ 0) (hD : DR d I J) : ITEM tl tx d I J (f_X5_readGoer d I) (f_X7_isGoer J) st := by
  have h160 := h.1.2.2
  have hse := hK.2.2.2.1 hk
  obtain ⟨D1, D2, D3, D4, D5⟩ := hD
  obtain ⟨n, v, ⟨a1, a2, a3⟩, hv⟩ := D2
  obtain ⟨-, ⟨b1, b2, b3⟩, ⟨c1, c2, c3⟩, -⟩ := id hK
  by_cases hn : n = 6
  · refine Or.inl ⟨I, J, st, ?_, ?_, b1, b2, by omega, fun _ _ _ _ => rfl, fun _ _ _ _ => rfl⟩
    · rw [f_X5_readGoer, f_X5_readTastes, a1, if_neg (by rw [nIlt (by omega) (by omega)]; omega), obs]
      exact if_neg Bool.false_ne_true
    · rw [f_X7_isGoer, a2, nIl 6, if_pos (by rw [hn])]
  · obtain ⟨k1, s1, e1, I1, J1, p1, p2, hK1, hs1, F1, G1⟩ := step2 h c1 c2 c3
    have hT1 : T2 I1 J1 tl tx := h.fr (fun a b k => F1 _ _ (by omega)) (fun a b k => G1 _ _ (by omega))
    have hr := e_isRow hT1 (mn := 1) hK1 (by omega)
    have hm := l_mrow hT1 (mn := 1) hK1 (by omega) (e1 - s1) s1 2000 0 (by have := hK1.2.1.2.2; omega) (by have := hK1.2.2.1.2.2; omega)
    have hst1 : J1 77 21 = nI s1 := hK1.2.1.2.1
    have hsI1 : I1 1 3 = nI s1 := hK1.2.1.1
    have hE1 := hK1.2.2.1
    have hS1 := hK1.2.1.2.2
    rw [show (decide (k1 = 1) && (decide (1 ≤ e1 - s1) && (decide (e1 - s1 ≤ 6) && aaf tx (e1 - s1) s1))) = rok tx k1 s1 e1 1 from rfl] at hm
    have hrow : f_X7_row J 1 6 = some (if rok tx k1 s1 e1 1 = true then nI (rbs tx (e1 - s1) s1 0) else 0, J1) := by
      rw [f_X7_row, p2, obs, hst1]
      exact hm
    cases hok : rok tx k1 s1 e1 1 with
    | false =>
      rw [hok] at hr hrow
      refine Or.inl ⟨I1, J1, s1, ?_, ?_, hsI1, hst1, by omega, fun a b k1 k2 => F1 _ _ (by omega), fun a b k1 k2 => G1 _ _ (by omega)⟩
      · rw [f_X5_readGoer, f_X5_readTastes, a1, if_pos ((nIlt (by omega) (by omega)).mpr (by omega)), p1, obs, show f_X5_isRow I1 1 = some false from hr, obs, if_neg (by decide), obs]
        exact if_neg Bool.false_ne_true
      · rw [f_X7_isGoer, a2, if_neg (show ¬ nI n = (6 : Int32) from fun hh => hn ((nIeq (b := 6) (by omega) (by omega)).mp hh)), hrow, obs]
        exact if_pos rfl
    | true =>
      rw [hok, if_pos rfl] at hrow
      rw [hok] at hr
      unfold rok at hok
      rw [Bool.and_eq_true, Bool.and_eq_true, Bool.and_eq_true, decide_eq_true_eq, decide_eq_true_eq, decide_eq_true_eq] at hok
      obtain ⟨ok1, ok2, ok3, ok4⟩ := hok
      have hw := rbs_lt (tx := tx) (e1 - s1) s1 0 ok4 (by decide)
      have hwp := rbs_pos (tx := tx) (m := e1 - s1) (s := s1) (by omega)
      have hbits : f_X5_rowBits I1 = some (nI (rbs tx (e1 - s1) s1 0)) := by
        rw [f_X5_rowBits, hsI1]
        exact l_rowBits hT1 hE1.1 hE1.2.2 (e1 - s1) s1 2000 0 (by omega) (by omega) ok4
      generalize rbs tx (e1 - s1) s1 0 = w at hw hwp hbits hrow
      have j24 : J1 77 26 = nI n := by rw [G1 _ _ (by omega)]; exact a2
      obtain ⟨k2, s2, e2, I2, J2, q1, q2, hK2, hs2, F2, G2⟩ := step2 (I := u2 I1 (d + 2) n (nI w)) (J := u2 (u2 J1 90 n (nI w)) 77 26 (nI (n + 1))) (tl := tl) (tx := tx) (e := e1) (hT1.fr (fun a b k => by show u2 _ _ _ _ _ _ = _; exact if_neg (by omega)) (fun a b k => by simp only [u2]; rw [if_neg (by omega), if_neg (by omega)])) (by rw [u2_r (by omega)]; exact hE1.1) (by rw [u2_c (by decide), u2_r (by decide)]; exact hE1.2.1) hE1.2.2
      have i25 : I2 d 6 = nI n := by rw [F2 _ _ (by omega), u2_r (by omega), F1 _ _ (by omega)]; exact a1
      have FI2 : ∀ a b, ¬ (a = 1 ∧ 2 ≤ b ∧ b ≤ 4) → ¬ (a = d ∧ b = 6) → ¬ (a = d + 2 ∧ b = n) → u2 I2 d 6 (nI (n + 1)) a b = I a b := fun a b z1 z2 z3 => by
        refine (if_neg z2).trans ?_
        rw [F2 _ _ z1]
        exact (if_neg z3).trans (F1 _ _ z1)
      have GJ2 : ∀ a b, ¬ (a = 77 ∧ 20 ≤ b ∧ b ≤ 23) → ¬ (a = 77 ∧ b = 26) → ¬ (a = 90 ∧ b = n) → J2 a b = J a b := fun a b z1 z2 z3 => by
        rw [G2 _ _ z1]
        exact (if_neg z2).trans ((if_neg z3).trans (G1 _ _ z1))
      refine Or.inr ⟨u2 I2 d 6 (nI (n + 1)), _, J2, k2, s2, e2, ?_, ?_, q2, hK2.fr (fun b z1 z2 => u2_r (by omega)) (fun _ _ _ => rfl), h.fr (fun a b k => FI2 _ _ (by omega) (by omega) (by omega)) (fun a b k => GJ2 _ _ (by omega) (by omega) (by omega)), ?_, by omega, fun a b z1 z2 => FI2 _ _ (by omega) (by omega) (by omega), fun a b z1 z2 => GJ2 _ _ (by omega) (by omega) (by omega)⟩
      · rw [f_X5_readGoer, f_X5_readTastes, a1, if_pos ((nIlt (by omega) (by omega)).mpr (by omega)), p1, obs, show f_X5_isRow I1 1 = some true from hr, obs, if_pos rfl, hbits, obs, if_pos (vinT (by omega) (by omega)), nIn (by omega), obs, q1, obs, obs]
        refine (if_pos rfl).trans ?_
        dsimp only
        rw [i25, nI_1, obs]
      · rw [f_X7_isGoer, a2, if_neg (show ¬ nI n = (6 : Int32) from fun hh => hn ((nIeq (b := 6) (by omega) (by omega)).mp hh)), hrow, obs]
        refine (if_neg (show ¬ nI w = 0 from fun hh => by have := (nI_0iff (by omega)).mp hh; omega)).trans ?_
        refine (if_pos (show vinb (J1 77 26) 6 = true by rw [j24]; exact vinT (by omega) (by omega))).trans ?_
        show ((some (u2 J1 90 (J1 77 26).toNatClampNeg (nI w))).bind fun I33 => (some (u2 I33 77 26 (I33 77 26 + 1))).bind fun I41 => some (true, I41)) = _
        rw [j24, nIn (by omega), obs, u2_r (by decide), j24, nI_1, obs]
      · have new : TsD d (d + 2) 6 26 90 6 (u2 I2 d 6 (nI (n + 1))) J2 := by
          refine ⟨n + 1, fun j => if j = n then w else v j, ⟨u2_s, by rw [G2 _ _ (by omega)]; exact u2_s, by omega⟩, fun j hj => ?_⟩
          by_cases hjn : j = n
          · subst hjn
            simp only [if_true, eq_self]
            exact ⟨by rw [u2_r (by omega), F2 _ _ (by omega)]; exact u2_s, by rw [G2 _ _ (by omega), u2_r (by decide)]; exact u2_s, hw⟩
          · simp only [if_neg hjn]
            rw [FI2 _ _ (by omega) (by omega) (by omega), GJ2 _ _ (by omega) (by omega) (by omega)]
            exact hv j (by omega)
        exact ⟨D1.fr (fun a b k => FI2 _ _ (by omega) (by omega) (by omega)) (fun a b k => GJ2 _ _ (by omega) (by omega) (by omega)), new, D3.fr (fun a b k => FI2 _ _ (by omega) (by omega) (by omega)) (fun a b k => GJ2 _ _ (by omega) (by omega) (by omega)), D4.fr (fun a b k => FI2 _ _ (by omega) (by omega) (by omega)) (fun a b k => GJ2 _ _ (by omega) (by omega) (by omega)), D5.fr (fun a b k => FI2 _ _ (by omega) (by omega) (by omega)) (GJ2 _ _ (by omega) (by omega) (by omega))⟩
theorem it_Lane (hd : d = 3 ∨ d = 9) (h : T2 I J tl tx) {k st en : Nat} (hK : K2 I J tl tx k st en) (hk : k ≠ 0) (hD : DR d I J) : ITEM tl tx d I J (f_X5_readLane d I) (f_X7_isLane J) st := by
  have h160 := h.1.2.2
  have hse := hK.2.2.2.1 hk
  obtain ⟨D1, D2, D3, D4, ln, l1, l2, l3, l4⟩ := hD
  obtain ⟨-, ⟨b1, b2, b3⟩, ⟨c1, c2, c3⟩, -⟩ := id hK
  rcases l4 with ⟨m1, m2, m3⟩ | ⟨m1, m2⟩
  · obtain ⟨k1, s1, e1, I1, J1, p1, p2, hK1, hs1, F1, G1⟩ := step2 h c1 c2 c3
    have hT1 : T2 I1 J1 tl tx := h.fr (fun a b k => F1 _ _ (by omega)) (fun a b k => G1 _ _ (by omega))
    have hr := e_isNumber hT1 (lo := 1) (hi := 9) hK1 (by omega) (by omega)
    have hm := m_number (lo := 1) (hi := 9) p2 hK1 (by omega) (by omega)
    have hst1 : J1 77 21 = nI s1 := hK1.2.1.2.1
    have hsI1 : I1 1 3 = nI s1 := hK1.2.1.1
    have hE1 := hK1.2.2.1
    have hS1 := hK1.2.1.2.2
    cases hok : (decide (k1 = 2) && (decide (1 ≤ nm tx (e1 - s1) s1 0) && decide (nm tx (e1 - s1) s1 0 ≤ 9))) with
    | false =>
      rw [hok] at hr hm
      refine Or.inl ⟨I1, J1, s1, ?_, ?_, hsI1, hst1, by omega, fun a b k1 k2 => F1 _ _ (by omega), fun a b k1 k2 => G1 _ _ (by omega)⟩
      · rw [f_X5_readLane, m1, if_pos rfl, p1, obs, show f_X5_isNumber I1 1 9 = some false from hr, obs, if_neg Bool.false_ne_true]
      · rw [f_X7_isLane, m2, if_neg (by decide), show f_X7_number J 1 9 = some (false, J1) from hm, obs]
        exact if_neg Bool.false_ne_true
    | true =>
      rw [hok] at hr hm
      rw [Bool.and_eq_true, Bool.and_eq_true, decide_eq_true_eq, decide_eq_true_eq, decide_eq_true_eq] at hok
      obtain ⟨ok1, ok2, ok3⟩ := hok
      have hnum := e_number hT1 hK1 ok1
      have hj := (hK1.2.2.2.2 ok1).2.1
      generalize nm tx (e1 - s1) s1 0 = w at ok2 ok3 hnum hj
      obtain ⟨k2, s2, e2, I2, J2, q1, q2, hK2, hs2, F2, G2⟩ := step2 (I := u2 (u2 I1 d 9 (nI w)) 1 5 1) (J := u2 J1 77 33 (nI w)) (tl := tl) (tx := tx) (e := e1) (hT1.fr (fun a b k => by simp only [u2]; rw [if_neg (by omega), if_neg (by omega)]) (fun a b k => by show u2 _ _ _ _ _ _ = _; exact if_neg (by omega))) (by rw [u2_c (by decide), u2_r (by omega)]; exact hE1.1) (by rw [u2_c (by decide)]; exact hE1.2.1) hE1.2.2
      have FI2 : ∀ a b, ¬ (a = 1 ∧ 2 ≤ b ∧ b ≤ 5) → ¬ (a = d ∧ b = 9) → I2 a b = I a b := fun a b z1 z2 => by
        rw [F2 _ _ (by omega)]
        exact (if_neg (by omega)).trans ((if_neg z2).trans (F1 _ _ (by omega)))
      have GJ2 : ∀ a b, ¬ (a = 77 ∧ 20 ≤ b ∧ b ≤ 23) → ¬ (a = 77 ∧ b = 33) → J2 a b = J a b := fun a b z1 z2 => by
        rw [G2 _ _ z1]
        exact (if_neg z2).trans (G1 _ _ z1)
      refine Or.inr ⟨I2, _, J2, k2, s2, e2, ?_, ?_, q2, hK2, h.fr (fun a b k => FI2 _ _ (by omega) (by omega)) (fun a b k => GJ2 _ _ (by omega) (by omega)), ?_, by have := hK1.2.2.2.1 (by omega); omega, fun a b z1 z2 => FI2 _ _ (by omega) (by omega), fun a b z1 z2 => GJ2 _ _ (by omega) (by omega)⟩
      · rw [f_X5_readLane, m1, if_pos rfl, p1, obs, show f_X5_isNumber I1 1 9 = some true from hr, obs, if_pos rfl, hnum, obs, obs, obs, q1, obs]
      · rw [f_X7_isLane, m2, if_neg (by decide), show f_X7_number J 1 9 = some (true, J1) from hm, obs]
        refine (if_pos rfl).trans ?_
        show ((some (u2 J1 77 33 (J1 77 23))).bind fun I24 => some (true, I24)) = _
        rw [hj, obs]
      · refine ⟨D1.fr (fun a b k => FI2 _ _ (by omega) (by omega)) (fun a b k => GJ2 _ _ (by omega) (by omega)), D2.fr (fun a b k => FI2 _ _ (by omega) (by omega)) (fun a b k => GJ2 _ _ (by omega) (by omega)), D3.fr (fun a b k => FI2 _ _ (by omega) (by omega)) (fun a b k => GJ2 _ _ (by omega) (by omega)), D4.fr (fun a b k => FI2 _ _ (by omega) (by omega)) (fun a b k => GJ2 _ _ (by omega) (by omega)), w, ?_, ok2, ok3, Or.inr ⟨?_, ?_⟩⟩
        · rw [F2 _ _ (by omega), u2_r (by omega), u2_s]
        · rw [F2 _ _ (by omega), u2_s]
        · rw [G2 _ _ (by omega), u2_s]
  · refine Or.inl ⟨I, J, st, ?_, ?_, b1, b2, by omega, fun _ _ _ _ => rfl, fun _ _ _ _ => rfl⟩
    · rw [f_X5_readLane, m1, if_neg (by decide)]
    · rw [f_X7_isLane, m2, if_pos (show (0 : Int32) < nI ln from (nIlt (a := 0) (by omega) (by omega)).mpr (by omega))]
theorem it_Friday (hd : d = 3 ∨ d = 9) (h : T2 I J tl tx) {k st en : Nat} (hK : K2 I J tl tx k st en) (hk : k ≠ 0) (hD : DR d I J) : ITEM tl tx d I J (f_X5_readFriday d I) (f_X7_isFriday J) st := by
  have h160 := h.1.2.2
  have hse := hK.2.2.2.1 hk
  obtain ⟨D1, D2, D3, ⟨n, vm, vr, ⟨a1, a2, a3⟩, hv⟩, D5⟩ := hD
  obtain ⟨-, ⟨b1, b2, b3⟩, ⟨c1, c2, c3⟩, -⟩ := id hK
  by_cases hn : n = 3
  · refine Or.inl ⟨I, J, st, ?_, ?_, b1, b2, by omega, fun _ _ _ _ => rfl, fun _ _ _ _ => rfl⟩
    · rw [f_X5_readFriday, a1, nIl 3, if_neg (by rw [nIlt (by omega) (by omega)]; omega)]
    · rw [f_X7_isFriday, a2, if_pos (by rw [hn]; rfl)]
  · have hn3 : ¬ nI n = (3 : Int32) := fun hh => hn ((nIeq (b := 3) (by omega) (by omega)).mp hh)
    have hl3 : nI n < (3 : Int32) := (nIlt (b := 3) (by omega) (by omega)).mpr (by omega)
    obtain ⟨k1, s1, e1, I1, J1, p1, p2, hK1, hs1, F1, G1⟩ := step2 h c1 c2 c3
    have hT1 : T2 I1 J1 tl tx := h.fr (fun a b k => F1 _ _ (by omega)) (fun a b k => G1 _ _ (by omega))
    have hr := e_isNumber hT1 (lo := 2) (hi := 12) hK1 (by omega) (by omega)
    have hm := m_number (lo := 2) (hi := 12) p2 hK1 (by omega) (by omega)
    have hst1 : J1 77 21 = nI s1 := hK1.2.1.2.1
    have hsI1 : I1 1 3 = nI s1 := hK1.2.1.1
    have hE1 := hK1.2.2.1
    have hS1 := hK1.2.1.2.2
    cases hok : (decide (k1 = 2) && (decide (2 ≤ nm tx (e1 - s1) s1 0) && decide (nm tx (e1 - s1) s1 0 ≤ 12))) with
    | false =>
      rw [hok] at hr hm
      refine Or.inl ⟨I1, J1, s1, ?_, ?_, hsI1, hst1, by omega, fun a b k1 k2 => F1 _ _ (by omega), fun a b k1 k2 => G1 _ _ (by omega)⟩
      · rw [f_X5_readFriday, a1, if_pos hl3, p1, obs, show f_X5_isNumber I1 2 12 = some false from hr, obs, if_neg Bool.false_ne_true]
      · rw [f_X7_isFriday, a2, if_neg hn3, show f_X7_number J 2 12 = some (false, J1) from hm, obs]
        exact if_neg Bool.false_ne_true
    | true =>
      rw [hok] at hr hm
      rw [Bool.and_eq_true, Bool.and_eq_true, decide_eq_true_eq, decide_eq_true_eq, decide_eq_true_eq] at hok
      obtain ⟨ok1, ok2, ok3⟩ := hok
      have hnum := e_number hT1 hK1 ok1
      have hj := (hK1.2.2.2.2 ok1).2.1
      have hgt1 := hK1.2.2.2.1 (by omega)
      generalize nm tx (e1 - s1) s1 0 = w at ok2 ok3 hnum hj
      have ew : nI w - 1 = nI (w - 1) := by
        have : w = w - 1 + 1 := by omega
        rw [this, nI_pred]; rfl
      obtain ⟨k2, s2, e2, I2, J2, q1, q2, hK2, hs2, F2, G2⟩ := step2 hT1 hE1.1 hE1.2.1 hE1.2.2
      have hT2 : T2 I2 J2 tl tx := hT1.fr (fun a b k => F2 _ _ (by omega)) (fun a b k => G2 _ _ (by omega))
      have hr2 := e_isNumber hT2 (lo := 0) (hi := w - 1) hK2 (by omega) (by omega)
      have hm2 := m_number (lo := 0) (hi := w - 1) q2 hK2 (by omega) (by omega)
      have hst2 : J2 77 21 = nI s2 := hK2.2.1.2.1
      have hsI2 : I2 1 3 = nI s2 := hK2.2.1.1
      have hE2 := hK2.2.2.1
      have hS2 := hK2.2.1.2.2
      have hcls : f_X5_readFriday d I = (f_X5_isNumber I2 0 (nI w - 1)).bind fun r40 => if r40 = true then (if vinb (I2 d 8) 3 then (some (u2 I2 (d + 4) (I2 d 8).toNatClampNeg (nI w))).bind fun I57 => (f_X5_number I57).bind fun r67 => if vinb (I57 d 8) 3 then (some (u2 I57 (d + 5) (I57 d 8).toNatClampNeg r67)).bind fun I70 => (some (u2 I70 d 8 (I70 d 8 + 1))).bind fun I78 => (f_X5_step I78).bind fun r82 => some (true, r82) else none else none) else (some (false, I2)) := by
        rw [f_X5_readFriday, a1, if_pos hl3, p1, obs, show f_X5_isNumber I1 2 12 = some true from hr, obs, if_pos rfl, hnum, obs, q1, obs]
      have hmod : f_X7_isFriday J = (f_X7_number J1 0 (J1 77 23 - 1)).bind fun r30 => if r30.1 = true then (if vinb (r30.2 77 30) 3 then (some (u2 r30.2 92 (r30.2 77 30).toNatClampNeg (J1 77 23))).bind fun I47 => if vinb (I47 77 30) 3 then (some (u2 I47 93 (I47 77 30).toNatClampNeg (I47 77 23))).bind fun I60 => (some (u2 I60 77 30 (I60 77 30 + 1))).bind fun I68 => some (true, I68) else none else none) else (some (false, r30.2)) := by
        rw [f_X7_isFriday, a2, if_neg hn3, show f_X7_number J 2 12 = some (true, J1) from hm, obs]
        exact if_pos rfl
      rw [hj, ew] at hmod
      rw [ew] at hcls
      cases hok2 : (decide (k2 = 2) && (decide (0 ≤ nm tx (e2 - s2) s2 0) && decide (nm tx (e2 - s2) s2 0 ≤ w - 1))) with
      | false =>
        rw [hok2] at hr2 hm2
        refine Or.inl ⟨I2, J2, s2, ?_, ?_, hsI2, hst2, by omega, fun a b k1 k2 => by rw [F2 _ _ (by omega), F1 _ _ (by omega)], fun a b k1 k2 => by rw [G2 _ _ (by omega), G1 _ _ (by omega)]⟩
        · rw [hcls, show f_X5_isNumber I2 0 (nI (w - 1)) = some false from hr2, obs, if_neg Bool.false_ne_true]
        · rw [hmod, show f_X7_number J1 0 (nI (w - 1)) = some (false, J2) from hm2, obs]
          exact if_neg Bool.false_ne_true
      | true =>
        rw [hok2] at hr2 hm2
        rw [Bool.and_eq_true, Bool.and_eq_true, decide_eq_true_eq, decide_eq_true_eq, decide_eq_true_eq] at hok2
        obtain ⟨ok4, -, ok5⟩ := hok2
        have hnum2 := e_number (I := u2 I2 (d + 4) n (nI w)) (J := J2) (J' := J2) (hT2.fr (fun a b k => by show u2 _ _ _ _ _ _ = _; exact if_neg (by omega)) (fun _ _ _ => rfl)) (hK2.fr (fun b z1 z2 => u2_r (by omega)) (fun _ _ _ => rfl)) ok4
        have hj2 := (hK2.2.2.2.2 ok4).2.1
        have hgt2 := hK2.2.2.2.1 (by omega)
        generalize nm tx (e2 - s2) s2 0 = r at ok5 hnum2 hj2
        have i8 : I2 d 8 = nI n := by rw [F2 _ _ (by omega), F1 _ _ (by omega)]; exact a1
        have j30 : J2 77 30 = nI n := by rw [G2 _ _ (by omega), G1 _ _ (by omega)]; exact a2
        obtain ⟨k3, s3, e3, I3, J3, t1, t2, hK3, hs3, F3, G3⟩ := step2 (I := u2 (u2 (u2 I2 (d + 4) n (nI w)) (d + 5) n (nI r)) d 8 (nI (n + 1))) (J := u2 (u2 (u2 J2 92 n (nI w)) 93 n (nI r)) 77 30 (nI (n + 1))) (tl := tl) (tx := tx) (e := e2) (hT2.fr (fun a b k => by simp only [u2]; rw [if_neg (by omega), if_neg (by omega), if_neg (by omega)]) (fun a b k => by simp only [u2]; rw [if_neg (by omega), if_neg (by omega), if_neg (by omega)])) (by rw [u2_r (by omega), u2_r (by omega), u2_r (by omega)]; exact hE2.1) (by rw [u2_c (by decide), u2_r (by decide), u2_r (by decide)]; exact hE2.2.1) hE2.2.2
        have FI3 : ∀ a b, ¬ (a = 1 ∧ 2 ≤ b ∧ b ≤ 4) → ¬ (a = d ∧ b = 8) → ¬ ((a = d + 4 ∨ a = d + 5) ∧ b = n) → I3 a b = I a b := fun a b z1 z2 z3 => by
          rw [F3 _ _ z1]
          exact (if_neg z2).trans ((if_neg (by omega)).trans ((if_neg (by omega)).trans ((F2 _ _ z1).trans (F1 _ _ z1))))
        have GJ3 : ∀ a b, ¬ (a = 77 ∧ 20 ≤ b ∧ b ≤ 23) → ¬ (a = 77 ∧ b = 30) → ¬ ((a = 92 ∨ a = 93) ∧ b = n) → J3 a b = J a b := fun a b z1 z2 z3 => by
          rw [G3 _ _ z1]
          exact (if_neg z2).trans ((if_neg (by omega)).trans ((if_neg (by omega)).trans ((G2 _ _ z1).trans (G1 _ _ z1))))
        refine Or.inr ⟨I3, _, J3, k3, s3, e3, ?_, ?_, t2, hK3, h.fr (fun a b k => FI3 _ _ (by omega) (by omega) (by omega)) (fun a b k => GJ3 _ _ (by omega) (by omega) (by omega)), ?_, by omega, fun a b z1 z2 => FI3 _ _ (by omega) (by omega) (by omega), fun a b z1 z2 => GJ3 _ _ (by omega) (by omega) (by omega)⟩
        · rw [hcls, show f_X5_isNumber I2 0 (nI (w - 1)) = some true from hr2, obs, if_pos rfl, i8, if_pos (vinT (by omega) (by omega)), nIn (by omega), obs, hnum2, obs, u2_r (by omega), i8, if_pos (vinT (by omega) (by omega)), nIn (by omega), obs, u2_r (by omega), u2_r (by omega), i8, nI_1, obs, t1, obs]
        · have hv3 : vinb (nI n) 3 = true := vinT (by omega) (by omega)
          rw [hmod, show f_X7_number J1 0 (nI (w - 1)) = some (true, J2) from hm2, obs]
          refine (if_pos rfl).trans ?_
          refine (if_pos (show vinb (J2 77 30) 3 = true by rw [j30]; exact hv3)).trans ?_
          show ((some (u2 J2 92 (J2 77 30).toNatClampNeg (nI w))).bind fun I47 => if vinb (I47 77 30) 3 then (some (u2 I47 93 (I47 77 30).toNatClampNeg (I47 77 23))).bind fun I60 => (some (u2 I60 77 30 (I60 77 30 + 1))).bind fun I68 => some (true, I68) else none) = _
          rw [j30, nIn (by omega), obs, u2_r (by decide), u2_r (by decide), j30, hj2, if_pos hv3, nIn (by omega), obs, u2_r (by decide), u2_r (by decide), j30, nI_1, obs]
        · refine ⟨D1.fr (fun a b k => FI3 _ _ (by omega) (by omega) (by omega)) (fun a b k => GJ3 _ _ (by omega) (by omega) (by omega)), D2.fr (fun a b k => FI3 _ _ (by omega) (by omega) (by omega)) (fun a b k => GJ3 _ _ (by omega) (by omega) (by omega)), D3.fr (fun a b k => FI3 _ _ (by omega) (by omega) (by omega)) (fun a b k => GJ3 _ _ (by omega) (by omega) (by omega)), ⟨n + 1, fun j => if j = n then w else vm j, fun j => if j = n then r else vr j, ⟨by rw [F3 _ _ (by omega)]; exact u2_s, by rw [G3 _ _ (by omega)]; exact u2_s, by omega⟩, fun j hj => ?_⟩, D5.fr (fun a b k => FI3 _ _ (by omega) (by omega) (by omega)) (GJ3 _ _ (by omega) (by omega) (by omega))⟩
          by_cases hjn : j = n
          · subst hjn
            simp only [if_true, eq_self]
            refine ⟨⟨?_, ?_, ok2, ok3⟩, ?_, ?_, by omega⟩
            · rw [F3 _ _ (by omega), u2_r (by omega), u2_r (by omega), u2_s]
            · rw [G3 _ _ (by omega), u2_r (by decide), u2_r (by decide), u2_s]
            · rw [F3 _ _ (by omega), u2_r (by omega), u2_s]
            · rw [G3 _ _ (by omega), u2_r (by decide), u2_s]
          · simp only [if_neg hjn]
            rw [FI3 _ _ (by omega) (by omega) (by omega), GJ3 _ _ (by omega) (by omega) (by omega), FI3 _ _ (by omega) (by omega) (by omega), GJ3 _ _ (by omega) (by omega) (by omega)]
            exact hv j (by omega)
end TXD
