/-! tales, one item, all items -/
def wS (tx : Nat → Nat) (s1 n row i : Nat) (A : Hi) : Hi := fun a b => if a = row ∧ 6 * n ≤ b ∧ b < 6 * n + i then nI (tx (s1 + (b - 6 * n)) - 97) else A a b
section TXE
variable {I J I' J' : Hi} {tl d : Nat} {tx : Nat → Nat}
theorem wS_s {s1 n row i : Nat} {A : Hi} : u2 (wS tx s1 n row i A) row (6 * n + i) (nI (tx (s1 + i) - 97)) = wS tx s1 n row (i + 1) A := by
  funext a b
  simp only [u2, wS]
  by_cases h1 : a = row ∧ b = 6 * n + i
  · rw [if_pos h1, if_pos (by omega), show b - 6 * n = i by omega]
  · rw [if_neg h1]
    by_cases h2 : a = row ∧ 6 * n ≤ b ∧ b < 6 * n + i
    · rw [if_pos h2, if_pos (by omega)]
    · rw [if_neg h2, if_neg (by omega)]
theorem wS_0 {s1 n row : Nat} {A : Hi} : wS tx s1 n row 0 A = A := by
  funext a b
  rw [wS, if_neg (by omega)]
theorem wS_F {s1 n row i a b : Nat} {A : Hi} (h : a ≠ row) : wS tx s1 n row i A a b = A a b := by rw [wS, if_neg (fun k => h k.1)]
theorem l_sis (hd : d = 3 ∨ d = 9) {s1 n : Nat} (h3 : I 1 3 = nI s1) (h7 : I d 7 = nI n) (hn : n < 4) (hs : s1 + 6 ≤ 160) (ht : ∀ i, i < 6 → I 2 (s1 + i) = nI (tx (s1 + i)) ∧ 97 ≤ tx (s1 + i)) : ∀ m i f, i + m = 6 → m < f → b_X5_readSister_27 d f (wS tx s1 n (d + 3) i I) (nI i) = b_X5_readSister_67 d (wS tx s1 n (d + 3) 6 I)
  | 0, i, f + 1, hi, hf => by
    rw [b_X5_readSister_27, nIl 6, if_pos ((nIle (by omega) (by omega)).mpr (by omega)), show i = 6 by omega]
  | m + 1, i, f + 1, hi, hf => by
    obtain ⟨t1, t2⟩ := ht i (by omega)
    have q3 : wS tx s1 n (d + 3) i I 1 3 = nI s1 := by rw [wS_F (by omega)]; exact h3
    have q7 : wS tx s1 n (d + 3) i I d 7 = nI n := by rw [wS_F (by omega)]; exact h7
    have q2 : wS tx s1 n (d + 3) i I 2 (s1 + i) = nI (tx (s1 + i)) := by rw [wS_F (by omega)]; exact t1
    rw [b_X5_readSister_27, nIl 6, if_neg (by rw [nIle (by omega) (by omega)]; omega), q3, q7, nI_add, pk_mul, nI_add, if_pos (vinT (by omega) (by omega)), if_pos (vinT (by omega) (by omega)), nIn (by omega), nIn (by omega), q2, nIl 97, pk_sub t2, obs, nI_1, show n * 6 + i = 6 * n + i by omega, wS_s]
    exact l_sis hd h3 h7 hn hs ht m (i + 1) f (by omega) (by omega)
theorem l_msis {s1 n : Nat} (h3 : J 77 21 = nI s1) (h7 : J 77 28 = nI n) (hn : n < 4) (hs : s1 + 6 ≤ 160) (ht : ∀ i, i < 6 → J 88 (s1 + i) = nI (tx (s1 + i)) ∧ 97 ≤ tx (s1 + i)) : ∀ m i f, i + m = 6 → m < f → b_X7_isSister_23 f (wS tx s1 n 91 i J) (nI i) = b_X7_isSister_63 (wS tx s1 n 91 6 J)
  | 0, i, f + 1, hi, hf => by
    rw [b_X7_isSister_23, nIl 6, if_pos ((nIle (by omega) (by omega)).mpr (by omega)), show i = 6 by omega]
  | m + 1, i, f + 1, hi, hf => by
    obtain ⟨t1, t2⟩ := ht i (by omega)
    have q3 : wS tx s1 n 91 i J 77 21 = nI s1 := by rw [wS_F (by omega)]; exact h3
    have q7 : wS tx s1 n 91 i J 77 28 = nI n := by rw [wS_F (by omega)]; exact h7
    have q2 : wS tx s1 n 91 i J 88 (s1 + i) = nI (tx (s1 + i)) := by rw [wS_F (by omega)]; exact t1
    rw [b_X7_isSister_23, nIl 6, if_neg (by rw [nIle (by omega) (by omega)]; omega), q3, q7, nI_add, pk_mul, nI_add, if_pos (vinT (by omega) (by omega)), if_pos (vinT (by omega) (by omega)), nIn (by omega), nIn (by omega), q2, nIl 97, pk_sub t2, obs, nI_1, wS_s]
    exact l_msis h3 h7 hn hs ht m (i + 1) f (by omega) (by omega)
theorem it_Sister (hd : d = 3 ∨ d = 9) (h : T2 I J tl tx) {k st en : Nat} (hK : K2 I J tl tx k st en) (hk : k ≠ 0) (hD : DR d I J) : ITEM tl tx d I J (f_X5_readSister d I) (f_X7_isSister J) st := by
  have h160 := h.1.2.2
  have hse := hK.2.2.2.1 hk
  obtain ⟨D1, D2, ⟨n, v, ⟨a1, a2, a3⟩, hv⟩, D4, D5⟩ := hD
  obtain ⟨-, ⟨b1, b2, b3⟩, ⟨c1, c2, c3⟩, -⟩ := id hK
  by_cases hn : n = 4
  · refine Or.inl ⟨I, J, st, ?_, ?_, b1, b2, by omega, fun _ _ _ _ => rfl, fun _ _ _ _ => rfl⟩
    · rw [f_X5_readSister, a1, nIl 4, if_neg (by rw [nIlt (by omega) (by omega)]; omega)]
    · rw [f_X7_isSister, a2, if_pos (by rw [hn]; rfl)]
  · have hn4 : ¬ nI n = (4 : Int32) := fun hh => hn ((nIeq (b := 4) (by omega) (by omega)).mp hh)
    have hl4 : nI n < (4 : Int32) := (nIlt (b := 4) (by omega) (by omega)).mpr (by omega)
    obtain ⟨k1, s1, e1, I1, J1, p1, p2, hK1, hs1, F1, G1⟩ := step2 h c1 c2 c3
    have hT1 : T2 I1 J1 tl tx := h.fr (fun a b k => F1 _ _ (by omega)) (fun a b k => G1 _ _ (by omega))
    have hr := e_isRow hT1 (mn := 6) hK1 (by omega)
    have hm := l_mrow hT1 (mn := 6) hK1 (by omega) (e1 - s1) s1 2000 0 (by have := hK1.2.1.2.2; omega) (by have := hK1.2.2.1.2.2; omega)
    have hst1 : J1 77 21 = nI s1 := hK1.2.1.2.1
    have hsI1 : I1 1 3 = nI s1 := hK1.2.1.1
    have hE1 := hK1.2.2.1
    have hS1 := hK1.2.1.2.2
    rw [show (decide (k1 = 1) && (decide (6 ≤ e1 - s1) && (decide (e1 - s1 ≤ 6) && aaf tx (e1 - s1) s1))) = rok tx k1 s1 e1 6 from rfl] at hm
    have hrow : f_X7_row J 6 6 = some (if rok tx k1 s1 e1 6 = true then nI (rbs tx (e1 - s1) s1 0) else 0, J1) := by
      rw [f_X7_row, p2, obs, hst1]
      exact hm
    cases hok : rok tx k1 s1 e1 6 with
    | false =>
      rw [hok] at hr hrow
      refine Or.inl ⟨I1, J1, s1, ?_, ?_, hsI1, hst1, by omega, fun a b k1 k2 => F1 _ _ (by omega), fun a b k1 k2 => G1 _ _ (by omega)⟩
      · rw [f_X5_readSister, a1, if_pos hl4, p1, obs, show f_X5_isRow I1 6 = some false from hr, obs, if_neg Bool.false_ne_true]
      · rw [f_X7_isSister, a2, if_neg hn4, hrow, obs]
        exact if_pos rfl
    | true =>
      rw [hok, if_pos rfl] at hrow
      rw [hok] at hr
      unfold rok at hok
      rw [Bool.and_eq_true, Bool.and_eq_true, Bool.and_eq_true, decide_eq_true_eq, decide_eq_true_eq, decide_eq_true_eq] at hok
      obtain ⟨ok1, ok2, ok3, ok4⟩ := hok
      have hw := rbs_lt (tx := tx) (e1 - s1) s1 0 ok4 (by decide)
      have hwp := rbs_pos (tx := tx) (m := e1 - s1) (s := s1) (by omega)
      generalize rbs tx (e1 - s1) s1 0 = w at hw hwp hrow
      have haf : ∀ i, i < 6 → 97 ≤ tx (s1 + i) ∧ tx (s1 + i) ≤ 102 := fun i hi => isAF_iff.mp (aaf_at ok4 (by omega) (by omega))
      have i7 : I1 d 7 = nI n := by rw [F1 _ _ (by omega)]; exact a1
      have j28 : J1 77 28 = nI n := by rw [G1 _ _ (by omega)]; exact a2
      have lc := l_sis (tx := tx) hd hsI1 i7 (by omega) (by omega) (fun i hi => ⟨(hT1.2 _ (by omega)).1, (haf i hi).1⟩) 6 0 2000 (by omega) (by omega)
      have lm := l_msis (tx := tx) hst1 j28 (by omega) (by omega) (fun i hi => ⟨(hT1.2 _ (by omega)).2.1, (haf i hi).1⟩) 6 0 2000 (by omega) (by omega)
      rw [wS_0] at lc lm
      generalize hA : wS tx s1 n (d + 3) 6 I1 = A at lc
      generalize hB : wS tx s1 n 91 6 J1 = B at lm
      have aF : ∀ a b, a ≠ d + 3 → A a b = I1 a b := fun a b z => by rw [← hA]; exact wS_F z
      have bF : ∀ a b, a ≠ 91 → B a b = J1 a b := fun a b z => by rw [← hB]; exact wS_F z
      obtain ⟨k2, s2, e2, I2, J2, q1, q2, hK2, hs2, F2, G2⟩ := step2 (I := u2 A d 7 (nI (n + 1))) (J := u2 B 77 28 (nI (n + 1))) (tl := tl) (tx := tx) (e := e1) (hT1.fr (fun a b k => (if_neg (by omega)).trans (aF _ _ (by omega))) (fun a b k => (if_neg (by omega)).trans (bF _ _ (by omega)))) (by rw [u2_r (by omega), aF _ _ (by omega)]; exact hE1.1) (by rw [u2_c (by decide), bF _ _ (by decide)]; exact hE1.2.1) hE1.2.2
      have FI2 : ∀ a b, ¬ (a = 1 ∧ 2 ≤ b ∧ b ≤ 4) → ¬ (a = d ∧ b = 7) → a ≠ d + 3 → I2 a b = I a b := fun a b z1 z2 z3 => by
        rw [F2 _ _ z1]
        exact (if_neg z2).trans ((aF _ _ z3).trans (F1 _ _ z1))
      have GJ2 : ∀ a b, ¬ (a = 77 ∧ 20 ≤ b ∧ b ≤ 23) → ¬ (a = 77 ∧ b = 28) → a ≠ 91 → J2 a b = J a b := fun a b z1 z2 z3 => by
        rw [G2 _ _ z1]
        exact (if_neg z2).trans ((bF _ _ z3).trans (G1 _ _ z1))
      refine Or.inr ⟨I2, _, J2, k2, s2, e2, ?_, ?_, q2, hK2, h.fr (fun a b k => FI2 _ _ (by omega) (by omega) (by omega)) (fun a b k => GJ2 _ _ (by omega) (by omega) (by omega)), ?_, by omega, fun a b z1 z2 => FI2 _ _ (by omega) (by omega) (by omega), fun a b z1 z2 => GJ2 _ _ (by omega) (by omega) (by omega)⟩
      · rw [f_X5_readSister, a1, if_pos hl4, p1, obs, show f_X5_isRow I1 6 = some true from hr, obs, if_pos rfl, show b_X5_readSister_27 d 2000 I1 0 = _ from lc, b_X5_readSister_67, aF _ _ (by omega), i7, nI_1, obs, q1, obs]
      · rw [f_X7_isSister, a2, if_neg hn4, hrow, obs]
        refine (if_neg (show ¬ nI w = 0 from fun hh => by have := (nI_0iff (by omega)).mp hh; omega)).trans ?_
        rw [show b_X7_isSister_23 2000 J1 0 = _ from lm, b_X7_isSister_63, bF _ _ (by decide), j28, nI_1, obs]
      · refine ⟨D1.fr (fun a b k => FI2 _ _ (by omega) (by omega) (by omega)) (fun a b k => GJ2 _ _ (by omega) (by omega) (by omega)), D2.fr (fun a b k => FI2 _ _ (by omega) (by omega) (by omega)) (fun a b k => GJ2 _ _ (by omega) (by omega) (by omega)), ⟨n + 1, fun j => if 6 * n ≤ j then tx (s1 + (j - 6 * n)) - 97 else v j, ⟨by rw [F2 _ _ (by omega)]; exact u2_s, by rw [G2 _ _ (by omega)]; exact u2_s, by omega⟩, fun j hj => ?_⟩, D4.fr (fun a b k => FI2 _ _ (by omega) (by omega) (by omega)) (fun a b k => GJ2 _ _ (by omega) (by omega) (by omega)), D5.fr (fun a b k => FI2 _ _ (by omega) (by omega) (by omega)) (GJ2 _ _ (by omega) (by omega) (by omega))⟩
        have e1 : I2 (d + 3) j = A (d + 3) j := by rw [F2 _ _ (by omega), u2_r (by omega)]
        have e2 : J2 91 j = B 91 j := by rw [G2 _ _ (by omega), u2_r (by omega)]
        rw [e1, e2, ← hA, ← hB, wS, wS]
        by_cases hj6 : 6 * n ≤ j
        · rw [if_pos (show d + 3 = d + 3 ∧ 6 * n ≤ j ∧ j < 6 * n + 6 by omega), if_pos (show (91 : Nat) = 91 ∧ 6 * n ≤ j ∧ j < 6 * n + 6 by omega)]
          simp only [if_pos hj6]
          have := haf (j - 6 * n) (by omega)
          exact ⟨trivial, trivial, by omega⟩
        · rw [if_neg (show ¬ (d + 3 = d + 3 ∧ 6 * n ≤ j ∧ j < 6 * n + 6) by omega), if_neg (show ¬ ((91 : Nat) = 91 ∧ 6 * n ≤ j ∧ j < 6 * n + 6) by omega)]
          simp only [if_neg hj6]
          rw [F1 _ _ (by omega), G1 _ _ (by omega)]
          exact hv j (by omega)
theorem DR.fr (h : DR d I J) (h1 : ∀ a b, ((d ≤ a ∧ a ≤ d + 5) ∨ (a = 1 ∧ b = 5)) → I' a b = I a b) (h2 : ∀ a b, ((a = 77 ∧ 24 ≤ b) ∨ (89 ≤ a ∧ a ≤ 93)) → J' a b = J a b) : DR d I' J' := by
  obtain ⟨D1, D2, D3, D4, D5⟩ := h
  exact ⟨D1.fr (fun a b k => h1 _ _ (by omega)) (fun a b k => h2 _ _ (by omega)), D2.fr (fun a b k => h1 _ _ (by omega)) (fun a b k => h2 _ _ (by omega)), D3.fr (fun a b k => h1 _ _ (by omega)) (fun a b k => h2 _ _ (by omega)), D4.fr (fun a b k => h1 _ _ (by omega)) (fun a b k => h2 _ _ (by omega)), D5.fr (fun a b k => h1 _ _ (by omega)) (h2 _ _ (by omega))⟩
def RES (tl : Nat) (tx : Nat → Nat) (d : Nat) (I J : Hi) (st : Nat) : Prop :=
  (∃ I' J' s, f_X5_readItem d I = some (false, I') ∧ (∀ n x, b_X7_reads_36 (n + 1) J x = some (-10 - nI s, J')) ∧ I' 1 3 = nI s ∧ s ≤ 160 ∧ CFr d I I' ∧ MFr J J') ∨
  (∃ I' J' k s e, f_X5_readItem d I = some (true, I') ∧ (∀ n x, b_X7_reads_36 (n + 1) J x = b_X7_reads_36 n J' (x + 1)) ∧ K2 I' J' tl tx k s e ∧ T2 I' J' tl tx ∧ DR d I' J' ∧ st + 3 ≤ s ∧ CFr d I I' ∧ MFr J J')
theorem it_fin (hd : d = 3 ∨ d = 9) {k st en : Nat} (hl : tl ≤ 160) (hK : K2 I J tl tx k st en) (hk : k ≠ 0) {rc rm : Option (Bool × Hi)} (h : ITEM tl tx d I J rc rm st) (h1 : f_X5_readItem d I = rc.bind fun r => b_X5_readItem_131 d r.2 r.1) (h2 : f_X7_isItem J = rm.bind fun r => some (r.1, r.2)) : RES tl tx d I J st := by
  have hk0 : ¬ J 77 22 = 0 := by
    rw [hK.1.2.1]
    exact fun hh => hk ((nI_0iff (by have := hK.1.2.2; omega)).mp hh)
  rcases h with ⟨I', J', s, e1, e2, e3, e4, e5, e6, e7⟩ | ⟨I', J1, J2, k1, s, e, e1, e2, e3, hK1, hT1, hD1, e4, e5, e6⟩
  · refine Or.inl ⟨I', J', s, ?_, fun n x => ?_, e3, e5, e6, e7⟩
    · rw [h1, e1, obs]
      exact if_neg Bool.false_ne_true
    · rw [b_X7_reads_36, if_neg hk0, h2, e2, obs, obs]
      refine (if_neg Bool.false_ne_true).trans ?_
      show some (-10 - J' 77 21, J') = _
      rw [e4]
  · obtain ⟨⟨u1, u2', u3⟩, ⟨v1, v2, v3⟩, ⟨w1, w2, w3⟩, x1, -⟩ := id hK1
    by_cases h3 : k1 = 3
    · obtain ⟨k3, s3, e3', I3, J3, t1, t2, hK3, hs3, F3, G3⟩ := step2 hT1 w1 w2 w3
      have := x1 (by omega)
      refine Or.inr ⟨I3, J3, k3, s3, e3', ?_, fun n x => ?_, hK3, hT1.fr (fun a b k => F3 _ _ (by omega)) (fun a b k => G3 _ _ (by omega)), hD1.fr (fun a b k => F3 _ _ (by omega)) (fun a b k => G3 _ _ (by omega)), by omega, fun a b z1 z2 => by rw [F3 _ _ (by omega)]; exact e5 _ _ z1 z2, fun a b z1 z2 => by rw [G3 _ _ (by omega)]; exact e6 _ _ z1 z2⟩
      · rw [h1, e1, obs]
        show b_X5_readItem_131 d I' true = _
        rw [b_X5_readItem_131, if_pos rfl, u1, if_pos (by rw [h3]; rfl), t1, obs]
      · rw [b_X7_reads_36, if_neg hk0, h2, e2, obs, obs]
        refine (if_pos rfl).trans ?_
        show ((f_X7_step J1).bind fun r59 => if r59 77 22 = 3 then (f_X7_step r59).bind fun r82 => b_X7_reads_36 n r82 (x + 1) else b_X7_reads_70 r59) = _
        rw [e3, obs, u2', if_pos (by rw [h3]; rfl), t2, obs]
    · have hn3 : ¬ nI k1 = (3 : Int32) := fun hh => h3 ((nIeq (b := 3) (by omega) (by omega)).mp hh)
      refine Or.inl ⟨I', J2, s, ?_, fun n x => ?_, v1, by omega, e5, e6⟩
      · rw [h1, e1, obs]
        show b_X5_readItem_131 d I' true = _
        rw [b_X5_readItem_131, if_pos rfl, u1, if_neg hn3]
      · rw [b_X7_reads_36, if_neg hk0, h2, e2, obs, obs]
        refine (if_pos rfl).trans ?_
        show ((f_X7_step J1).bind fun r59 => if r59 77 22 = 3 then (f_X7_step r59).bind fun r82 => b_X7_reads_36 n r82 (x + 1) else b_X7_reads_70 r59) = _
        rw [e3, obs, u2', if_neg hn3, b_X7_reads_70, v2]
theorem it_all (hd : d = 3 ∨ d = 9) (h : T2 I J tl tx) {k st en : Nat} (hK : K2 I J tl tx k st en) (hk : k ≠ 0) (hD : DR d I J) : RES tl tx d I J st := by
  have h160 := h.1.2.2
  have hse := hK.2.2.2.1 hk
  obtain ⟨⟨a1, a2, a3⟩, ⟨b1, b2, b3⟩, ⟨c1, c2, c3⟩, -⟩ := id hK
  have hk0 : ¬ J 77 22 = 0 := by
    rw [a2]
    exact fun hh => hk ((nI_0iff (by omega)).mp hh)
  have fail : f_X5_readItem d I = some (false, I) → f_X7_isItem J = some (false, J) → RES tl tx d I J st := by
    intro g1 g2
    refine Or.inl ⟨I, J, st, g1, fun n x => ?_, b1, by omega, fun _ _ _ _ => rfl, fun _ _ _ _ => rfl⟩
    rw [b_X7_reads_36, if_neg hk0, g2, obs]
    refine (if_neg Bool.false_ne_true).trans ?_
    show some (-10 - J 77 21, J) = _
    rw [b2]
  by_cases h1 : k = 1
  · by_cases h2 : en - st = 1
    · obtain ⟨k1, k2, k3⟩ := h.2 st (by omega)
      have v : vinb (nI st) 160 = true := vinT (by omega) (by omega)
      have cl : f_X5_readItem d I = if nI (tx st) = 103 then ((f_X5_readGoer d I).bind fun r95 => b_X5_readItem_131 d r95.2 r95.1) else (if nI (tx st) = 107 then ((f_X5_readFriday d I).bind fun r113 => b_X5_readItem_131 d r113.2 r113.1) else (if nI (tx st) = 110 then ((f_X5_readLane d I).bind fun r122 => b_X5_readItem_131 d r122.2 r122.1) else (if nI (tx st) = 118 then ((f_X5_readLeaf d I).bind fun r86 => b_X5_readItem_131 d r86.2 r86.1) else (if nI (tx st) = 121 then ((f_X5_readSister d I).bind fun r104 => b_X5_readItem_131 d r104.2 r104.1) else (b_X5_readItem_131 d I false))))) := by
        rw [f_X5_readItem, a1, if_pos (by rw [h1]; rfl), b1, c1, pk_sub b3, h2, if_pos (show nI 1 = (1 : Int32) from rfl), if_pos v, nIn (by omega), k1]
      have ml : f_X7_isItem J = if nI (tx st) = 103 then ((f_X7_isGoer J).bind fun r90 => some (r90.1, r90.2)) else (if nI (tx st) = 107 then ((f_X7_isFriday J).bind fun r100 => some (r100.1, r100.2)) else (if nI (tx st) = 110 then ((f_X7_isLane J).bind fun r105 => some (r105.1, r105.2)) else (if nI (tx st) = 118 then ((f_X7_isLeaf J).bind fun r85 => some (r85.1, r85.2)) else (if nI (tx st) = 121 then ((f_X7_isSister J).bind fun r95 => some (r95.1, r95.2)) else (some (false, J)))))) := by
        rw [f_X7_isItem, a2, if_pos (by rw [h1]; rfl), b2, c2, pk_sub b3, h2, if_pos (show nI 1 = (1 : Int32) from rfl), if_pos v, nIn (by omega), k2]
      by_cases l1 : nI (tx st) = 103
      · rw [if_pos l1] at cl ml
        exact it_fin hd h160 hK hk (it_Goer hd h hK hk hD) cl ml
      · rw [if_neg l1] at cl ml
        by_cases l2 : nI (tx st) = 107
        · rw [if_pos l2] at cl ml
          exact it_fin hd h160 hK hk (it_Friday hd h hK hk hD) cl ml
        · rw [if_neg l2] at cl ml
          by_cases l3 : nI (tx st) = 110
          · rw [if_pos l3] at cl ml
            exact it_fin hd h160 hK hk (it_Lane hd h hK hk hD) cl ml
          · rw [if_neg l3] at cl ml
            by_cases l4 : nI (tx st) = 118
            · rw [if_pos l4] at cl ml
              exact it_fin hd h160 hK hk (it_Leaf hd h hK hk hD) cl ml
            · rw [if_neg l4] at cl ml
              by_cases l5 : nI (tx st) = 121
              · rw [if_pos l5] at cl ml
                exact it_fin hd h160 hK hk (it_Sister hd h hK hk hD) cl ml
              · rw [if_neg l5] at cl ml
                exact fail (cl.trans (if_neg Bool.false_ne_true)) ml
    · have hn : ¬ nI (en - st) = (1 : Int32) := fun hh => h2 ((nIeq (b := 1) (by omega) (by omega)).mp hh)
      refine fail ?_ ?_
      · rw [f_X5_readItem, a1, if_pos (by rw [h1]; rfl), b1, c1, pk_sub b3, if_neg hn]
      · rw [f_X7_isItem, a2, if_pos (by rw [h1]; rfl), b2, c2, pk_sub b3, if_neg hn]
  · have hn : ¬ nI k = (1 : Int32) := fun hh => h1 ((nIeq (b := 1) (by omega) (by omega)).mp hh)
    refine fail ?_ ?_
    · rw [f_X5_readItem, a1, if_neg hn]
    · rw [f_X7_isItem, a2, if_neg hn]
theorem l_reads (hd : d = 3 ∨ d = 9) : ∀ (g x f1 f2 : Nat) (I J : Hi) (k st en : Nat), T2 I J tl tx → K2 I J tl tx k st en → DR d I J → 3 * x ≤ st → x + g = 54 → g < f1 → g < f2 → ∃ r I' J', b_X5_readInto_20 d f1 I (nI x) = some (r, I') ∧ b_X7_reads_36 f2 J (nI x) = some (r, J') ∧ CFr d I I' ∧ MFr J J' ∧ ((∃ y, y ≤ 54 ∧ r = nI y ∧ DR d I' J') ∨ ∃ s, s ≤ 160 ∧ r = -10 - nI s)
  | 0, x, f1 + 1, f2 + 1, I, J, k, st, en, h, hK, hD, hx, hg, _, _ => by
    have := h.1.2.2
    have := hK.2.1.2.2
    have := hK.2.2.1.2.2
    omega
  | g + 1, x, f1 + 1, f2 + 1, I, J, k, st, en, h, hK, hD, hx, hg, hf1, hf2 => by
    have h160 := h.1.2.2
    have := hK.2.1.2.2
    have := hK.2.2.1.2.2
    have h4 := hK.1.2.2
    by_cases hk : k = 0
    · refine ⟨nI x, I, J, ?_, ?_, fun _ _ _ _ => rfl, fun _ _ _ _ => rfl, Or.inl ⟨x, by omega, rfl, hD⟩⟩
      · rw [b_X5_readInto_20, hK.1.1, if_pos (by rw [hk]; rfl)]
      · rw [b_X7_reads_36, hK.1.2.1, if_pos (by rw [hk]; rfl)]
    · have cls : b_X5_readInto_20 d (f1 + 1) I (nI x) = (f_X5_readItem d I).bind fun r36 => if r36.1 = true then (b_X5_readInto_20 d f1 r36.2 (nI x + 1)) else (b_X5_readInto_42 d r36.2) := by
        rw [b_X5_readInto_20, hK.1.1, if_neg (fun hh => hk ((nI_0iff (by omega)).mp hh)), nIl 160, if_neg (by rw [nIle (by omega) (by omega)]; omega)]
      rcases it_all hd h hK hk hD with ⟨I', J', s, e1, e2, e3, e4, e5, e6⟩ | ⟨I', J', k', s, e, e1, e2, hK', hT', hD', e4, e5, e6⟩
      · refine ⟨-10 - nI s, I', J', ?_, e2 f2 (nI x), e5, e6, Or.inr ⟨s, e4, rfl⟩⟩
        rw [cls, e1, obs]
        refine (if_neg Bool.false_ne_true).trans ?_
        show some (-10 - I' 1 3, I') = _
        rw [e3]
      · obtain ⟨r, I2, J2, i1, i2, i3, i4, i5⟩ := l_reads hd g (x + 1) f1 f2 I' J' k' s e hT' hK' hD' (by omega) (by omega) (by omega) (by omega)
        refine ⟨r, I2, J2, ?_, ?_, fun a b z1 z2 => by rw [i3 _ _ z1 z2, e5 _ _ z1 z2], fun a b z1 z2 => by rw [i4 _ _ z1 z2, e6 _ _ z1 z2], i5⟩
        · rw [cls, e1, obs]
          refine (if_pos rfl).trans ?_
          rw [nI_1]
          exact i1
        · rw [e2, nI_1]
          exact i2
theorem e_court (hd : d = 3 ∨ d = 9) (h : T2 I J tl tx) : ∃ r I' J', f_X5_readInto d I = some (r, I') ∧ f_X7_reads J = some (r, J') ∧ CFr d I I' ∧ MFr J J' ∧ ((∃ y, y ≤ 54 ∧ r = nI y ∧ DR d I' J') ∨ ∃ s, s ≤ 160 ∧ r = -10 - nI s) := by
  generalize hA : u2 (u2 (u2 (u2 (u2 (u2 (u2 I d 5 0) d 6 0) d 7 0) d 8 0) d 9 3) 1 5 0) 1 4 0 = A
  generalize hB : u2 (u2 (u2 (u2 (u2 (u2 J 77 24 0) 77 26 0) 77 28 0) 77 30 0) 77 33 0) 77 20 0 = B
  have aF : ∀ a b, ¬ (a = 1 ∧ 4 ≤ b) → a ≠ d → A a b = I a b := fun a b z1 z2 => by
    rw [← hA]
    simp only [u2]
    repeat rw [if_neg (by omega)]
  have bF : ∀ a b, ¬ (a = 77 ∧ 20 ≤ b ∧ b ≤ 33) → B a b = J a b := fun a b z1 => by
    rw [← hB]
    simp only [u2]
    repeat rw [if_neg (by omega)]
  have hT : T2 A B tl tx := h.fr (fun a b k => aF _ _ (by omega) (by omega)) (fun a b k => bF _ _ (by omega))
  have d1 : ¬ d = 1 := by omega
  obtain ⟨k, st, en, I1, J1, p1, p2, hK, hs, F1, G1⟩ := step2 (e := 0) hT (by rw [← hA, u2_s]; rfl) (by rw [← hB, u2_s]; rfl) (Nat.zero_le _)
  have hD : DR d I1 J1 := by
    refine ⟨⟨0, fun _ => 0, ⟨?_, ?_, by omega⟩, fun j hj => by omega⟩, ⟨0, fun _ => 0, ⟨?_, ?_, by omega⟩, fun j hj => by omega⟩, ⟨0, fun _ => 0, ⟨?_, ?_, by omega⟩, fun j hj => by omega⟩, ⟨0, fun _ => 0, fun _ => 0, ⟨?_, ?_, by omega⟩, fun j hj => by omega⟩, 3, ?_, by omega, by omega, Or.inl ⟨?_, ?_, rfl⟩⟩
    all_goals first
      | (rw [F1 _ _ (by omega), ← hA]; simp [u2, d1]; done)
      | (rw [G1 _ _ (by omega), ← hB]; simp [u2]; done)
      | (rw [F1 _ _ (by omega), ← hA]; simp [u2, d1]; rfl)
      | (rw [G1 _ _ (by omega), ← hB]; simp [u2]; rfl)
  obtain ⟨r, I', J', i1, i2, i3, i4, i5⟩ := l_reads hd 54 0 2000 2000 I1 J1 k st en (hT.fr (fun a b k => F1 _ _ (by omega)) (fun a b k => G1 _ _ (by omega))) hK hD (by omega) (by omega) (by omega) (by omega)
  refine ⟨r, I', J', ?_, ?_, fun a b z1 z2 => by rw [i3 _ _ z1 z2, F1 _ _ (by omega), aF _ _ (by omega) (by omega)], fun a b z1 z2 => by rw [i4 _ _ z1 z2, G1 _ _ (by omega), bF _ _ (by omega)], i5⟩
  · rw [f_X5_readInto, f_X0_startAnew]
    simp only [obs]
    rw [hA, p1, obs]
    exact i1
  · rw [f_X7_reads]
    simp only [obs]
    rw [hB, p2, obs]
    exact i2
end TXE
