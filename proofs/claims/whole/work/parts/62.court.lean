/-! a new court -/
section CRT
variable {c d : Nat} {I J : Hi} {L : Hl}
theorem l_fill {a : Nat} {v : Int32} : ∀ (m k f : Nat) (J : Hi), k + m = 6 → m < f → ∃ K, b_J7_fill_53178_5 a 6 f J v (nI k) (nI 6) = some K ∧ (∀ x y, x ≠ a → K x y = J x y) ∧ (∀ y, y < k → K a y = J a y) ∧ ∀ y, k ≤ y → y < 6 → K a y = v
  | 0, k, f + 1, J, hk, hf => ⟨J, by rw [b_J7_fill_53178_5, if_pos ((nIle (by omega) (by omega)).mpr (by omega))], fun _ _ _ => rfl, fun _ _ => rfl, fun y h1 h2 => by omega⟩
  | m + 1, k, f + 1, J, hk, hf => by
    obtain ⟨K, k1, k2, k3, k4⟩ := l_fill (a := a) (v := v) m (k + 1) f (u2 J a k v) (by omega) (by omega)
    refine ⟨K, ?_, fun x y hx => by rw [k2 x y hx, u2_r hx], fun y hy => by rw [k3 y (by omega), u2_c (by omega)], fun y h1 h2 => ?_⟩
    · rw [b_J7_fill_53178_5, if_neg (by rw [nIle (by omega) (by omega)]; omega), if_pos (vinT (by omega) (by omega)), nIn (by omega), obs, nI_1]
      exact k1
    · by_cases hy : y = k
      · rw [hy, k3 k (by omega), u2_s]
      · exact k4 y (by omega) h2
theorem e_fill {a : Nat} {v : Int32} (J : Hi) : ∃ K, f_J7_fill_53178 a 6 J v = some K ∧ (∀ x y, x ≠ a → K x y = J x y) ∧ ∀ y, y < 6 → K a y = v := by
  obtain ⟨K, k1, k2, k3, k4⟩ := l_fill (a := a) (v := v) 6 0 2000 J (by omega) (by omega)
  exact ⟨K, k1, k2, fun y hy => k4 y (by omega) hy⟩
theorem e_anew (J : Hi) : ∃ K, f_X3_startAnew 15 J = some K ∧ (∀ x y, (x < 15 ∨ 18 < x) → K x y = J x y) ∧ (∀ y, y < 3 → K 15 y = 0) ∧ (∀ y, y < 6 → K 16 y = 0) ∧ (∀ y, y < 6 → K 17 y = 0) ∧ ∀ y, y < 6 → K 18 y = 0 := by
  obtain ⟨K1, a1, a2, a3⟩ := e_fill (a := 15 + 1) (v := 0) (u2 (u2 (u2 J 15 0 0) 15 1 0) 15 2 0)
  obtain ⟨K2, b1, b2, b3⟩ := e_fill (a := 15 + 2) (v := 0) K1
  obtain ⟨K3, c1, c2, c3⟩ := e_fill (a := 15 + 3) (v := 0) K2
  refine ⟨K3, ?_, fun x y h => ?_, fun y h => ?_, fun y h => ?_, fun y h => ?_, fun y h => ?_⟩
  · rw [f_X3_startAnew]
    simp only [obs, a1, b1, c1]
  · rw [c2 _ _ (by omega), b2 _ _ (by omega), a2 _ _ (by omega), u2_r (by omega), u2_r (by omega), u2_r (by omega)]
  · rw [c2 _ _ (by omega), b2 _ _ (by omega), a2 _ _ (by omega)]
    have : y = 0 ∨ y = 1 ∨ y = 2 := by omega
    rcases this with rfl | rfl | rfl
    · rw [u2_c (by decide), u2_c (by decide), u2_s]
    · rw [u2_c (by decide), u2_s]
    · rw [u2_s]
  · rw [c2 _ _ (by omega), b2 _ _ (by omega)]; exact a3 y h
  · rw [c2 _ _ (by omega)]; exact b3 y h
  · exact c3 y h
theorem l_136 {x : Int32} : ∀ (m k f : Nat) (J : Hi), k + m = 21 → m < f → ∃ K, b_X7_court_136 f J x (nI k) = b_X7_court_155 K x ∧ (∀ a b, a ≠ 83 → K a b = J a b) ∧ (∀ y, y < k → K 83 y = J 83 y) ∧ ∀ y, k ≤ y → y < 21 → K 83 y = 0
  | 0, k, f + 1, J, hk, hf => ⟨J, by rw [b_X7_court_136, nIl 21, if_pos ((nIle (by omega) (by omega)).mpr (by omega))], fun _ _ _ => rfl, fun _ _ => rfl, fun y h1 h2 => by omega⟩
  | m + 1, k, f + 1, J, hk, hf => by
    obtain ⟨K, k1, k2, k3, k4⟩ := l_136 (x := x) m (k + 1) f (u2 J 83 k 0) (by omega) (by omega)
    refine ⟨K, ?_, fun x y hx => by rw [k2 x y hx, u2_r hx], fun y hy => by rw [k3 y (by omega), u2_c (by omega)], fun y h1 h2 => ?_⟩
    · rw [b_X7_court_136, nIl 21, if_neg (by rw [nIle (by omega) (by omega)]; omega), if_pos (vinT (by omega) (by omega)), nIn (by omega), obs, nI_1]
      exact k1
    · by_cases hy : y = k
      · rw [hy, k3 k (by omega), u2_s]
      · exact k4 y (by omega) h2
theorem neg10 {s : Nat} (h : s ≤ 160) : ¬ (0 : Int32) ≤ -10 - nI s := by
  have e : (-10 - nI s).toInt = -10 - (s : Int) := by
    have h1 : -10 - nI s = Int32.ofInt (-10 - (s : Int)) := by
      rw [Int32.ofInt_sub]
      rfl
    rw [h1, Int32.toInt_ofInt_of_le (by omega) (by omega)]
  intro h1
  have := Int32.le_iff_toInt_le.mp h1
  rw [e, Int32.toInt_zero] at this
  omega
theorem sim_court (h : Inv c d I L) : ∃ r I1 I2 c' d', f_X6_court c d I = some (r, I1, c', d') ∧ f_X7_court I1 = some (r, I2) ∧ Inv c' d' I2 L := by
  obtain ⟨hc, hd, hcd, hL, hT, q, hCT, hNW, hHS, hIM, hSN⟩ := h
  have hc3 := isC_r hc
  have hd3 := isC_r hd
  obtain ⟨tl, tx, ⟨t1, t2, t3⟩, ht⟩ := id hT
  have hT2 : ∀ J, (∀ a b, 77 ≤ a → J a b = I a b) → T2 I J tl tx := fun J hJ => ⟨⟨t1, by rw [hJ _ _ (by decide)]; exact t2, t3⟩, fun j hj => by rw [hJ _ _ (by decide)]; exact ht j hj⟩
  obtain ⟨r, A, B0, p1, -, pF, -, pr⟩ := e_court hd3 (hT2 I (fun _ _ _ => rfl))
  rcases pr with ⟨y, hy, rfl, -⟩ | ⟨s, hs, rfl⟩
  · obtain ⟨A1, n1, n2, n3, n4, n5, n6⟩ := e_anew (u2 A 1 1 0)
    have h0y : (0 : Int32) ≤ nI y := (nIle (a := 0) (by omega) (by omega)).mpr (by omega)
    generalize hC : u2 (u2 (u2 (u2 A1 19 1 0) 63 3 0) 62 0 0) 62 1 0 = C
    have cF : ∀ a b, (a < 15 ∨ 18 < a) → ¬ (a = 19 ∧ b = 1) → ¬ (a = 63 ∧ b = 3) → a ≠ 62 → ¬ (a = 1 ∧ b = 1) → C a b = A a b := fun a b z1 z2 z3 z4 z5 => by
      rw [← hC, u2_r z4, u2_r z4]
      refine (if_neg z3).trans ((if_neg z2).trans ?_)
      rw [n2 _ _ z1]
      exact if_neg z5
    have cI : ∀ a b, (a < 15 ∨ 18 < a) → ¬ (a = 19 ∧ b = 1) → ¬ (a = 63 ∧ b = 3) → a ≠ 62 → a ≠ 1 → ¬ (d ≤ a ∧ a ≤ d + 5) → C a b = I a b := fun a b z1 z2 z3 z4 z5 z6 => by
      rw [cF _ _ z1 z2 z3 z4 (by omega), pF _ _ (by omega) z6]
    have cl : f_X6_court c d I = some (nI y, C, d, c) := by
      rw [f_X6_court, p1, obs]
      refine (if_pos h0y).trans ?_
      show ((some (u2 A 1 1 0)).bind fun I41 => (f_X3_startAnew 15 I41).bind fun r48 => (some (u2 r48 19 1 0)).bind fun I56 => (some (u2 I56 63 3 0)).bind fun I64 => b_X6_court_69 2000 d c I64 (nI y) 0) = _
      rw [obs, n1, obs, obs, obs, b_X6_court_69, if_neg (by decide), if_pos (by decide), obs, b_X6_court_69, if_neg (by decide), if_pos (by decide), obs, b_X6_court_69, if_pos (by decide)]
      rw [← hC]
      rfl
    obtain ⟨r2, A', B, q1, q2, -, qG, qr⟩ := e_court hd3 (hT2 C (fun a b z => cI _ _ (by omega) (by omega) (by omega) (by omega) (by omega) (by omega)))
    rw [p1, Option.some.injEq, Prod.mk.injEq] at q1
    obtain ⟨rfl, rfl⟩ := q1
    have hDR : DR d A B := by
      rcases qr with ⟨y2, _, _, z⟩ | ⟨s, hs, hh⟩
      · exact z
      · rw [hh] at h0y; exact absurd h0y (neg10 hs)
    obtain ⟨⟨lc, lv, ⟨e1, e2, e3⟩, e4⟩, ⟨gc, gv, ⟨f1, f2, f3⟩, f4⟩, ⟨sc, tv, ⟨g1, g2, g3⟩, g4⟩, ⟨fc, mv, rv, ⟨k1, k2, k3⟩, k4⟩, ln, l1, l2, l3, l4⟩ := hDR
    sorry
  · obtain ⟨r2, A', B, q1, q2, -, qG, qr⟩ := e_court hd3 (hT2 A (fun a b z => pF _ _ (by omega) (by omega)))
    rw [p1, Option.some.injEq, Prod.mk.injEq] at q1
    obtain ⟨rfl, rfl⟩ := q1
    have bF : ∀ a b, ¬ (a = 1 ∧ 2 ≤ b) → ¬ (d ≤ a ∧ a ≤ d + 5) → ¬ (a = 77 ∧ 20 ≤ b ∧ b ≤ 33) → ¬ (89 ≤ a ∧ a ≤ 93) → B a b = I a b := fun a b z1 z2 z3 z4 => by rw [qG _ _ z3 z4, pF _ _ z1 z2]
    refine ⟨-10 - nI s, A, B, c, d, ?_, ?_, hc, hd, hcd, hL, hT.fr (fun a b k => bF _ _ (by omega) (by omega) (by omega) (by omega)), q, hCT.fr (fun a b k => ?_), hNW.fr (fun a b k => bF _ _ (by omega) (by omega) (by omega) (by omega)), hHS.fr (fun a b k => bF _ _ (by omega) (by omega) (by omega) (by omega)), hIM.fr (fun a b k => bF _ _ (by omega) (by omega) (by omega) (by omega)), hSN.fr (fun a b k => bF _ _ (by omega) (by omega) (by omega) (by omega))⟩
    · rw [f_X6_court, p1, obs]
      exact if_neg (neg10 hs)
    · rw [f_X7_court, q2, obs]
      exact if_neg (neg10 hs)
    · unfold KC at k
      exact bF _ _ (by omega) (by omega) (by omega) (by omega)
end CRT
