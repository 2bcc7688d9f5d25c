/-! a new court -/
section CRT
variable {c d : Nat} {I J : Hi} {L : Hl}
theorem l_fill {a : Nat} {v : Int32} : ∀ (m k f : Nat) (J : Hi), k + m = 6 → m < f → ∃ K, b_J7_fill_53178_5 a 6 f J v (nI k) (nI 6) = some K ∧ (∀ x y, x ≠ a → K x y = J x y) ∧ (∀ y, y < k → K a y = J a y) ∧ ∀ y, k ≤ y → y < 6 → K a y = v
  | 0, k, f + 1, J, hk, hf => ⟨J, by rw [b_J7_fill_53178_5, if_pos ((nIle (by omega) (by omega)).mpr (by omega))], fun _ _ _ => rfl, fun _ _ => rfl, fun y h1 h2 => by omega⟩
  | m + 1, k, f + 1, J, hk, hf => by
    obtain ⟨K, k1, k2, k3, k4⟩ := l_fill (a := a) (v := v) m (k + 1) f (u2 J a k v) (by omega) (by omega)
    refine ⟨K, ?_, fun x y hx => by rw [k2 x y hx, u2_r hx], fun y hy => by rw [k3 y (by omega), u2_c (by omega)], fun y h1 h2 => ?_⟩
    · rw [b_J7_fill_53178_5, if_neg (by rw [nIle (by omega) (by omega)]; omega), if_pos (vinT (by omega) (by omega)), nIn (by omega), obs, nI_1]
      exact k1
    · by_cases hy : y = k
      · rw [hy, k3 k (by omega), u2_s]
      · exact k4 y (by omega) h2
theorem e_fill {a : Nat} {v : Int32} (J : Hi) : ∃ K, f_J7_fill_53178 a 6 J v = some K ∧ (∀ x y, x ≠ a → K x y = J x y) ∧ ∀ y, y < 6 → K a y = v := by
  obtain ⟨K, k1, k2, k3, k4⟩ := l_fill (a := a) (v := v) 6 0 2000 J (by omega) (by omega)
  exact ⟨K, k1, k2, fun y hy => k4 y (by omega) hy⟩
theorem e_anew (J : Hi) : ∃ K, f_X3_startAnew 15 J = some K ∧ (∀ x y, (x < 15 ∨ 18 < x) → K x y = J x y) ∧ (∀ y, y < 3 → K 15 y = 0) ∧ (∀ y, y < 6 → K 16 y = 0) ∧ (∀ y, y < 6 → K 17 y = 0) ∧ ∀ y, y < 6 → K 18 y = 0 := by
  obtain ⟨K1, a1, a2, a3⟩ := e_fill (a := 15 + 1) (v := 0) (u2 (u2 (u2 J 15 0 0) 15 1 0) 15 2 0)
  obtain ⟨K2, b1, b2, b3⟩ := e_fill (a := 15 + 2) (v := 0) K1
  obtain ⟨K3, c1, c2, c3⟩ := e_fill (a := 15 + 3) (v := 0) K2
  refine ⟨K3, ?_, fun x y h => ?_, fun y h => ?_, fun y h => ?_, fun y h => ?_, fun y h => ?_⟩
  · rw [f_X3_startAnew]
    simp only [obs, a1, b1, c1]
  · rw [c2 _ _ (by omega), b2 _ _ (by omega), a2 _ _ (by omega), u2_r (by omega), u2_r (by omega), u2_r (by omega)]
  · rw [c2 _ _ (by omega), b2 _ _ (by omega), a2 _ _ (by omega)]
    have : y = 0 ∨ y = 1 ∨ y = 2 := by omega
    rcases this with rfl | rfl | rfl
    · rw [u2_c (by decide), u2_c (by decide), u2_s]
    · rw [u2_c (by decide), u2_s]
    · rw [u2_s]
  · rw [c2 _ _ (by omega), b2 _ _ (by omega)]; exact a3 y h
  · rw [c2 _ _ (by omega)]; exact b3 y h
  · exact c3 y h
theorem l_136 {x : Int32} : ∀ (m k f : Nat) (J : Hi), k + m = 21 → m < f → ∃ K, b_X7_court_136 f J x (nI k) = b_X7_court_155 K x ∧ (∀ a b, a ≠ 83 → K a b = J a b) ∧ (∀ y, y < k → K 83 y = J 83 y) ∧ ∀ y, k ≤ y → y < 21 → K 83 y = 0
  | 0, k, f + 1, J, hk, hf => ⟨J, by rw [b_X7_court_136, nIl 21, if_pos ((nIle (by omega) (by omega)).mpr (by omega))], fun _ _ _ => rfl, fun _ _ => rfl, fun y h1 h2 => by omega⟩
  | m + 1, k, f + 1, J, hk, hf => by
    obtain ⟨K, k1, k2, k3, k4⟩ := l_136 (x := x) m (k + 1) f (u2 J 83 k 0) (by omega) (by omega)
    refine ⟨K, ?_, fun x y hx => by rw [k2 x y hx, u2_r hx], fun y hy => by rw [k3 y (by omega), u2_c (by omega)], fun y h1 h2 => ?_⟩
    · rw [b_X7_court_136, nIl 21, if_neg (by rw [nIle (by omega) (by omega)]; omega), if_pos (vinT (by omega) (by omega)), nIn (by omega), obs, nI_1]
      exact k1
    · by_cases hy : y = k
      · rw [hy, k3 k (by omega), u2_s]
      · exact k4 y (by omega) h2
theorem cpyF {a s b t n x y : Nat} (h : x ≠ b) : cpy a s b t n J x y = J x y := if_neg fun k => h k.1
theorem cpyS {a b n y : Nat} (h : y < n) : cpy a 0 b 0 n J b y = J a y := by
  rw [cpy, if_pos ⟨rfl, Nat.zero_le _, by omega⟩, Nat.zero_add, Nat.sub_zero]
theorem neg10 {s : Nat} (h : s ≤ 160) : ¬ (0 : Int32) ≤ -10 - nI s := by
  have e : (-10 - nI s).toInt = -10 - (s : Int) := by
    have h1 : -10 - nI s = Int32.ofInt (-10 - (s : Int)) := by
      rw [Int32.ofInt_sub]
      rfl
    rw [h1, Int32.toInt_ofInt_of_le (by omega) (by omega)]
  intro h1
  have := Int32.le_iff_toInt_le.mp h1
  rw [e, Int32.toInt_zero] at this
  omega
theorem sim_court (h : Inv c d I L) : ∃ r I1 I2 c' d', f_X6_court c d I = some (r, I1, c', d') ∧ f_X7_court I1 = some (r, I2) ∧ Inv c' d' I2 L := by
  obtain ⟨hc, hd, hcd, hL, hT, q, hCT, hNW, hHS, hIM, hSN⟩ := h
  have hc3 := isC_r hc
  have hd3 := isC_r hd
  obtain ⟨tl, tx, ⟨t1, t2, t3⟩, ht⟩ := id hT
  have hT2 : ∀ J, (∀ a b, 77 ≤ a → J a b = I a b) → T2 I J tl tx := fun J hJ => ⟨⟨t1, by rw [hJ _ _ (by decide)]; exact t2, t3⟩, fun j hj => by rw [hJ _ _ (by decide)]; exact ht j hj⟩
  obtain ⟨r, A, B0, p1, -, pF, -, pr⟩ := e_court hd3 (hT2 I (fun _ _ _ => rfl))
  rcases pr with ⟨y, hy, rfl, -⟩ | ⟨s, hs, rfl⟩
  · obtain ⟨A1, n1, n2, n3, n4, n5, n6⟩ := e_anew (u2 A 1 1 0)
    have h0y : (0 : Int32) ≤ nI y := (nIle (a := 0) (by omega) (by omega)).mpr (by omega)
    generalize hC : u2 (u2 (u2 (u2 A1 19 1 0) 63 3 0) 62 0 0) 62 1 0 = C
    have cF : ∀ a b, (a < 15 ∨ 18 < a) → ¬ (a = 19 ∧ b = 1) → ¬ (a = 63 ∧ b = 3) → a ≠ 62 → ¬ (a = 1 ∧ b = 1) → C a b = A a b := fun a b z1 z2 z3 z4 z5 => by
      rw [← hC, u2_r z4, u2_r z4]
      refine (if_neg z3).trans ((if_neg z2).trans ?_)
      rw [n2 _ _ z1]
      exact if_neg z5
    have cI : ∀ a b, (a < 15 ∨ 18 < a) → ¬ (a = 19 ∧ b = 1) → ¬ (a = 63 ∧ b = 3) → a ≠ 62 → a ≠ 1 → ¬ (d ≤ a ∧ a ≤ d + 5) → C a b = I a b := fun a b z1 z2 z3 z4 z5 z6 => by
      rw [cF _ _ z1 z2 z3 z4 (by omega), pF _ _ (by omega) z6]
    have cl : f_X6_court c d I = some (nI y, C, d, c) := by
      rw [f_X6_court, p1, obs]
      refine (if_pos h0y).trans ?_
      show ((some (u2 A 1 1 0)).bind fun I41 => (f_X3_startAnew 15 I41).bind fun r48 => (some (u2 r48 19 1 0)).bind fun I56 => (some (u2 I56 63 3 0)).bind fun I64 => b_X6_court_69 2000 d c I64 (nI y) 0) = _
      rw [obs, n1, obs, obs, obs, b_X6_court_69, if_neg (by decide), if_pos (by decide), obs, b_X6_court_69, if_neg (by decide), if_pos (by decide), obs, b_X6_court_69, if_pos (by decide)]
      rw [← hC]
      rfl
    obtain ⟨r2, A', B, q1, q2, -, qG, qr⟩ := e_court hd3 (hT2 C (fun a b z => cI _ _ (by omega) (by omega) (by omega) (by omega) (by omega) (by omega)))
    rw [p1, Option.some.injEq, Prod.mk.injEq] at q1
    obtain ⟨rfl, rfl⟩ := q1
    have hDR : DR d A B := by
      rcases qr with ⟨y2, _, _, z⟩ | ⟨s, hs, hh⟩
      · exact z
      · rw [hh] at h0y; exact absurd h0y (neg10 hs)
    obtain ⟨⟨lc, lv, ⟨e1, e2, e3⟩, e4⟩, ⟨gc, gv, ⟨f1, f2, f3⟩, f4⟩, ⟨sc, tv, ⟨g1, g2, g3⟩, g4⟩, ⟨fc, mv, rv, ⟨k1, k2, k3⟩, k4⟩, ln, l1, l2, l3, l4⟩ := hDR
    clear qr
    have b24 : ∀ a b, a < 77 → B a b = C a b := fun a b z => qG _ _ (by omega) (by omega)
    generalize hB1 : u2 (u2 (u2 (u2 (u2 B 77 0 (nI lc)) 77 2 (nI gc)) 77 4 (nI sc)) 77 6 (nI fc)) 77 9 (nI ln) = B1
    have b1F : ∀ a b, ¬ (a = 77 ∧ b ≤ 9) → B1 a b = B a b := fun a b z => by
      rw [← hB1]
      simp only [u2]
      rw [if_neg (by omega), if_neg (by omega), if_neg (by omega), if_neg (by omega), if_neg (by omega)]
    generalize hM : cpy 93 0 82 0 3 (cpy 92 0 81 0 3 (cpy 91 0 80 0 24 (cpy 90 0 79 0 6 (cpy 89 0 78 0 5 B1)))) = M
    have mF : ∀ a b, (a < 78 ∨ 82 < a) → M a b = B1 a b := fun a b z => by
      rw [← hM]
      simp only [cpy]
      rw [if_neg (by omega), if_neg (by omega), if_neg (by omega), if_neg (by omega), if_neg (by omega)]
    have m78 : ∀ j, j < 5 → M 78 j = B 89 j := fun j hj => by
      rw [← hM, cpyF (by decide), cpyF (by decide), cpyF (by decide), cpyF (by decide), cpyS hj, b1F _ _ (by omega)]
    have m79 : ∀ j, j < 6 → M 79 j = B 90 j := fun j hj => by
      rw [← hM, cpyF (by decide), cpyF (by decide), cpyF (by decide), cpyS hj, cpyF (by decide), b1F _ _ (by omega)]
    have m80 : ∀ j, j < 24 → M 80 j = B 91 j := fun j hj => by
      rw [← hM, cpyF (by decide), cpyF (by decide), cpyS hj, cpyF (by decide), cpyF (by decide), b1F _ _ (by omega)]
    have m81 : ∀ j, j < 3 → M 81 j = B 92 j := fun j hj => by
      rw [← hM, cpyF (by decide), cpyS hj, cpyF (by decide), cpyF (by decide), cpyF (by decide), b1F _ _ (by omega)]
    have m82 : ∀ j, j < 3 → M 82 j = B 93 j := fun j hj => by
      rw [← hM, cpyS hj, cpyF (by decide), cpyF (by decide), cpyF (by decide), cpyF (by decide), b1F _ _ (by omega)]
    obtain ⟨K, w1, w2, -, w4⟩ := l_136 (x := nI y) 21 0 2000 M (by omega) (by omega)
    generalize hN : u2 (u2 (u2 (u2 (u2 K 77 12 0) 77 16 0) 86 0 0) 86 1 0) 77 19 0 = N
    have nK : ∀ a b, ¬ (a = 77 ∧ 12 ≤ b) → a ≠ 86 → N a b = K a b := fun a b z1 z2 => by
      rw [← hN]
      simp only [u2]
      rw [if_neg (by omega), if_neg (by omega), if_neg (by omega), if_neg (by omega), if_neg (by omega)]
    have m59 : ∀ J0 : Hi, u2 J0 77 9 (nI ln) = B1 → b_X7_court_59 J0 (nI y) (nI ln) = some (nI y, N) := by
      intro J0 hJ0
      rw [b_X7_court_59, obs, hJ0]
      rw [show f_X7_copies 89 5 78 5 B1 0 0 5 = _ from e_copies (s := 0) (t := 0) (n := 5) (by decide) (by decide) (by decide) (by decide) (by decide), obs, show ∀ X : Hi, f_X7_copies 90 6 79 6 X 0 0 6 = _ from fun X => e_copies (s := 0) (t := 0) (n := 6) (by decide) (by decide) (by decide) (by decide) (by decide), obs, show ∀ X : Hi, f_X7_copies 91 24 80 24 X 0 0 24 = _ from fun X => e_copies (s := 0) (t := 0) (n := 24) (by decide) (by decide) (by decide) (by decide) (by decide), obs, show ∀ X : Hi, f_X7_copies 92 3 81 3 X 0 0 3 = _ from fun X => e_copies (s := 0) (t := 0) (n := 3) (by decide) (by decide) (by decide) (by decide) (by decide), obs, show ∀ X : Hi, f_X7_copies 93 3 82 3 X 0 0 3 = _ from fun X => e_copies (s := 0) (t := 0) (n := 3) (by decide) (by decide) (by decide) (by decide) (by decide), obs, hM, show b_X7_court_136 2000 M (nI y) 0 = _ from w1, b_X7_court_155, obs, obs, if_pos (by decide), obs, if_pos (by decide), obs, obs]
      rw [← hN]
      rfl
    have ml : f_X7_court C = some (nI y, N) := by
      rw [f_X7_court, q2, obs]
      refine (if_pos h0y).trans ?_
      show ((some (u2 B 77 0 (B 77 24))).bind fun I16 => (some (u2 I16 77 2 (I16 77 26))).bind fun I24 => (some (u2 I24 77 4 (I24 77 28))).bind fun I32 => (some (u2 I32 77 6 (I32 77 30))).bind fun I40 => if I40 77 33 = 0 then b_X7_court_59 I40 (nI y) 3 else b_X7_court_59 I40 (nI y) (I40 77 33)) = _
      rw [e2, obs, u2_c (by decide), f2, obs, u2_c (by decide), u2_c (by decide), g2, obs, u2_c (by decide), u2_c (by decide), u2_c (by decide), k2, obs, u2_c (by decide), u2_c (by decide), u2_c (by decide), u2_c (by decide)]
      rcases l4 with ⟨z1, z2, z3⟩ | ⟨z1, z2⟩
      · rw [z2, if_pos rfl]
        have := m59 _ hB1
        rw [z3] at this
        exact this
      · rw [z2, if_neg (fun hh => by have := (nI_0iff (by omega)).mp hh; omega)]
        exact m59 _ hB1
    have nA : ∀ a b, a < 77 → N a b = C a b := fun a b z => by rw [nK _ _ (by omega) (by omega), w2 _ _ (by omega), mF _ _ (by omega), b1F _ _ (by omega), b24 _ _ z]
    have nC : ∀ a b, d ≤ a → a ≤ d + 5 → N a b = A a b := fun a b z1 z2 => by rw [nA _ _ (by omega), cF _ _ (by omega) (by omega) (by omega) (by omega) (by omega)]
    have n7 : ∀ b, b ≤ 9 → N 77 b = B1 77 b := fun b z => by rw [nK _ _ (by omega) (by omega), w2 _ _ (by omega), mF _ _ (by omega)]
    have n8 : ∀ a b, 78 ≤ a → a ≤ 82 → N a b = M a b := fun a b z1 z2 => by rw [nK _ _ (by omega) (by omega), w2 _ _ (by omega)]
    have n83 : ∀ j, j < 21 → N 83 j = 0 := fun j z => by rw [nK _ _ (by omega) (by omega)]; exact w4 j (by omega) z
    have cN : ∀ a b, 15 ≤ a → a ≤ 18 → N a b = A1 a b := fun a b z1 z2 => by
      rw [nA _ _ (by omega), ← hC, u2_r (by omega), u2_r (by omega), u2_r (by omega), u2_r (by omega)]
    refine ⟨nI y, C, N, d, c, cl, ml, hd, hc, fun hh => hcd hh.symm, hL, ⟨0, fun _ => 0, ⟨?_, ?_, by omega⟩, fun j hj => by omega⟩, ((lc, gc, sc, fc, ln), lv, gv, tv, mv, rv), ?_, ?_, ?_, ?_, ?_⟩
    · rw [nA _ _ (by decide), ← hC, u2_r (by decide), u2_r (by decide), u2_r (by decide), u2_r (by decide), n2 _ _ (by decide)]
      exact u2_s
    · rw [← hN]; exact u2_s
    · refine ⟨⟨?_, ?_, e3⟩, ⟨?_, ?_, f3⟩, ⟨?_, ?_, g3⟩, ⟨?_, ?_, k3⟩, ⟨?_, ?_, l2, l3⟩, fun j hj => ?_, fun j hj => ?_, fun j hj => ?_, fun j hj => ?_, fun j hj => ?_⟩
      · rw [nC _ _ (by omega) (by omega)]; exact e1
      · rw [n7 _ (by decide), ← hB1, u2_c (by decide), u2_c (by decide), u2_c (by decide), u2_c (by decide)]; exact u2_s
      · rw [nC _ _ (by omega) (by omega)]; exact f1
      · rw [n7 _ (by decide), ← hB1, u2_c (by decide), u2_c (by decide), u2_c (by decide)]; exact u2_s
      · rw [nC _ _ (by omega) (by omega)]; exact g1
      · rw [n7 _ (by decide), ← hB1, u2_c (by decide), u2_c (by decide)]; exact u2_s
      · rw [nC _ _ (by omega) (by omega)]; exact k1
      · rw [n7 _ (by decide), ← hB1, u2_c (by decide)]; exact u2_s
      · rw [nC _ _ (by omega) (by omega)]; exact l1
      · rw [n7 _ (by decide), ← hB1]; exact u2_s
      · have hj : j < lc := hj
        rw [nC _ _ (by omega) (by omega), n8 _ _ (by omega) (by omega), m78 _ (by omega)]; exact e4 j hj
      · have hj : j < gc := hj
        rw [nC _ _ (by omega) (by omega), n8 _ _ (by omega) (by omega), m79 _ (by omega)]; exact f4 j hj
      · have hj : j < 6 * sc := hj
        rw [nC _ _ (by omega) (by omega), n8 _ _ (by omega) (by omega), m80 _ (by omega)]; exact g4 j hj
      · have hj : j < fc := hj
        rw [nC _ _ (by omega) (by omega), n8 _ _ (by omega) (by omega), m81 _ (by omega)]; exact (k4 j hj).1
      · have hj : j < fc := hj
        rw [nC _ _ (by omega) (by omega), n8 _ _ (by omega) (by omega), m82 _ (by omega)]; exact (k4 j hj).2
    · refine ⟨0, 0, 0, fun _ => 0, fun _ => 0, ⟨?_, n83 _ (by omega), by omega⟩, ⟨?_, n83 _ (by omega), Or.inr rfl⟩, ⟨?_, n83 _ (by omega), by omega⟩, fun g hg => ⟨⟨?_, n83 _ (by omega), Nat.zero_le _, fun _ => rfl⟩, ?_, n83 _ (by omega), (fun hh => by cases hh), fun _ => rfl⟩⟩
      · rw [cN _ _ (by omega) (by omega)]; exact n3 0 (by omega)
      · rw [cN _ _ (by omega) (by omega)]; exact n3 1 (by omega)
      · rw [cN _ _ (by omega) (by omega)]; exact n3 2 (by omega)
      · rw [cN _ _ (by omega) (by omega)]; exact n4 g hg
      · rw [cN _ _ (by omega) (by omega), n83 _ (by omega)]; exact n6 g hg
    · obtain ⟨kn, nx, -, ⟨o1, o2⟩, -⟩ := hHS
      refine ⟨0, nx, ⟨?_, ?_, by omega⟩, ⟨?_, o2⟩, fun i hi => by omega⟩
      · rw [nA _ _ (by decide), ← hC, u2_r (by decide), u2_r (by decide), u2_r (by decide)]; exact u2_s
      · rw [← hN, u2_c (by decide), u2_r (by decide), u2_r (by decide), u2_c (by decide)]; exact u2_s
      · rw [nA _ _ (by decide), cI _ _ (by omega) (by omega) (by omega) (by omega) (by omega) (by omega)]; exact o1
    · intro i hi
      have : i = 0 ∨ i = 1 := by omega
      refine Or.inl ⟨?_, ?_⟩
      · rw [nA _ _ (by decide), ← hC]
        rcases this with rfl | rfl
        · rw [u2_c (by decide)]; exact u2_s
        · exact u2_s
      · rw [← hN, u2_r (by decide)]
        rcases this with rfl | rfl
        · rw [u2_c (by decide)]; exact u2_s
        · exact u2_s
    · refine ⟨0, fun _ => 0, fun _ => 0, fun _ => 0, ⟨?_, ?_, by omega⟩, fun i hi => by omega⟩
      · rw [nA _ _ (by decide), ← hC, u2_r (by decide), u2_r (by decide)]; exact u2_s
      · rw [← hN, u2_c (by decide), u2_r (by decide), u2_r (by decide)]; exact u2_s
  · obtain ⟨r2, A', B, q1, q2, -, qG, -⟩ := e_court hd3 (hT2 A (fun a b z => pF _ _ (by omega) (by omega)))
    rw [p1, Option.some.injEq, Prod.mk.injEq] at q1
    obtain ⟨rfl, rfl⟩ := q1
    have bF : ∀ a b, ¬ (a = 1 ∧ 2 ≤ b) → ¬ (d ≤ a ∧ a ≤ d + 5) → ¬ (a = 77 ∧ 20 ≤ b ∧ b ≤ 33) → ¬ (89 ≤ a ∧ a ≤ 93) → B a b = I a b := fun a b z1 z2 z3 z4 => by rw [qG _ _ z3 z4, pF _ _ z1 z2]
    refine ⟨-10 - nI s, A, B, c, d, ?_, ?_, hc, hd, hcd, hL, hT.fr (fun a b k => bF _ _ (by omega) (by omega) (by omega) (by omega)), q, hCT.fr (fun a b k => ?_), hNW.fr (fun a b k => bF _ _ (by omega) (by omega) (by omega) (by omega)), hHS.fr (fun a b k => bF _ _ (by omega) (by omega) (by omega) (by omega)), hIM.fr (fun a b k => bF _ _ (by omega) (by omega) (by omega) (by omega)), hSN.fr (fun a b k => bF _ _ (by omega) (by omega) (by omega) (by omega))⟩
    · rw [f_X6_court, p1, obs]
      exact if_neg (neg10 hs)
    · rw [f_X7_court, q2, obs]
      exact if_neg (neg10 hs)
    · unfold KC at k
      exact bF _ _ (by omega) (by omega) (by omega) (by omega)
end CRT
