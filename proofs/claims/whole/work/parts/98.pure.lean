/-! the loop of calls -/
theorem inv_start : Inv 3 9 iM1 lM1 := by
  refine ⟨Or.inl rfl, Or.inr rfl, by decide, by decide +kernel, ⟨0, fun _ => 0, ⟨by decide +kernel, by decide +kernel, by decide⟩, fun j hj => absurd hj (Nat.not_lt_zero _)⟩, ((0, 0, 0, 0, 3), fun _ => 0, fun _ => 0, fun _ => 0, fun _ => 0, fun _ => 0), ⟨⟨by decide +kernel, by decide +kernel, by decide⟩, ⟨by decide +kernel, by decide +kernel, by decide⟩, ⟨by decide +kernel, by decide +kernel, by decide⟩, ⟨by decide +kernel, by decide +kernel, by decide⟩, ⟨by decide +kernel, by decide +kernel, by decide, by decide⟩, fun j hj => absurd hj (Nat.not_lt_zero _), fun j hj => absurd hj (Nat.not_lt_zero _), fun j hj => absurd hj (Nat.not_lt_zero _), fun j hj => absurd hj (Nat.not_lt_zero _), fun j hj => absurd hj (Nat.not_lt_zero _)⟩, ⟨0, 0, 0, fun _ => 0, fun _ => 0, ⟨by decide +kernel, by decide +kernel, by decide⟩, ⟨by decide +kernel, by decide +kernel, Or.inr rfl⟩, ⟨by decide +kernel, by decide +kernel, by decide⟩, fun g hg => ?_⟩, ⟨0, 0, ⟨by decide +kernel, by decide +kernel, by decide⟩, ⟨by decide +kernel, by decide⟩, fun j hj => absurd hj (Nat.not_lt_zero _)⟩, fun i hi => ?_, ⟨0, fun _ => 0, fun _ => 0, fun _ => 0, ⟨by decide +kernel, by decide +kernel, by decide⟩, fun j hj => absurd hj (Nat.not_lt_zero _)⟩⟩
  · have key : ∀ g, g < 6 → iM1 16 g = nI 0 ∧ iM1 83 (0 + 3 + g) = nI 0 ∧ iM1 18 g = iM1 83 (0 + 15 + g) ∧ iM1 83 (0 + 9 + g) = nI 0 := by decide +kernel
    obtain ⟨a, b, e, f⟩ := key g hg
    exact ⟨⟨a, b, Nat.zero_le _, fun _ => rfl⟩, e, f, (fun hh => by cases hh), fun _ => rfl⟩
  · have key : ∀ i, i < 2 → iM1 62 i = 0 ∧ iM1 86 i = 0 := by decide +kernel
    exact Or.inl (key i hi)
theorem l_law (xs : Nat → Int32) (nx : Nat) (hnx : nx ≤ 320) : ∀ (n k c d : Nat) (I : Hi) (L : Hl), Inv c d I L → 5 * k ≤ nx → nx + 5 ≤ 5 * (k + n) → b_L_law_18 xs nx n c d I L (nI (5 * k)) = some true
  | 0, k, c, d, I, L, h, h1, h2 => by omega
  | n + 1, k, c, d, I, L, h, h1, h2 => by
    have e5 : (nI nx - (5 : Int32)).toInt = (nx : Int) - 5 := pk_sub_toInt (b := 5) (by omega) (by decide)
    rw [b_L_law_18]
    by_cases hlt : nx < 5 * k + 5
    · refine if_pos (Int32.lt_iff_toInt_lt.mpr ?_)
      rw [e5, nI_toInt (by omega)]
      omega
    · refine (if_neg (fun hh => ?_)).trans ?_
      · have := Int32.lt_iff_toInt_lt.mp hh
        rw [e5, nI_toInt (by omega)] at this
        omega
      have v0 : vinb (nI (5 * k)) nx = true := vinT (by omega) (by omega)
      have v1 : vinb (nI (5 * k) + (1 : Int32)) nx = true := by rw [nIl 1, nI_add]; exact vinT (by omega) (by omega)
      have v2 : vinb (nI (5 * k) + (2 : Int32)) nx = true := by rw [nIl 2, nI_add]; exact vinT (by omega) (by omega)
      have v3 : vinb (nI (5 * k) + (3 : Int32)) nx = true := by rw [nIl 3, nI_add]; exact vinT (by omega) (by omega)
      have v4 : vinb (nI (5 * k) + (4 : Int32)) nx = true := by rw [nIl 4, nI_add]; exact vinT (by omega) (by omega)
      have nxt : ∀ c d I L, Inv c d I L → b_L_law_831 xs nx (b_L_law_18 xs nx n) c d I L (nI (5 * k)) = some true := by
        intro c d I L h
        rw [b_L_law_831, show nI (5 * k) + (5 : Int32) = nI (5 * (k + 1)) from nI_add (5 * k) 5]
        exact l_law xs nx hnx n (k + 1) c d I L h (by omega) (by omega)
      refine (if_pos v0).trans ?_
      by_cases h0 : xs (nI (5 * k)).toNatClampNeg &&& (31 : Int32) = (0 : Int32)
      · refine (if_pos h0).trans ?_
        refine (if_pos v1).trans ?_
        obtain ⟨r, I1, I2, e1, e2, hI⟩ := sim_type h (xs (nI (5 * k) + (1 : Int32)).toNatClampNeg)
        rw [e1, obs]
        refine (if_pos v1).trans ?_
        rw [e2, obs]
        refine (if_pos rfl).trans ?_
        exact nxt _ _ _ _ hI
      refine (if_neg h0).trans ?_
      by_cases h1 : xs (nI (5 * k)).toNatClampNeg &&& (31 : Int32) = (1 : Int32)
      · refine (if_pos h1).trans ?_
        obtain ⟨r, I1, I2, e1, e2, hI⟩ := sim_clear h
        rw [e1, obs]
        rw [e2, obs]
        refine (if_pos rfl).trans ?_
        exact nxt _ _ _ _ hI
      refine (if_neg h1).trans ?_
      by_cases h2 : xs (nI (5 * k)).toNatClampNeg &&& (31 : Int32) = (2 : Int32)
      · refine (if_pos h2).trans ?_
        obtain ⟨r, I1, I2, c', d', e1, e2, hI⟩ := sim_court h
        rw [e1, obs]
        rw [e2, obs]
        refine (if_pos rfl).trans ?_
        exact nxt _ _ _ _ hI
      refine (if_neg h2).trans ?_
      by_cases h3 : xs (nI (5 * k)).toNatClampNeg &&& (31 : Int32) = (3 : Int32)
      · refine (if_pos h3).trans ?_
        refine (if_pos v1).trans ?_
        refine (if_pos v2).trans ?_
        obtain ⟨r, e1, e2⟩ := sim_leaf h (xs (nI (5 * k) + (1 : Int32)).toNatClampNeg) (xs (nI (5 * k) + (2 : Int32)).toNatClampNeg)
        rw [e1, obs]
        refine (if_pos v1).trans ?_
        refine (if_pos v2).trans ?_
        rw [e2, obs]
        refine (if_pos rfl).trans ?_
        exact nxt _ _ _ _ h
      refine (if_neg h3).trans ?_
      by_cases h4 : xs (nI (5 * k)).toNatClampNeg &&& (31 : Int32) = (4 : Int32)
      · refine (if_pos h4).trans ?_
        refine (if_pos v1).trans ?_
        refine (if_pos v2).trans ?_
        obtain ⟨r, e1, e2⟩ := sim_goer h (xs (nI (5 * k) + (1 : Int32)).toNatClampNeg) (xs (nI (5 * k) + (2 : Int32)).toNatClampNeg)
        rw [e1, obs]
        refine (if_pos v1).trans ?_
        refine (if_pos v2).trans ?_
        rw [e2, obs]
        refine (if_pos rfl).trans ?_
        exact nxt _ _ _ _ h
      refine (if_neg h4).trans ?_
      by_cases h5 : xs (nI (5 * k)).toNatClampNeg &&& (31 : Int32) = (5 : Int32)
      · refine (if_pos h5).trans ?_
        refine (if_pos v1).trans ?_
        refine (if_pos v2).trans ?_
        obtain ⟨r, e1, e2⟩ := sim_sister h (xs (nI (5 * k) + (1 : Int32)).toNatClampNeg) (xs (nI (5 * k) + (2 : Int32)).toNatClampNeg)
        rw [e1, obs]
        refine (if_pos v1).trans ?_
        refine (if_pos v2).trans ?_
        rw [e2, obs]
        refine (if_pos rfl).trans ?_
        exact nxt _ _ _ _ h
      refine (if_neg h5).trans ?_
      by_cases h6 : xs (nI (5 * k)).toNatClampNeg &&& (31 : Int32) = (6 : Int32)
      · refine (if_pos h6).trans ?_
        refine (if_pos v1).trans ?_
        obtain ⟨r, e1, e2⟩ := sim_now h (xs (nI (5 * k) + (1 : Int32)).toNatClampNeg)
        rw [e1, obs]
        refine (if_pos v1).trans ?_
        rw [e2, obs]
        refine (if_pos rfl).trans ?_
        exact nxt _ _ _ _ h
      refine (if_neg h6).trans ?_
      by_cases h7 : xs (nI (5 * k)).toNatClampNeg &&& (31 : Int32) = (7 : Int32)
      · refine (if_pos h7).trans ?_
        refine (if_pos v1).trans ?_
        obtain ⟨r, I1, I2, e1, e2, hI⟩ := sim_comes h (xs (nI (5 * k) + (1 : Int32)).toNatClampNeg)
        rw [e1, obs]
        refine (if_pos v1).trans ?_
        rw [e2, obs]
        refine (if_pos rfl).trans ?_
        exact nxt _ _ _ _ hI
      refine (if_neg h7).trans ?_
      by_cases h8 : xs (nI (5 * k)).toNatClampNeg &&& (31 : Int32) = (8 : Int32)
      · refine (if_pos h8).trans ?_
        refine (if_pos v1).trans ?_
        refine (if_pos v2).trans ?_
        obtain ⟨r, I1, I2, e1, e2, hI⟩ := sim_says h (xs (nI (5 * k) + (1 : Int32)).toNatClampNeg) (xs (nI (5 * k) + (2 : Int32)).toNatClampNeg)
        rw [e1, obs]
        refine (if_pos v1).trans ?_
        refine (if_pos v2).trans ?_
        rw [e2, obs]
        refine (if_pos rfl).trans ?_
        exact nxt _ _ _ _ hI
      refine (if_neg h8).trans ?_
      by_cases h9 : xs (nI (5 * k)).toNatClampNeg &&& (31 : Int32) = (9 : Int32)
      · refine (if_pos h9).trans ?_
        refine (if_pos v1).trans ?_
        obtain ⟨r, I1, I2, e1, e2, hI⟩ := sim_minutes h (xs (nI (5 * k) + (1 : Int32)).toNatClampNeg)
        rw [e1, obs]
        refine (if_pos v1).trans ?_
        rw [e2, obs]
        refine (if_pos rfl).trans ?_
        exact nxt _ _ _ _ hI
      refine (if_neg h9).trans ?_
      by_cases h10 : xs (nI (5 * k)).toNatClampNeg &&& (31 : Int32) = (10 : Int32)
      · refine (if_pos h10).trans ?_
        obtain ⟨r, I1, I2, e1, e2, hI⟩ := sim_undo h
        rw [e1, obs]
        rw [e2, obs]
        refine (if_pos rfl).trans ?_
        exact nxt _ _ _ _ hI
      refine (if_neg h10).trans ?_
      by_cases h11 : xs (nI (5 * k)).toNatClampNeg &&& (31 : Int32) = (11 : Int32)
      · refine (if_pos h11).trans ?_
        refine (if_pos v1).trans ?_
        refine (if_pos v2).trans ?_
        obtain ⟨r, e1, e2⟩ := sim_fewest h (xs (nI (5 * k) + (1 : Int32)).toNatClampNeg) (xs (nI (5 * k) + (2 : Int32)).toNatClampNeg)
        rw [e1, obs]
        refine (if_pos v1).trans ?_
        refine (if_pos v2).trans ?_
        rw [e2, obs]
        refine (if_pos rfl).trans ?_
        exact nxt _ _ _ _ h
      refine (if_neg h11).trans ?_
      by_cases h12 : xs (nI (5 * k)).toNatClampNeg &&& (31 : Int32) = (12 : Int32)
      · refine (if_pos h12).trans ?_
        refine (if_pos v1).trans ?_
        obtain ⟨r, I1, I2, e1, e2, hI⟩ := sim_line h (xs (nI (5 * k) + (1 : Int32)).toNatClampNeg)
        rw [e1, obs]
        refine (if_pos v1).trans ?_
        rw [e2, obs]
        refine (if_pos rfl).trans ?_
        exact nxt _ _ _ _ hI
      refine (if_neg h12).trans ?_
      by_cases h13 : xs (nI (5 * k)).toNatClampNeg &&& (31 : Int32) = (13 : Int32)
      · refine (if_pos h13).trans ?_
        refine (if_pos v1).trans ?_
        refine (if_pos v2).trans ?_
        refine (if_pos v3).trans ?_
        obtain ⟨r, I1, I2, e1, e2, hI⟩ := sim_sees h (xs (nI (5 * k) + (1 : Int32)).toNatClampNeg) (xs (nI (5 * k) + (2 : Int32)).toNatClampNeg) (xs (nI (5 * k) + (3 : Int32)).toNatClampNeg)
        rw [e1, obs]
        refine (if_pos v1).trans ?_
        refine (if_pos v2).trans ?_
        refine (if_pos v3).trans ?_
        rw [e2, obs]
        refine (if_pos rfl).trans ?_
        exact nxt _ _ _ _ hI
      refine (if_neg h13).trans ?_
      by_cases h14 : xs (nI (5 * k)).toNatClampNeg &&& (31 : Int32) = (14 : Int32)
      · refine (if_pos h14).trans ?_
        obtain ⟨r, I1, I2, e1, e2, hI⟩ := sim_forget h
        rw [e1, obs]
        rw [e2, obs]
        refine (if_pos rfl).trans ?_
        exact nxt _ _ _ _ hI
      refine (if_neg h14).trans ?_
      by_cases h15 : xs (nI (5 * k)).toNatClampNeg &&& (31 : Int32) = (15 : Int32)
      · refine (if_pos h15).trans ?_
        refine (if_pos v1).trans ?_
        obtain ⟨r, e1, e2⟩ := sim_had h (xs (nI (5 * k) + (1 : Int32)).toNatClampNeg)
        rw [e1, obs]
        refine (if_pos v1).trans ?_
        rw [e2, obs]
        refine (if_pos rfl).trans ?_
        exact nxt _ _ _ _ h
      refine (if_neg h15).trans ?_
      by_cases h16 : xs (nI (5 * k)).toNatClampNeg &&& (31 : Int32) = (16 : Int32)
      · refine (if_pos h16).trans ?_
        refine (if_pos v1).trans ?_
        obtain ⟨r, e1, e2⟩ := sim_ask h (xs (nI (5 * k) + (1 : Int32)).toNatClampNeg)
        rw [e1, obs]
        refine (if_pos v1).trans ?_
        rw [e2, obs]
        refine (if_pos rfl).trans ?_
        exact nxt _ _ _ _ h
      refine (if_neg h16).trans ?_
      by_cases h17 : xs (nI (5 * k)).toNatClampNeg &&& (31 : Int32) = (17 : Int32)
      · refine (if_pos h17).trans ?_
        refine (if_pos v1).trans ?_
        refine (if_pos v2).trans ?_
        obtain ⟨r, e1, e2⟩ := sim_tale h (xs (nI (5 * k) + (1 : Int32)).toNatClampNeg) (xs (nI (5 * k) + (2 : Int32)).toNatClampNeg)
        rw [e1, obs]
        refine (if_pos v1).trans ?_
        refine (if_pos v2).trans ?_
        rw [e2, obs]
        refine (if_pos rfl).trans ?_
        exact nxt _ _ _ _ h
      refine (if_neg h17).trans ?_
      by_cases h18 : xs (nI (5 * k)).toNatClampNeg &&& (31 : Int32) = (18 : Int32)
      · refine (if_pos h18).trans ?_
        refine (if_pos v1).trans ?_
        refine (if_pos v2).trans ?_
        obtain ⟨r, e1, e2⟩ := sim_first h (xs (nI (5 * k) + (1 : Int32)).toNatClampNeg) (xs (nI (5 * k) + (2 : Int32)).toNatClampNeg)
        rw [e1, obs]
        refine (if_pos v1).trans ?_
        refine (if_pos v2).trans ?_
        rw [e2, obs]
        refine (if_pos rfl).trans ?_
        exact nxt _ _ _ _ h
      refine (if_neg h18).trans ?_
      by_cases h19 : xs (nI (5 * k)).toNatClampNeg &&& (31 : Int32) = (19 : Int32)
      · refine (if_pos h19).trans ?_
        refine (if_pos v1).trans ?_
        obtain ⟨r, e1, e2⟩ := sim_when h (xs (nI (5 * k) + (1 : Int32)).toNatClampNeg)
        rw [e1, obs]
        refine (if_pos v1).trans ?_
        rw [e2, obs]
        refine (if_pos rfl).trans ?_
        exact nxt _ _ _ _ h
      refine (if_neg h19).trans ?_
      by_cases h20 : xs (nI (5 * k)).toNatClampNeg &&& (31 : Int32) = (20 : Int32)
      · refine (if_pos h20).trans ?_
        refine (if_pos v1).trans ?_
        refine (if_pos v2).trans ?_
        refine (if_pos v3).trans ?_
        refine (if_pos v4).trans ?_
        obtain ⟨r, e1, e2⟩ := sim_odds (xs (nI (5 * k) + (1 : Int32)).toNatClampNeg) (xs (nI (5 * k) + (2 : Int32)).toNatClampNeg) (xs (nI (5 * k) + (3 : Int32)).toNatClampNeg) (xs (nI (5 * k) + (4 : Int32)).toNatClampNeg)
        rw [e1, obs]
        refine (if_pos v1).trans ?_
        refine (if_pos v2).trans ?_
        refine (if_pos v3).trans ?_
        refine (if_pos v4).trans ?_
        rw [e2, obs]
        refine (if_pos rfl).trans ?_
        exact nxt _ _ _ _ h
      refine (if_neg h20).trans ?_
      by_cases h21 : xs (nI (5 * k)).toNatClampNeg &&& (31 : Int32) = (21 : Int32)
      · refine (if_pos h21).trans ?_
        refine (if_pos v1).trans ?_
        refine (if_pos v2).trans ?_
        obtain ⟨r, L1, L2, e1, e2, hI⟩ := sim_rate h (xs (nI (5 * k) + (1 : Int32)).toNatClampNeg) (xs (nI (5 * k) + (2 : Int32)).toNatClampNeg)
        rw [e1, obs]
        refine (if_pos v1).trans ?_
        refine (if_pos v2).trans ?_
        rw [e2, obs]
        refine (if_pos rfl).trans ?_
        exact nxt _ _ _ _ hI
      refine (if_neg h21).trans ?_
      by_cases h22 : xs (nI (5 * k)).toNatClampNeg &&& (31 : Int32) = (22 : Int32)
      · refine (if_pos h22).trans ?_
        refine (if_pos v1).trans ?_
        obtain ⟨r, I1, I2, e1, e2, hI⟩ := sim_keep h (xs (nI (5 * k) + (1 : Int32)).toNatClampNeg)
        rw [e1, obs]
        refine (if_pos v1).trans ?_
        rw [e2, obs]
        refine (if_pos rfl).trans ?_
        exact nxt _ _ _ _ hI
      refine (if_neg h22).trans ?_
      by_cases h23 : xs (nI (5 * k)).toNatClampNeg &&& (31 : Int32) = (23 : Int32)
      · refine (if_pos h23).trans ?_
        refine (if_pos v1).trans ?_
        obtain ⟨r, I1, I2, e1, e2, hI⟩ := sim_back h (xs (nI (5 * k) + (1 : Int32)).toNatClampNeg)
        rw [e1, obs]
        refine (if_pos v1).trans ?_
        rw [e2, obs]
        refine (if_pos rfl).trans ?_
        exact nxt _ _ _ _ hI
      refine (if_neg h23).trans ?_
      by_cases h24 : xs (nI (5 * k)).toNatClampNeg &&& (31 : Int32) = (24 : Int32)
      · refine (if_pos h24).trans ?_
        refine (if_pos v1).trans ?_
        obtain ⟨r, e1, e2⟩ := sim_count h (xs (nI (5 * k) + (1 : Int32)).toNatClampNeg)
        rw [e1, obs]
        refine (if_pos v1).trans ?_
        rw [e2, obs]
        refine (if_pos rfl).trans ?_
        exact nxt _ _ _ _ h
      refine (if_neg h24).trans ?_
      by_cases h25 : xs (nI (5 * k)).toNatClampNeg &&& (31 : Int32) = (25 : Int32)
      · refine (if_pos h25).trans ?_
        obtain ⟨r, e1, e2⟩ := sim_trace h
        rw [e1, obs, e2, obs]
        refine (if_pos (cmp_eq0.mpr rfl)).trans ?_
        exact nxt _ _ _ _ h
      refine (if_neg h25).trans ?_
      exact nxt _ _ _ _ h
theorem pure_all : PURE := by
  intro xs nx hnx
  exact l_law xs nx hnx 2000 0 3 9 iM1 lM1 inv_start (by omega) (by omega)
