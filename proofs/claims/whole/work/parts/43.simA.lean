/-! one call after another: type, clear, count, trace, forget, leaf, goer, sister -/
theorem rng_eq2 {α : Type} {x : Int32} {n : Nat} {a b : α} (hn : n < 2147483647) : (if x < (0 : Int32) then a else (if x ≤ nI n then b else a)) = if vinb x (n + 1) = true then b else a := by
  by_cases h : vinb x (n + 1) = true
  · rw [if_pos h]
    obtain ⟨k, h1, h2, rfl⟩ := vin_of h
    rw [if_neg (nIp h2), if_pos ((nIle h2 (by omega)).mpr (by omega))]
  · rw [if_neg h]
    by_cases h1 : x < 0
    · rw [if_pos h1]
    · rw [if_neg h1]
      obtain ⟨j, hj, rfl⟩ := nI_of h1
      rw [if_neg]
      intro h2
      rw [nIle hj (by omega)] at h2
      exact h (vinT (by omega) (by omega))
theorem rng_eq3 {α : Type} {x : Int32} {n : Nat} {a b : α} (hn : n < 2147483647) : (if x < (0 : Int32) then a else (if x < nI n then b else a)) = if vinb x n = true then b else a := by
  by_cases h : vinb x n = true
  · rw [if_pos h]
    obtain ⟨k, h1, h2, rfl⟩ := vin_of h
    rw [if_neg (nIp h2), if_pos ((nIlt h2 (by omega)).mpr (by omega))]
  · rw [if_neg h]
    by_cases h1 : x < 0
    · rw [if_pos h1]
    · rw [if_neg h1]
      obtain ⟨j, hj, rfl⟩ := nI_of h1
      rw [if_neg]
      intro h2
      rw [nIlt hj (by omega)] at h2
      exact h (vinT (by omega) (by omega))
section SIMA
variable {c d : Nat} {I : Hi} {L : Hl}
theorem sim_type (h : Inv c d I L) (x : Int32) : ∃ r I1 I2, f_X6_type I x = some (r, I1) ∧ f_X7_type I1 x = some (r, I2) ∧ Inv c d I2 L := by
  obtain ⟨hc, hd, hcd, hL, hT, q, hCT, hNW, hHS, hIM, hSN⟩ := h
  have hT0 := hT
  obtain ⟨tl, tx, ⟨t1, t2, t3⟩, ht⟩ := hT
  have hc3 := isC_r hc
  by_cases hv : vinb x 256 = true
  · obtain ⟨k, hk, hk2, rfl⟩ := vin_of hv
    by_cases hf : tl < 160
    · refine ⟨nI (tl + 1), u2 (u2 I 2 tl (nI k)) 1 1 (nI (tl + 1)), u2 (u2 (u2 (u2 I 2 tl (nI k)) 1 1 (nI (tl + 1))) 88 tl (nI k)) 77 19 (nI (tl + 1)), ?_, ?_, hc, hd, hcd, hL, ?_, q, hCT.fr ?_, hNW.fr ?_, hHS.fr ?_, hIM.fr ?_, hSN.fr ?_⟩
      · have e1 : u2 I 2 tl (nI k) 1 1 = nI tl := by rw [u2_r (by decide)]; exact t1
        rw [f_X6_type, nIl 255, rng_eq2 (by decide), if_pos hv, t1, nIl 160, if_pos ((nIlt (by omega) (by omega)).mpr hf), if_pos (vinT hf (by omega)), nIn (by omega), obs, e1, obs, u2_s, nI_1]
      · have e1 : u2 (u2 I 2 tl (nI k)) 1 1 (nI (tl + 1)) 77 19 = nI tl := by rw [u2_r (by decide), u2_r (by decide)]; exact t2
        have e2 : u2 (u2 (u2 I 2 tl (nI k)) 1 1 (nI (tl + 1))) 88 tl (nI k) 77 19 = nI tl := by rw [u2_r (by decide)]; exact e1
        rw [f_X7_type, in_vin 256 (by decide) (by decide), obs, if_pos hv, e1, nIl 160, if_neg (by rw [nIeq (by omega) (by omega)]; omega), if_pos (vinT hf (by omega)), nIn (by omega), obs, e2, obs, u2_s, nI_1]
      · refine ⟨tl + 1, fun j => if j = tl then k else tx j, ⟨?_, ?_, by omega⟩, fun j hj => ?_⟩
        · rw [u2_r (by decide), u2_r (by decide), u2_s]
        · rw [u2_s]
        · have e2 : u2 (u2 (u2 (u2 I 2 tl (nI k)) 1 1 (nI (tl + 1))) 88 tl (nI k)) 77 19 (nI (tl + 1)) 2 j = u2 I 2 tl (nI k) 2 j := by rw [u2_r (by decide), u2_r (by decide), u2_r (by decide)]
          have e3 : u2 (u2 (u2 (u2 I 2 tl (nI k)) 1 1 (nI (tl + 1))) 88 tl (nI k)) 77 19 (nI (tl + 1)) 88 j = u2 (u2 (u2 I 2 tl (nI k)) 1 1 (nI (tl + 1))) 88 tl (nI k) 88 j := by rw [u2_r (by decide)]
          rw [e2, e3]
          by_cases hj2 : j = tl
          · subst hj2
            simp only [u2_s, if_pos]
            exact ⟨trivial, trivial, hk⟩
          · rw [u2_c hj2, u2_c hj2, u2_r (by decide), u2_r (by decide)]
            simp only [if_neg hj2]
            exact ht j (by omega)
      all_goals
        intro a b hk
        try unfold KC at hk
        simp only [u2]
        repeat rw [if_neg (by omega)]
    · refine ⟨-3, I, I, ?_, ?_, hc, hd, hcd, hL, hT0, q, hCT, hNW, hHS, hIM, hSN⟩
      · rw [f_X6_type, nIl 255, rng_eq2 (by decide), if_pos hv, t1, nIl 160, if_neg (by rw [nIlt (by omega) (by omega)]; exact hf)]
      · rw [f_X7_type, in_vin 256 (by decide) (by decide), obs, if_pos hv, t2, nIl 160, if_pos ((nIeq (by omega) (by omega)).mpr (by omega))]
  · refine ⟨-1, I, I, ?_, ?_, hc, hd, hcd, hL, hT0, q, hCT, hNW, hHS, hIM, hSN⟩
    · rw [f_X6_type, nIl 255, rng_eq2 (by decide), if_neg hv]
    · rw [f_X7_type, in_vin 256 (by decide) (by decide), obs, if_neg hv]
theorem sim_clear (h : Inv c d I L) : ∃ r I1 I2, f_X6_clear I = some (r, I1) ∧ f_X7_clear I1 = some (r, I2) ∧ Inv c d I2 L := by
  obtain ⟨hc, hd, hcd, hL, ⟨tl, tx, ⟨t1, t2, t3⟩, ht⟩, q, hCT, hNW, hHS, hIM, hSN⟩ := h
  have hc3 := isC_r hc
  refine ⟨nI tl, u2 I 1 1 0, u2 (u2 I 1 1 0) 77 19 0, ?_, ?_, hc, hd, hcd, hL, ?_, q, hCT.fr ?_, hNW.fr ?_, hHS.fr ?_, hIM.fr ?_, hSN.fr ?_⟩
  · rw [f_X6_clear, obs, t1]
  · rw [f_X7_clear, obs, u2_r (by decide), t2]
  · refine ⟨0, tx, ⟨?_, ?_, by omega⟩, fun j hj => by omega⟩
    · rw [u2_r (by decide), u2_s]; rfl
    · rw [u2_s]; rfl
  all_goals
    intro a b hk
    try unfold KC at hk
    simp only [u2]
    repeat rw [if_neg (by omega)]
theorem sim_forget (h : Inv c d I L) : ∃ r I1 I2, f_X6_forget I = some (r, I1) ∧ f_X7_forget I1 = some (r, I2) ∧ Inv c d I2 L := by
  obtain ⟨hc, hd, hcd, hL, hT, q, hCT, hNW, hHS, hIM, ⟨sm, s1, s2, s3, ⟨g1, g2, g3⟩, hs⟩⟩ := h
  have hc3 := isC_r hc
  refine ⟨nI sm, u2 I 63 3 0, u2 (u2 I 63 3 0) 77 16 0, ?_, ?_, hc, hd, hcd, hL, hT.fr ?_, q, hCT.fr ?_, hNW.fr ?_, hHS.fr ?_, hIM.fr ?_, ?_⟩
  · rw [f_X6_forget, obs, g1]
  · rw [f_X7_forget, obs, u2_r (by decide), g2]
  all_goals first
    | (intro a b hk
       try unfold KC at hk
       simp only [u2]
       repeat rw [if_neg (by omega)]
       done)
    | skip
  refine ⟨0, s1, s2, s3, ⟨?_, ?_, by omega⟩, fun j hj => by omega⟩
  · rw [u2_r (by decide), u2_s]; rfl
  · rw [u2_s]; rfl
theorem sim_trace (h : Inv c d I L) : ∃ r, f_X6_trace L = some r ∧ f_X7_trace L = some r := ⟨L 0 9, rfl, by rw [f_X7_trace, h.2.2.2.1]⟩
theorem sim_count (h : Inv c d I L) (x : Int32) : ∃ r, f_X6_count c d I x = some r ∧ f_X7_count I x = some r := by
  obtain ⟨hc, hd, hcd, hL, ⟨tl, tx, ⟨t1, t2, t3⟩, ht⟩, q, hCT, hNW, hHS, hIM, ⟨sm, s1, s2, s3, ⟨g1, g2, g3⟩, hs⟩⟩ := h
  have e : f_X6_count c d I x = f_X7_count I x := by
    rw [f_X6_count, f_X7_count, hCT.1.1, hCT.1.2.1, hCT.2.1.1, hCT.2.1.2.1, hCT.2.2.1.1, hCT.2.2.1.2.1, hCT.2.2.2.1.1, hCT.2.2.2.1.2.1, hCT.2.2.2.2.1.1, hCT.2.2.2.2.1.2.1, g1, g2, t1, t2]
  rw [e]
  rw [f_X7_count]
  repeat' first | exact ⟨_, rfl, rfl⟩ | split
theorem sim_leaf (h : Inv c d I L) (x y : Int32) : ∃ r, f_X6_leaf c d I x y = some r ∧ f_X7_leaf I x y = some r := by
  obtain ⟨hc, hd, hcd, hL, hT, q, hCT, -⟩ := h
  have h5 := hCT.L5
  rw [f_X6_leaf, f_X7_leaf, e_hasLeaf hCT, m_isTheLeaf hCT, obs, obs]
  by_cases hv : vinb x (qL q) = true
  · rw [if_pos hv, if_pos hv, m_isBit, obs]
    obtain ⟨k, hk, hk2, rfl⟩ := vin_of hv
    have v5 : vinb (nI k) 5 = true := vinT (by omega) (by omega)
    simp only [v5, if_true, eq_self, nIn hk2, (hCT.lv hk).1, (hCT.lv hk).2.1, e_goersLetBy hCT hk, m_letsBy hCT hk, obs]
    by_cases h0 : y = 0
    · subst h0
      rw [if_pos rfl, if_pos (show vinb 0 2 = true by decide), if_pos rfl]
      exact ⟨_, rfl, rfl⟩
    · rw [if_neg h0]
      by_cases h1 : y = 1
      · subst h1
        rw [if_pos rfl, if_pos (show vinb 1 2 = true by decide), if_neg h0]
        exact ⟨_, rfl, rfl⟩
      · rw [if_neg h1, if_neg]
        · exact ⟨_, rfl, rfl⟩
        · intro hw
          obtain ⟨j, hj, hj2, rfl⟩ := vin_of hw
          have : j = 0 ∨ j = 1 := by omega
          rcases this with rfl | rfl
          · exact h0 rfl
          · exact h1 rfl
  · rw [if_neg hv, if_neg hv]
    exact ⟨_, rfl, rfl⟩
theorem sim_goer (h : Inv c d I L) (x y : Int32) : ∃ r, f_X6_goer c d I x y = some r ∧ f_X7_goer I x y = some r := by
  obtain ⟨hc, hd, hcd, hL, hT, q, hCT, ⟨mi, lf, pi, wh, ti, ⟨a1, a2, a3⟩, -, -, hg⟩, -⟩ := h
  have h6 := hCT.G6
  rw [f_X6_goer, f_X7_goer, e_hasGoer hCT, m_isOne hCT, obs, obs]
  by_cases hv : vinb x (qG q) = true
  · rw [if_pos hv, if_pos hv]
    obtain ⟨k, hk, hk2, rfl⟩ := vin_of hv
    obtain ⟨⟨w1, w2, w3, w4⟩, w5, w6, w7, w8⟩ := hg k (by omega)
    have w1 : I 16 k = nI (wh k) := w1
    have w5 : I 18 k = I 83 (0 + 15 + k) := w5
    rw [Nat.zero_add] at w2 w5 w6
    have v6 : vinb (nI k) 6 = true := vinT (by omega) (by omega)
    have v3 : vinb (3 + nI k) 21 = true := by rw [nIl 3, nI_add]; exact vinT (by omega) (by omega)
    have v9 : vinb (9 + nI k) 21 = true := by rw [nIl 9, nI_add]; exact vinT (by omega) (by omega)
    have v15 : vinb (15 + nI k) 21 = true := by rw [nIl 15, nI_add]; exact vinT (by omega) (by omega)
    have n3 : (3 + nI k : Int32).toNatClampNeg = 3 + k := by rw [nIl 3, nI_add]; exact nIn (by omega)
    have n9 : (9 + nI k : Int32).toNatClampNeg = 9 + k := by rw [nIl 9, nI_add]; exact nIn (by omega)
    have n15 : (15 + nI k : Int32).toNatClampNeg = 15 + k := by rw [nIl 15, nI_add]; exact nIn (by omega)
    simp only [v6, v3, v9, v15, n3, n9, n15, if_true, eq_self, nIn hk2, (hCT.gv hk).1, (hCT.gv hk).2.1, e_leavesThatLet hCT hk, m_leavesOf hCT hk, obs, w1, w2, w5, w6]
    have e2 : (if nI (wh k) = 2 then some (I 17 k - I 15 0) else some 0) = some (nI (ti k)) := by
      by_cases hw : wh k = 2
      · rw [if_pos (by rw [hw]; rfl)]
        obtain ⟨-, -, w9⟩ := w7 hw
        have w9 : I 17 k = nI (mi + ti k) := w9
        rw [w9, a1, pk_sub (by omega), show mi + ti k - mi = ti k by omega]
      · rw [if_neg (by rw [nIl 2, nIeq (by omega) (by omega)]; exact hw), w8 hw]
        rfl
    rw [e2]
    repeat' first | exact ⟨_, rfl, rfl⟩ | split
  · rw [if_neg hv, if_neg hv]
    exact ⟨_, rfl, rfl⟩
theorem e_changed {q : Ct} (hCT : CT I c q) {y t : Nat} (hy : y < qS q) (ht : t < 6) : f_X0_changed c I (nI y) (nI t) = some (nI (qtv q (6 * y + t))) := by
  have h4 := hCT.S4
  rw [f_X0_changed, nIl 6, pk_mul, nI_add, if_pos (vinT (by omega) (by omega)), nIn (by omega), show y * 6 + t = 6 * y + t by omega, (hCT.tv (by omega)).1]
theorem sim_sister (h : Inv c d I L) (x y : Int32) : ∃ r, f_X6_sister c d I x y = some r ∧ f_X7_sister I x y = some r := by
  obtain ⟨hc, hd, hcd, hL, hT, q, hCT, -⟩ := h
  have h4 := hCT.S4
  rw [f_X6_sister, f_X7_sister, hCT.2.2.1.1, hCT.2.2.1.2.1, rng_eq (by omega), in_vin (qS q) (pred_toInt (by omega)) (by omega), obs, e_isTaste, m_isTaste, obs, obs]
  by_cases hv : vinb x (qS q) = true
  · rw [if_pos hv, if_pos hv]
    by_cases hw : vinb y 6 = true
    · rw [if_pos hw, if_pos hw]
      obtain ⟨k, hk, hk2, rfl⟩ := vin_of hv
      obtain ⟨j, hj, hj2, rfl⟩ := vin_of hw
      rw [e_changed hCT hk hj, obs, nIl 6, pk_mul, nI_add, if_pos (vinT (by omega) (by omega)), nIn (by omega), (hCT.tv (by omega)).2.1]
      exact ⟨_, rfl, rfl⟩
    · rw [if_neg hw, if_neg hw]
      exact ⟨_, rfl, rfl⟩
  · rw [if_neg hv, if_neg hv]
    exact ⟨_, rfl, rfl⟩
end SIMA
