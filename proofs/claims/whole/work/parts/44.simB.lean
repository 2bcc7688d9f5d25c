/-! tale, first, fewest -/
section SIMB
variable {c d : Nat} {I : Hi} {L : Hl} {q : Ct}
/-- what becomes of a taste told m times more, k times told so far -/
def talef (q : Ct) (t k : Nat) : Nat → Nat
  | 0 => t
  | m + 1 => talef q (qtv q (6 * (k % qS q) + t)) (k + 1) m
theorem talef_lt (hCT : CT I c q) (hS : 0 < qS q) : ∀ (m t k : Nat), t < 6 → talef q t k m < 6
  | 0, t, k, ht => ht
  | m + 1, t, k, ht => by
    have hk : k % qS q < qS q := Nat.mod_lt _ hS
    exact talef_lt hCT hS m _ _ (hCT.tv (by omega)).2.2
theorem l_passedOn (hCT : CT I c q) (hS : 0 < qS q) {x : Nat} (hx : x < 1000) : ∀ (m t k n : Nat), t < 6 → k + m = x → m < n → b_X0_passedOn_23 c I n (nI x) (nI t) (nI k) = some (nI (talef q t k m))
  | 0, t, k, n + 1, ht, hk, hn => by
    rw [b_X0_passedOn_23, if_pos ((nIle (by omega) (by omega)).mpr (by omega)), talef]
  | m + 1, t, k, n + 1, ht, hk, hn => by
    have h4 := hCT.S4
    have hk2 : k % qS q < qS q := Nat.mod_lt _ hS
    rw [b_X0_passedOn_23, if_neg (by rw [nIle (by omega) (by omega)]; omega), hCT.2.2.1.1, if_neg (fun h => by have := (nI_0iff (by omega)).mp h; omega), pk_rem (by omega) hS (by omega), e_changed hCT hk2 ht, obs, nI_1, talef]
    exact l_passedOn hCT hS hx m _ _ n (hCT.tv (by omega)).2.2 (by omega) (by omega)
theorem e_passedOn (hCT : CT I c q) {t m : Nat} (ht : t < 6) (hm : m < 1000) : f_X0_passedOn c I (nI t) (nI m) = some (if qS q = 0 then (if m = 0 then nI t else -9) else nI (talef q t 0 m)) := by
  have h4 := hCT.S4
  rw [f_X0_passedOn, hCT.2.2.1.1]
  by_cases hS : qS q = 0
  · rw [if_pos ((nI_0iff (by omega)).mpr hS), if_pos hS]
    by_cases h0 : m = 0
    · rw [if_pos ((nI_0iff (by omega)).mpr h0), if_pos h0]
    · rw [if_neg (fun h => h0 ((nI_0iff (by omega)).mp h)), if_neg h0]
  · rw [if_neg (fun h => hS ((nI_0iff (by omega)).mp h)), if_neg hS]
    exact l_passedOn hCT (by omega) hm m t 0 2000 ht (by omega) (by omega)
theorem l_taleOf (hCT : CT I c q) {x : Nat} (hx : x < 1000) : ∀ (m t k n : Nat), (0 < qS q ∨ m = 0) → t < 6 → k + m = x → m < n → b_X7_taleOf_5 I n (nI x) (nI t) (nI k) = some (nI (talef q t k m))
  | 0, t, k, n + 1, hS, ht, hk, hn => by
    rw [b_X7_taleOf_5, if_pos ((nIle (by omega) (by omega)).mpr (by omega)), talef]
  | m + 1, t, k, n + 1, hS, ht, hk, hn => by
    have h4 := hCT.S4
    have hS : 0 < qS q := by omega
    have hk2 : k % qS q < qS q := Nat.mod_lt _ hS
    rw [b_X7_taleOf_5, if_neg (by rw [nIle (by omega) (by omega)]; omega), hCT.2.2.1.2.1, if_neg (fun h => by have := (nI_0iff (by omega)).mp h; omega), pk_rem (by omega) hS (by omega), nIl 6, pk_mul, nI_add, if_pos (vinT (by omega) (by omega)), nIn (by omega), (hCT.tv (by omega)).2.1, nI_1, talef]
    exact l_taleOf hCT hx m _ _ n (Or.inl hS) (hCT.tv (by omega)).2.2 (by omega) (by omega)
theorem m_taleOf (hCT : CT I c q) {t m : Nat} (ht : t < 6) (hm : m < 1000) (hS : 0 < qS q ∨ m = 0) : f_X7_taleOf I (nI t) (nI m) = some (nI (talef q t 0 m)) := by
  rw [f_X7_taleOf]
  exact l_taleOf hCT hm m t 0 2000 hS ht (by omega) (by omega)
theorem m_isTold (hCT : CT I c q) {m : Nat} (hm : m < 1000) : f_X7_isTold I (nI m) = some (decide (0 < qS q ∨ m = 0)) := by
  have h4 := hCT.S4
  rw [f_X7_isTold, b_X7_isTold_11, hCT.2.2.1.2.1]
  by_cases h0 : m = 0
  · rw [if_pos ((nI_0iff (by omega)).mpr h0), decide_eq_true (Or.inr h0)]
  · rw [if_neg (fun h => h0 ((nI_0iff (by omega)).mp h))]
    by_cases hS : 0 < qS q
    · rw [if_neg (by rw [show (0 : Int32) = nI 0 from rfl, nIle (by omega) (by omega)]; omega), decide_eq_true (Or.inl hS)]
    · rw [if_pos (by rw [show (0 : Int32) = nI 0 from rfl, nIle (by omega) (by omega)]; omega), decide_eq_false (by omega)]
theorem sim_tale (h : Inv c d I L) (x y : Int32) : ∃ r, f_X6_tale c d I x y = some r ∧ f_X7_tale I x y = some r := by
  obtain ⟨hc, hd, hcd, hL, hT, q, hCT, -⟩ := h
  rw [f_X6_tale, f_X7_tale, e_isTaste, m_isTaste, obs, obs, nIl 99, rng_eq2 (by decide), in_vin 100 (by decide) (by decide), obs]
  by_cases hv : vinb x 6 = true
  · rw [if_pos hv, if_pos hv]
    by_cases hw : vinb y (99 + 1) = true
    · rw [if_pos hw, if_pos hw]
      obtain ⟨t, ht, _, rfl⟩ := vin_of hv
      obtain ⟨m, hm, _, rfl⟩ := vin_of hw
      rw [e_passedOn hCT ht (by omega), obs, m_isTold hCT (by omega), obs]
      by_cases hS : qS q = 0
      · rw [if_pos hS]
        by_cases h0 : m = 0
        · rw [if_pos h0, if_pos (decide_eq_true (Or.inr h0)), m_taleOf hCT ht (by omega) (Or.inr h0), obs, h0]
          exact ⟨_, rfl, rfl⟩
        · rw [if_neg h0, if_neg (by rw [decide_eq_true_eq]; omega)]
          exact ⟨_, rfl, rfl⟩
      · rw [if_neg hS, if_pos (decide_eq_true (Or.inl (by omega))), m_taleOf hCT ht (by omega) (Or.inl (by omega)), obs]
        exact ⟨_, rfl, rfl⟩
    · rw [if_neg hw, if_neg hw]
      exact ⟨_, rfl, rfl⟩
  · rw [if_neg hv, if_neg hv]
    exact ⟨_, rfl, rfl⟩
def firstp (q : Ct) (t m s : Nat) : Bool := decide ((0 < qS q ∨ m = 0) ∧ talef q s 0 m = t)
theorem l_first (hCT : CT I c q) {t m : Nat} (ht : t < 6) (hm : m < 1000) : ∀ (j k n : Nat), k + j = 6 → j < n → b_X6_first_24 c d I n (nI t) (nI m) (nI (bm (firstp q t m) k)) (nI k) = some (nI (bm (firstp q t m) 6))
  | 0, k, n + 1, hk, hn => by
    rw [b_X6_first_24, nIl 6, if_pos ((nIle (by omega) (by omega)).mpr (by omega)), show k = 6 by omega]
  | j + 1, k, n + 1, hk, hn => by
    have ih := l_first hCT ht hm j (k + 1) n (by omega) (by omega)
    rw [b_X6_first_24, nIl 6, if_neg (by rw [nIle (by omega) (by omega)]; omega), e_passedOn hCT (by omega) hm, obs]
    rw [← bm_s (by omega) _ rfl] at ih
    have e : ((if qS q = 0 then (if m = 0 then nI k else -9) else nI (talef q k 0 m)) = nI t) ↔ firstp q t m k = true := by
      unfold firstp
      rw [decide_eq_true_eq]
      by_cases hS : qS q = 0
      · rw [if_pos hS]
        by_cases h0 : m = 0
        · rw [if_pos h0, nIeq (by omega) (by omega)]
          subst h0
          rw [talef]
          constructor
          · intro h; exact ⟨Or.inr rfl, h⟩
          · intro h; exact h.2
        · rw [if_neg h0]
          constructor
          · intro h
            exfalso
            have := congrArg Int32.toInt h
            rw [nI_toInt (by omega)] at this
            have e9 : (-9 : Int32).toInt = -9 := by decide
            omega
          · intro h; omega
      · rw [if_neg hS, nIeq (by have := talef_lt hCT (by omega) m k 0 (by omega); omega) (by omega)]
        constructor
        · intro h; exact ⟨Or.inl (by omega), h⟩
        · intro h; exact h.2
    cases hb : firstp q t m k with
    | true => rw [hb] at ih; rw [if_pos (e.mpr hb), b_X6_first_52, nI_1]; exact ih
    | false =>
      rw [hb] at ih
      rw [if_neg (fun h => by have := e.mp h; rw [hb] at this; cases this), b_X6_first_52, nI_1]
      rw [if_neg (by decide), show (0 : Int32) = nI 0 from rfl, nIor, Nat.or_zero] at ih
      exact ih
theorem l_mfirst (hCT : CT I c q) {t m : Nat} (ht : t < 6) (hm : m < 1000) (hS : 0 < qS q ∨ m = 0) : ∀ (j k n : Nat), k + j = 6 → j < n → b_X7_first_26 I n (nI t) (nI m) (nI (bm (firstp q t m) k)) (nI k) = some (nI (bm (firstp q t m) 6))
  | 0, k, n + 1, hk, hn => by
    rw [b_X7_first_26, nIl 6, if_pos ((nIle (by omega) (by omega)).mpr (by omega)), show k = 6 by omega]
  | j + 1, k, n + 1, hk, hn => by
    have ih := l_mfirst hCT ht hm hS j (k + 1) n (by omega) (by omega)
    have hlt : talef q k 0 m < 6 := by
      rcases hS with hS | hS
      · exact talef_lt hCT hS m k 0 (by omega)
      · subst hS; rw [talef]; omega
    rw [b_X7_first_26, nIl 6, if_neg (by rw [nIle (by omega) (by omega)]; omega), m_isTold hCT hm, obs, if_pos (decide_eq_true hS), m_taleOf hCT (by omega) hm hS, obs]
    rw [← bm_s (by omega) _ rfl] at ih
    have e : nI (talef q k 0 m) = nI t ↔ firstp q t m k = true := by
      unfold firstp
      rw [decide_eq_true_eq, nIeq (by omega) (by omega)]
      exact ⟨fun h => ⟨hS, h⟩, fun h => h.2⟩
    cases hb : firstp q t m k with
    | true => rw [hb] at ih; rw [if_pos (e.mpr hb), b_X7_first_61, nI_1]; exact ih
    | false =>
      rw [hb] at ih
      rw [if_neg (fun h => by have := e.mp h; rw [hb] at this; cases this), b_X7_first_61, nI_1]
      exact ih
theorem bm_false {p : Nat → Bool} : ∀ (n : Nat), (∀ k, k < n → p k = false) → bm p n = 0
  | 0, _ => rfl
  | n + 1, h => by rw [bm, bm_false n (fun k hk => h k (by omega)), h n (by omega), if_neg (by decide)]; rfl
theorem sim_first (h : Inv c d I L) (x y : Int32) : ∃ r, f_X6_first c d I x y = some r ∧ f_X7_first I x y = some r := by
  obtain ⟨hc, hd, hcd, hL, hT, q, hCT, -⟩ := h
  rw [f_X6_first, f_X7_first, e_isTaste, m_isTaste, obs, obs, nIl 99, rng_eq2 (by decide), in_vin 100 (by decide) (by decide), obs]
  by_cases hv : vinb x 6 = true
  · rw [if_pos hv, if_pos hv]
    by_cases hw : vinb y (99 + 1) = true
    · rw [if_pos hw, if_pos hw]
      obtain ⟨t, ht, _, rfl⟩ := vin_of hv
      obtain ⟨m, hm, _, rfl⟩ := vin_of hw
      have e1 := l_first (d := d) hCT ht (show m < 1000 by omega) 6 0 2000 (by omega) (by omega)
      have e1 : b_X6_first_24 c d I 2000 (nI t) (nI m) 0 0 = some (nI (bm (firstp q t m) 6)) := e1
      rw [e1]
      refine ⟨_, rfl, ?_⟩
      by_cases hS : 0 < qS q ∨ m = 0
      · exact l_mfirst hCT ht (by omega) hS 6 0 2000 (by omega) (by omega)
      · rw [b_X7_first_26, if_neg (by decide), m_isTold hCT (by omega), obs, if_neg (by rw [decide_eq_true_eq]; exact hS), bm_false 6 (fun k _ => by unfold firstp; rw [decide_eq_false_iff_not]; exact fun h => hS h.1)]
        rfl
    · rw [if_neg hw, if_neg hw]
      exact ⟨_, rfl, rfl⟩
  · rw [if_neg hv, if_neg hv]
    exact ⟨_, rfl, rfl⟩
theorem low_all : ((List.range 64).all fun a => decide (a = 0) || (decide (f_X6_lowestBit (nI a) = f_X7_lowest (nI a)) && (f_X7_lowest (nI a)).isSome)) = true := by decide +kernel
theorem low_eq {a : Nat} (h : a < 64) (h0 : a ≠ 0) : ∃ r, f_X6_lowestBit (nI a) = some r ∧ f_X7_lowest (nI a) = some r := by
  have h1 := List.all_eq_true.mp low_all a (List.mem_range.mpr h)
  simp only [Bool.or_eq_true, decide_eq_true_eq, Bool.and_eq_true] at h1
  rcases h1 with h1 | ⟨h1, h2⟩
  · exact absurd h1 h0
  · obtain ⟨r, hr⟩ := Option.isSome_iff_exists.mp h2
    exact ⟨r, by rw [h1, hr], hr⟩
theorem l_fewest (hCT : CT I c q) {lf g : Nat} (h1 : I 15 1 = nI lf) (h2 : I 83 1 = nI lf) (hlf : lf < qL q ∨ lf = 0) (hg : g < qG q) {y : Int32} : ∀ (m k n : Nat), k + m = qL q → m < n → ∃ r, b_X6_fewest_40 c d I n (nI g) y (nI k) = some r ∧ b_X7_fewest_34 I n (nI g) y (nI k) = some r
  | 0, k, n + 1, hk, hn => by
    have h5 := hCT.L5
    rw [b_X6_fewest_40, b_X7_fewest_34, hCT.1.1, hCT.1.2.1, if_pos ((nIle (by omega) (by omega)).mpr (by omega)), if_pos ((nIle (by omega) (by omega)).mpr (by omega))]
    exact ⟨_, rfl, rfl⟩
  | m + 1, k, n + 1, hk, hn => by
    have h5 := hCT.L5
    have h6 := hCT.G6
    have hL : 0 < qL q := by omega
    have hm : (lf + k) % qL q < qL q := Nat.mod_lt _ hL
    have e1 : (1 : Int32).toNatClampNeg = 1 := by decide
    have hz : ¬ nI (qL q) = 0 := fun h => by have := (nI_0iff (by omega)).mp h; omega
    have h64 : qlv q ((lf + k) % qL q) &&& qgv q g < 64 := and_lt64 (hCT.lv hm).2.2
    rw [b_X6_fewest_40, b_X7_fewest_34, hCT.1.1, hCT.1.2.1, if_neg (by rw [nIle (by omega) (by omega)]; omega), if_neg (by rw [nIle (by omega) (by omega)]; omega), h1, e_leafBehind hCT (by omega) (by omega), obs, if_neg (show ¬ qL q = 0 by omega), e_goodTastes hCT (by omega) (by omega), obs, gd_eq hm hg, if_pos (show vinb 1 21 = true by decide), if_neg hz, e1, h2, nI_add, pk_rem (by omega) hL (by omega), m_lets hCT hm hg, obs]
    by_cases h0 : qlv q ((lf + k) % qL q) &&& qgv q g = 0
    · rw [if_pos ((nI_0iff (by omega)).mpr h0), if_neg (by unfold lets; rw [decide_eq_true_eq]; exact fun h => h h0), nI_1]
      exact l_fewest hCT h1 h2 hlf hg m (k + 1) n (by omega) (by omega)
    · rw [if_neg (fun h => h0 ((nI_0iff (by omega)).mp h)), if_pos (by unfold lets; rw [decide_eq_true_eq]; exact h0), b_X6_fewest_81, b_X7_fewest_67]
      by_cases hy : y = 0
      · rw [if_pos hy, if_pos hy]
        exact ⟨_, rfl, rfl⟩
      · obtain ⟨r, r1, r2⟩ := low_eq h64 h0
        rw [if_neg hy, if_neg hy, r1, obs, if_pos (vinT (by omega) (by omega)), if_pos (vinT (by omega) (by omega)), nIn (by omega), nIn (by omega), (hCT.lv hm).2.1, (hCT.gv hg).2.1, nIand, r2, obs]
        exact ⟨_, rfl, rfl⟩
theorem sim_fewest (h : Inv c d I L) (x y : Int32) : ∃ r, f_X6_fewest c d I x y = some r ∧ f_X7_fewest I x y = some r := by
  obtain ⟨hc, hd, hcd, hL, hT, q, hCT, ⟨mi, lf, pi, wh, ti, -, ⟨b1, b2, b3⟩, -, hg⟩, -⟩ := h
  have h6 := hCT.G6
  have h5 := hCT.L5
  rw [f_X6_fewest, f_X7_fewest, e_hasGoer hCT, m_isOne hCT, obs, obs, m_isBit, obs, nIl 1, rng_eq2 (by decide)]
  by_cases hv : vinb x (qG q) = true
  · rw [if_pos hv, if_pos hv]
    by_cases hw : vinb y (1 + 1) = true
    · rw [if_pos hw, if_pos hw]
      obtain ⟨k, hk, hk2, rfl⟩ := vin_of hv
      obtain ⟨⟨w1, w2, w3, w4⟩, -⟩ := hg k (by omega)
      have w1 : I 16 k = nI (wh k) := w1
      rw [Nat.zero_add] at w2
      rw [if_pos (vinT (n := 6) (by omega) (by omega)), nIn hk2, w1, nIl 3, nI_add, if_pos (vinT (by omega) (by omega)), nIn (by omega), w2]
      by_cases h3 : nI (wh k) = nI 3
      · rw [if_pos h3, if_pos h3]
        exact ⟨_, rfl, rfl⟩
      · rw [if_neg h3, if_neg h3]
        exact l_fewest hCT b1 b2 b3 hk (qL q) 0 2000 (by omega) (by omega)
    · rw [if_neg hw, if_neg hw]
      exact ⟨_, rfl, rfl⟩
  · rw [if_neg hv, if_neg hv]
    exact ⟨_, rfl, rfl⟩
end SIMB
