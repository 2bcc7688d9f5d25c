/-! rate, now (with cover) -/
section SIMC
variable {c d : Nat} {I : Hi} {L : Hl} {q : Ct}
theorem c_goer (hCT : CT I c q) {g : Nat} (hg : g < qG q) (L : Hl) : f_X6_rateAsGoer c d I L (nI g) = some (nI (pc (qgv q g)), u2 L 0 9 (L 0 9 + 1)) := by
  have h6 := hCT.G6
  rw [f_X6_rateAsGoer, obs, if_pos (vinT (by omega) (by omega)), nIn (by omega), (hCT.gv hg).1, bc_eq (hCT.gv hg).2.2, obs]
theorem d_goer (hCT : CT I c q) {g : Nat} (hg : g < qG q) (L : Hl) : f_X7_asGoer I L (nI g) = some (nI (pc (qgv q g)), u2 L 77 17 (L 77 17 + 1)) := by
  have h6 := hCT.G6
  rw [f_X7_asGoer, obs, if_pos (vinT (by omega) (by omega)), nIn (by omega), (hCT.gv hg).2.1, mb_eq (hCT.gv hg).2.2, obs]
theorem c_gent (hCT : CT I c q) {g : Nat} (hg : g < qG q) (L : Hl) : f_X6_rateAsGent c d I L (nI g) = some (nI (pc (qgv q g)) + I 18 g, u2 (u2 L 0 9 (L 0 9 + 10)) 0 9 (L 0 9 + 10 + 1)) := by
  have h6 := hCT.G6
  rw [f_X6_rateAsGent, obs, c_goer hCT hg, obs, if_pos (vinT (by omega) (by omega)), nIn (by omega), u2_s]
theorem d_gent (hCT : CT I c q) {g : Nat} (hg : g < qG q) (L : Hl) : f_X7_asGent I L (nI g) = some (nI (pc (qgv q g)) + I 83 (15 + g), u2 (u2 L 77 17 (L 77 17 + 10)) 77 17 (L 77 17 + 10 + 1)) := by
  have h6 := hCT.G6
  rw [f_X7_asGent, obs, d_goer hCT hg, obs, nIl 15, nI_add, if_pos (vinT (by omega) (by omega)), nIn (by omega), u2_s]
theorem bmL_lt (hCT : CT I c q) (p : Nat → Bool) : bm p (qL q) < 64 := by
  have h5 := hCT.L5
  have := bm_lt p (qL q)
  have h2 : 2 ^ qL q ≤ 2 ^ 5 := Nat.pow_le_pow_right (by decide) h5
  omega
theorem bmG_lt (hCT : CT I c q) (p : Nat → Bool) : bm p (qG q) < 64 := by
  have h5 := hCT.G6
  have := bm_lt p (qG q)
  have h2 : 2 ^ qG q ≤ 2 ^ 6 := Nat.pow_le_pow_right (by decide) h5
  omega
theorem c_doct (hCT : CT I c q) {g : Nat} (hg : g < qG q) (L : Hl) : f_X6_rateAsDoctor c d I L (nI g) = some (nI (pc (qgv q g)) - nI (pc (bm (fun l => lets q l g) (qL q))), u2 (u2 L 0 9 (L 0 9 + 100)) 0 9 (L 0 9 + 100 + 1)) := by
  rw [f_X6_rateAsDoctor, obs, c_goer hCT hg, obs, e_leavesThatLet hCT hg, obs, bc_eq (bmL_lt hCT _), obs, u2_s]
theorem d_doct (hCT : CT I c q) {g : Nat} (hg : g < qG q) (L : Hl) : f_X7_asDoctor I L (nI g) = some (nI (pc (qgv q g)) - nI (pc (bm (fun l => lets q l g) (qL q))), u2 (u2 L 77 17 (L 77 17 + 100)) 77 17 (L 77 17 + 100 + 1)) := by
  rw [f_X7_asDoctor, obs, d_goer hCT hg, obs, m_leavesOf hCT hg, obs, mb_eq (bmL_lt hCT _), obs, u2_s]
theorem sim_rate (h : Inv c d I L) (x y : Int32) : ∃ r L1 L2, f_X6_rate c d I L x y = some (r, L1) ∧ f_X7_rate I L1 x y = some (r, L2) ∧ Inv c d I L2 := by
  obtain ⟨hc, hd, hcd, hL, hT, q, hCT, hNW, hR⟩ := h
  have hNW0 := hNW
  obtain ⟨mi, lf, pi, wh, ti, -, -, ⟨p1, p2, p3⟩, hg⟩ := hNW
  have h6 := hCT.G6
  have done : ∀ {r r' : Int32} {L1 L2 : Hl}, f_X6_rate c d I L x y = some (r, L1) → f_X7_rate I L1 x y = some (r', L2) → r = r' → L2 0 9 = L2 77 17 → ∃ r L1 L2, f_X6_rate c d I L x y = some (r, L1) ∧ f_X7_rate I L1 x y = some (r, L2) ∧ Inv c d I L2 := by
    intro r r' L1 L2 h1 h2 e h3
    subst e
    exact ⟨r, L1, L2, h1, h2, hc, hd, hcd, h3, hT, q, hCT, hNW0, hR⟩
  by_cases hv : vinb y (qG q) = true
  · obtain ⟨g, hg1, hg2, rfl⟩ := vin_of hv
    obtain ⟨-, w5, -⟩ := hg g (by omega)
    have w5 : I 18 g = I 83 (15 + g) := by rw [Nat.zero_add] at w5; exact w5
    have c0 : ∀ L', f_X6_rate c d I L' x (nI g) = _ := fun L' => by rw [f_X6_rate, e_hasGoer hCT, obs, if_pos hv]
    have m0 : ∀ L', f_X7_rate I L' x (nI g) = _ := fun L' => by rw [f_X7_rate, m_isOne hCT, obs, if_pos hv]
    by_cases k0 : x = 0
    · refine done (by rw [c0, if_pos k0, c_goer hCT hg1, obs]) (by rw [m0, if_pos k0, d_goer hCT hg1, obs]) rfl ?_
      simp [u2, hL]
    by_cases k1 : x = 1
    · refine done (by rw [c0, if_neg k0, if_pos k1, c_gent hCT hg1, obs]) (by rw [m0, if_neg k0, if_pos k1, d_gent hCT hg1, obs]) (by rw [w5]) ?_
      simp [u2, hL]
    by_cases k2 : x = 2
    · refine done (by rw [c0, if_neg k0, if_neg k1, if_pos k2, c_doct hCT hg1, obs]) (by rw [m0, if_neg k0, if_neg k1, if_pos k2, d_doct hCT hg1, obs]) rfl ?_
      simp [u2, hL]
    by_cases k3 : x = 3
    · refine done (by rw [c0, if_neg k0, if_neg k1, if_neg k2, if_pos k3, f_X6_rateAsSamples, obs, c_gent hCT hg1, obs, obs]) (by rw [m0, if_neg k0, if_neg k1, if_neg k2, if_pos k3, obs, d_gent hCT hg1, obs]) (by rw [w5]) ?_
      simp [u2, hL]
    by_cases k4 : x = 4
    · refine done (by rw [c0, if_neg k0, if_neg k1, if_neg k2, if_neg k3, if_pos k4, f_X6_rateAsWife, obs, c_doct hCT hg1, obs, obs]) (by rw [m0, if_neg k0, if_neg k1, if_neg k2, if_neg k3, if_pos k4, obs, d_doct hCT hg1, obs]) rfl ?_
      simp [u2, hL]
    by_cases k5 : x = 5
    · have e2 : (2 : Int32).toNatClampNeg = 2 := by decide
      refine done (by rw [c0, if_neg k0, if_neg k1, if_neg k2, if_neg k3, if_neg k4, if_pos k5, f_X6_rateAsTall, obs, c_goer hCT hg1, obs, obs]) (by rw [m0, if_neg k0, if_neg k1, if_neg k2, if_neg k3, if_neg k4, if_pos k5, obs, d_goer hCT hg1, obs, if_pos (show vinb 2 21 = true by decide), e2]) (by rw [p1, show I 83 2 = nI pi from p2]) ?_
      simp [u2, hL]
    exact done (by rw [c0, if_neg k0, if_neg k1, if_neg k2, if_neg k3, if_neg k4, if_neg k5]) (by rw [m0, if_neg k0, if_neg k1, if_neg k2, if_neg k3, if_neg k4, if_neg k5]) rfl hL
  · exact done (by rw [f_X6_rate, e_hasGoer hCT, obs, if_neg hv]) (by rw [f_X7_rate, m_isOne hCT, obs, if_neg hv]) rfl hL
/-! who is where -/
def whp (wh : Nat → Nat) (w g : Nat) : Bool := decide (wh g = w)
theorem l_whoAre {n w : Nat} {wh : Nat → Nat} (hw : w < 4) (h : ∀ g, g < 6 → I (n + 1) g = nI (wh g) ∧ wh g ≤ 3) : ∀ (m k f : Nat), k + m = 6 → m < f → b_X3_whoAre_4 n I f (nI w) (nI (bm (whp wh w) k)) (nI k) = some (nI (bm (whp wh w) 6))
  | 0, k, f + 1, hk, hf => by
    rw [b_X3_whoAre_4, nIl 6, if_pos ((nIle (by omega) (by omega)).mpr (by omega)), show k = 6 by omega]
  | m + 1, k, f + 1, hk, hf => by
    have ih := l_whoAre hw h m (k + 1) f (by omega) (by omega)
    have h3 := (h k (by omega)).2
    rw [b_X3_whoAre_4, nIl 6, if_neg (by rw [nIle (by omega) (by omega)]; omega), if_pos (vinT (by omega) (by omega)), nIn (by omega), (h k (by omega)).1]
    rw [← bm_s (by omega) _ rfl] at ih
    cases hb : whp wh w k with
    | true =>
      rw [hb] at ih
      have : wh k = w := by unfold whp at hb; exact of_decide_eq_true hb
      rw [if_pos (by rw [this]), b_X3_whoAre_26, nI_1]; exact ih
    | false =>
      rw [hb] at ih
      have : wh k ≠ w := by unfold whp at hb; exact of_decide_eq_false hb
      rw [if_neg (by rw [nIeq (by omega) (by omega)]; exact this), b_X3_whoAre_26, nI_1]
      rw [if_neg (by decide), show (0 : Int32) = nI 0 from rfl, nIor, Nat.or_zero] at ih
      exact ih
theorem e_whoAre {n w : Nat} {wh : Nat → Nat} (hw : w < 4) (h : ∀ g, g < 6 → I (n + 1) g = nI (wh g) ∧ wh g ≤ 3) : f_X3_whoAre n I (nI w) = some (nI (bm (whp wh w) 6)) := by
  rw [f_X3_whoAre]
  exact l_whoAre hw h 6 0 2000 (by omega) (by omega)
theorem l_those {G w : Nat} {wh : Nat → Nat} (h77 : I 77 2 = nI G) (hG : G ≤ 6) (hw : w < 4) (h : ∀ g, g < 6 → I 83 (3 + g) = nI (wh g) ∧ wh g ≤ 3) : ∀ (m k f : Nat), k + m = G → m < f → b_X7_those_4 I f (nI w) (nI (bm (whp wh w) k)) (nI k) = some (nI (bm (whp wh w) G))
  | 0, k, f + 1, hk, hf => by
    rw [b_X7_those_4, h77, if_pos ((nIle (by omega) (by omega)).mpr (by omega)), show k = G by omega]
  | m + 1, k, f + 1, hk, hf => by
    have ih := l_those h77 hG hw h m (k + 1) f (by omega) (by omega)
    have h3 := (h k (by omega)).2
    rw [b_X7_those_4, h77, if_neg (by rw [nIle (by omega) (by omega)]; omega), nIl 3, nI_add, if_pos (vinT (by omega) (by omega)), nIn (by omega), (h k (by omega)).1]
    rw [← bm_s (by omega) _ rfl] at ih
    cases hb : whp wh w k with
    | true =>
      rw [hb] at ih
      have : wh k = w := by unfold whp at hb; exact of_decide_eq_true hb
      rw [if_pos (by rw [this]), b_X7_those_32, nI_1]; exact ih
    | false =>
      rw [hb] at ih
      have : wh k ≠ w := by unfold whp at hb; exact of_decide_eq_false hb
      rw [if_neg (by rw [nIeq (by omega) (by omega)]; exact this), b_X7_those_32, nI_1]
      exact ih
theorem m_those {G w : Nat} {wh : Nat → Nat} (h77 : I 77 2 = nI G) (hG : G ≤ 6) (hw : w < 4) (h : ∀ g, g < 6 → I 83 (3 + g) = nI (wh g) ∧ wh g ≤ 3) : f_X7_those I (nI w) = some (nI (bm (whp wh w) G)) := by
  rw [f_X7_those]
  exact l_those h77 hG hw h G 0 2000 (by omega) (by omega)
theorem bm_ext {p : Nat → Bool} {a : Nat} : ∀ (m : Nat), (∀ k, a ≤ k → k < a + m → p k = false) → bm p (a + m) = bm p a
  | 0, _ => rfl
  | m + 1, h => by
    rw [show a + (m + 1) = (a + m) + 1 by omega, bm, h (a + m) (by omega) (by omega), if_neg (by decide), Nat.or_zero]
    exact bm_ext m (fun k h1 h2 => h k h1 (by omega))
/-- where the class and the model look, the same -/
theorem who_eq {G : Nat} {wh : Nat → Nat} {w : Nat} (hG : G ≤ 6) (hw : w ≠ 0) (h : ∀ g, g < 6 → G ≤ g → wh g = 0) : bm (whp wh w) 6 = bm (whp wh w) G := by
  have := bm_ext (p := whp wh w) (a := G) (6 - G) (fun k h1 h2 => by
    unfold whp
    rw [h k (by omega) h1]
    exact decide_eq_false (fun e => hw e.symm))
  rw [show G + (6 - G) = 6 by omega] at this
  exact this
/-! cover -/
def covers (q : Ct) (s : Nat) : Bool := (List.range (qG q)).all fun g => decide (bm (fun l => lets q l g) (qL q) &&& s ≠ 0)
theorem l_coversAll (hCT : CT I c q) {s : Nat} (hs : s < 64) : ∀ (m k n : Nat), k + m = qG q → m < n → b_X0_coversAll_2 c I n (nI s) (nI k) = some ((List.range' k m).all fun g => decide (bm (fun l => lets q l g) (qL q) &&& s ≠ 0))
  | 0, k, n + 1, hk, hn => by
    have h6 := hCT.G6
    rw [b_X0_coversAll_2, hCT.2.1.1, if_pos ((nIle (by omega) (by omega)).mpr (by omega))]
    rfl
  | m + 1, k, n + 1, hk, hn => by
    have h6 := hCT.G6
    have h64 : bm (fun l => lets q l k) (qL q) &&& s < 64 := and_lt64 (bmL_lt hCT _)
    rw [b_X0_coversAll_2, hCT.2.1.1, if_neg (by rw [nIle (by omega) (by omega)]; omega), e_leavesThatLet hCT (by omega), obs, nIand, List.range'_succ, List.all_cons]
    by_cases h0 : bm (fun l => lets q l k) (qL q) &&& s = 0
    · rw [if_pos ((nI_0iff (by omega)).mpr h0), decide_eq_false (fun h => h h0), Bool.false_and]
    · rw [if_neg (fun h => h0 ((nI_0iff (by omega)).mp h)), decide_eq_true h0, Bool.true_and, nI_1]
      exact l_coversAll hCT hs m (k + 1) n (by omega) (by omega)
theorem e_coversAll (hCT : CT I c q) {s : Nat} (hs : s < 64) : f_X0_coversAll c I (nI s) = some (covers q s) := by
  have h6 := hCT.G6
  rw [f_X0_coversAll, covers, List.range_eq_range']
  exact l_coversAll hCT hs (qG q) 0 2000 (by omega) (by omega)
/-- whom the first k leaves of a set let by -/
def allm (q : Ct) (s : Nat) : Nat → Nat
  | 0 => 0
  | k + 1 => allm q s k ||| (if s.testBit k = true then bm (lets q k) (qG q) else 0)
theorem allm_test (q : Ct) (s : Nat) : ∀ (k g : Nat), (allm q s k).testBit g = true ↔ (g < qG q ∧ ∃ l, l < k ∧ s.testBit l = true ∧ lets q l g = true)
  | 0, g => by
    rw [allm, Nat.zero_testBit]
    constructor
    · intro h; cases h
    · rintro ⟨_, l, hl, _⟩; omega
  | k + 1, g => by
    rw [allm, Nat.testBit_or, Bool.or_eq_true, allm_test q s k g]
    constructor
    · rintro (⟨h1, l, h2, h3, h4⟩ | h)
      · exact ⟨h1, l, by omega, h3, h4⟩
      · by_cases hs : s.testBit k = true
        · rw [if_pos hs, bm_test, Bool.and_eq_true, decide_eq_true_eq] at h
          exact ⟨h.1, k, by omega, hs, h.2⟩
        · rw [if_neg hs, Nat.zero_testBit] at h; cases h
    · rintro ⟨h1, l, h2, h3, h4⟩
      by_cases hl : l = k
      · subst hl
        right
        rw [if_pos h3, bm_test, Bool.and_eq_true, decide_eq_true_eq]
        exact ⟨h1, h4⟩
      · exact Or.inl ⟨h1, l, by omega, h3, h4⟩
theorem allm_lt (hCT : CT I c q) (s : Nat) : ∀ k, allm q s k < 2 ^ qG q
  | 0 => Nat.two_pow_pos _
  | k + 1 => by
    refine Nat.or_lt_two_pow (allm_lt hCT s k) ?_
    split
    · exact bm_lt _ _
    · exact Nat.two_pow_pos _
theorem cov_iff (hCT : CT I c q) (s : Nat) : allm q s (qL q) = 2 ^ qG q - 1 ↔ covers q s = true := by
  unfold covers
  rw [List.all_eq_true]
  constructor
  · intro h g hg
    have hg := List.mem_range.mp hg
    have h1 : (allm q s (qL q)).testBit g = true := by
      rw [h, Nat.testBit_two_pow_sub_one]
      exact decide_eq_true hg
    obtain ⟨_, l, h2, h3, h4⟩ := (allm_test q s (qL q) g).mp h1
    apply decide_eq_true
    intro h0
    have h5 := congrArg (fun n => n.testBit l) h0
    simp only [Nat.testBit_and, Nat.zero_testBit, bm_test, h2, h3, h4, decide_true, Bool.and_true] at h5
    cases h5
  · intro h
    apply Nat.eq_of_testBit_eq
    intro g
    rw [Nat.testBit_two_pow_sub_one]
    by_cases hg : g < qG q
    · rw [decide_eq_true hg]
      have h1 := of_decide_eq_true (h g (List.mem_range.mpr hg))
      apply (allm_test q s (qL q) g).mpr
      refine ⟨hg, ?_⟩
      obtain ⟨l, hl⟩ := Nat.exists_testBit_of_ne_zero h1
      rw [Nat.testBit_and, bm_test, Bool.and_eq_true, Bool.and_eq_true, decide_eq_true_eq] at hl
      exact ⟨l, hl.1.1, hl.2, hl.1.2⟩
    · rw [decide_eq_false hg]
      cases hb : (allm q s (qL q)).testBit g with
      | false => rfl
      | true => exact absurd ((allm_test q s (qL q) g).mp hb).1 hg
end SIMC
