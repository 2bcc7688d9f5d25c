/-! sees, had, ask -/
section SIME
variable {c d : Nat} {I : Hi} {L : Hl} {q : Ct}
theorem sim_sees (h : Inv c d I L) (x y z : Int32) : ∃ r I1 I2, f_X6_sees c d I x y z = some (r, I1) ∧ f_X7_sees I1 x y z = some (r, I2) ∧ Inv c d I2 L := by
  have h0 := h
  obtain ⟨hc, hd, hcd, hL, hT, q, hCT, hNW, hHS, hIM, ⟨sm, s1, s2, s3, ⟨g1, g2, g3⟩, hs⟩⟩ := h
  have hc3 := isC_r hc
  have h5 := hCT.L5
  rw [f_X6_sees, e_isTaste, obs, e_hasLeaf hCT, obs, nIl 1, rng_eq2 (by decide), g1, nIl 6]
  by_cases hx : vinb x 6 = true
  · rw [if_pos hx]
    by_cases hy : vinb y (qL q) = true
    · rw [if_pos hy]
      by_cases hz : vinb z (1 + 1) = true
      · rw [if_pos hz]
        by_cases hf : sm < 6
        · obtain ⟨t, ht, _, rfl⟩ := vin_of hx
          obtain ⟨l, hl, _, rfl⟩ := vin_of hy
          obtain ⟨b, hb, _, rfl⟩ := vin_of hz
          refine ⟨nI (sm + 1), u2 (u2 (u2 (u2 I 64 sm (nI t)) 65 sm (nI l)) 66 sm (nI b)) 63 3 (nI (sm + 1)), u2 (u2 (u2 (u2 (u2 (u2 (u2 (u2 I 64 sm (nI t)) 65 sm (nI l)) 66 sm (nI b)) 63 3 (nI (sm + 1))) 87 (3 * sm) (nI t)) 87 (3 * sm + 1) (nI l)) 87 (3 * sm + 2) (nI b)) 77 16 (nI (sm + 1)), ?_, ?_, hc, hd, hcd, hL, hT.fr ?_, q, hCT.fr ?_, hNW.fr ?_, hHS.fr ?_, hIM.fr ?_, ?_⟩
          · have e1 : u2 I 64 sm (nI t) 63 3 = nI sm := by rw [u2_r (by decide)]; exact g1
            have e2 : u2 (u2 I 64 sm (nI t)) 65 sm (nI l) 63 3 = nI sm := by rw [u2_r (by decide)]; exact e1
            have e3 : u2 (u2 (u2 I 64 sm (nI t)) 65 sm (nI l)) 66 sm (nI b) 63 3 = nI sm := by rw [u2_r (by decide)]; exact e2
            rw [if_pos ((nIlt (by omega) (by omega)).mpr hf), f_X4_add, g1, if_pos (vinT hf (by omega)), nIn (by omega), obs, e1, if_pos (vinT hf (by omega)), nIn (by omega), obs, e2, if_pos (vinT hf (by omega)), nIn (by omega), obs, e3, nI_1, obs, obs, u2_s]
          · generalize hJ : u2 (u2 (u2 (u2 I 64 sm (nI t)) 65 sm (nI l)) 66 sm (nI b)) 63 3 (nI (sm + 1)) = J
            have j0 : J 77 0 = nI (qL q) := by rw [← hJ]; simp only [u2_r (show (77 : Nat) ≠ 63 by decide), u2_r (show (77 : Nat) ≠ 64 by decide), u2_r (show (77 : Nat) ≠ 65 by decide), u2_r (show (77 : Nat) ≠ 66 by decide)]; exact hCT.1.2.1
            have j16 : J 77 16 = nI sm := by rw [← hJ]; simp only [u2_r (show (77 : Nat) ≠ 63 by decide), u2_r (show (77 : Nat) ≠ 64 by decide), u2_r (show (77 : Nat) ≠ 65 by decide), u2_r (show (77 : Nat) ≠ 66 by decide)]; exact g2
            have e1 : u2 J 87 (3 * sm) (nI t) 77 16 = nI sm := by rw [u2_r (by decide)]; exact j16
            have e2 : u2 (u2 J 87 (3 * sm) (nI t)) 87 (3 * sm + 1) (nI l) 77 16 = nI sm := by rw [u2_r (by decide)]; exact e1
            have e3 : u2 (u2 (u2 J 87 (3 * sm) (nI t)) 87 (3 * sm + 1) (nI l)) 87 (3 * sm + 2) (nI b) 77 16 = nI sm := by rw [u2_r (by decide)]; exact e2
            rw [f_X7_sees, m_isTaste, obs, if_pos hx, f_X7_isTheLeaf, j0, in_vin (qL q) (pred_toInt (by omega)) (by omega), obs, obs, if_pos hy, m_isBit, obs, if_pos hz, j16, nIl 6, if_neg (by rw [nIeq (by omega) (by omega)]; omega), nIl 3, pk_mul, if_pos (vinT (by omega) (by omega)), nIn (by omega), obs, e1, pk_mul, nI_1, if_pos (vinT (by omega) (by omega)), nIn (by omega), obs, e2, pk_mul, nIl 2, nI_add, if_pos (vinT (by omega) (by omega)), nIn (by omega), obs, e3, nI_1, obs, u2_s]
          all_goals first
            | (intro a b hk
               try unfold KC at hk
               simp only [u2]
               repeat rw [if_neg (by omega)]
               done)
            | skip
          refine ⟨sm + 1, fun i => if i = sm then t else s1 i, fun i => if i = sm then l else s2 i, fun i => if i = sm then b else s3 i, ⟨?_, ?_, by omega⟩, fun i hi => ?_⟩
          · rw [u2_r (by decide), u2_r (by decide), u2_r (by decide), u2_r (by decide), u2_s]
          · rw [u2_s]
          · by_cases hi2 : i = sm
            · subst hi2
              simp only [u2]
              simp
              exact ⟨ht, hl, hb⟩
            · simp only [if_neg hi2]
              have k : ∀ e f, ((64 ≤ e ∧ e ≤ 66 ∧ f = i) ∨ (e = 87 ∧ (f = 3 * i ∨ f = 3 * i + 1 ∨ f = 3 * i + 2))) → u2 (u2 (u2 (u2 (u2 (u2 (u2 (u2 I 64 sm (nI t)) 65 sm (nI l)) 66 sm (nI b)) 63 3 (nI (sm + 1))) 87 (3 * sm) (nI t)) 87 (3 * sm + 1) (nI l)) 87 (3 * sm + 2) (nI b)) 77 16 (nI (sm + 1)) e f = I e f := by
                intro e f hk
                simp only [u2]
                repeat rw [if_neg (by omega)]
              rw [k 64 i (by omega), k 65 i (by omega), k 66 i (by omega), k 87 (3 * i) (by omega), k 87 (3 * i + 1) (by omega), k 87 (3 * i + 2) (by omega)]
              exact hs i (by omega)
        · refine ⟨-3, I, I, by rw [if_neg (by rw [nIlt (by omega) (by omega)]; exact hf)], ?_, h0⟩
          rw [f_X7_sees, m_isTaste, obs, if_pos hx, m_isTheLeaf hCT, obs, if_pos hy, m_isBit, obs, if_pos hz, g2, nIl 6, if_pos ((nIeq (by omega) (by omega)).mpr (by omega))]
      · refine ⟨-1, I, I, by rw [if_neg hz]; rfl, ?_, h0⟩
        rw [f_X7_sees, m_isTaste, obs, if_pos hx, m_isTheLeaf hCT, obs, if_pos hy, m_isBit, obs, if_neg hz]
    · refine ⟨-1, I, I, by rw [if_neg hy]; rfl, ?_, h0⟩
      rw [f_X7_sees, m_isTaste, obs, if_pos hx, m_isTheLeaf hCT, obs, if_neg hy]
  · refine ⟨-1, I, I, by rw [if_neg hx]; rfl, ?_, h0⟩
    rw [f_X7_sees, m_isTaste, obs, if_neg hx]
/-! sets that he can have -/
def okp (q : Ct) (s1 s2 s3 : Nat → Nat) (s i : Nat) : Bool := (s.testBit (s1 i) && (qlv q (s2 i)).testBit (s1 i)) == decide (s3 i = 1)
def alw (q : Ct) (s1 s2 s3 : Nat → Nat) (s : Nat) : Nat → Nat → Bool
  | 0, _ => true
  | m + 1, i => okp q s1 s2 s3 s i && alw q s1 s2 s3 s m (i + 1)
theorem e_counts (hCT : CT I c q) {t l : Nat} (ht : t < 6) (hl : l < qL q) : f_X0_counts c I (nI t) (nI l) = some ((qlv q l).testBit t) := by
  have h5 := hCT.L5
  rw [f_X0_counts, e_hasLeaf hCT, obs, if_pos (vinT hl (by omega)), if_pos (vinT (by omega) (by omega)), nIn (by omega), (hCT.lv hl).1, has_eq (by have := (hCT.lv hl).2.2; omega) (by omega), obs, b_eta]
theorem bI_eq {a b : Bool} : bI a = bI b ↔ a = b := by cases a <;> cases b <;> simp [bI]
theorem l_allows (hCT : CT I c q) {sm : Nat} {s1 s2 s3 : Nat → Nat} (hS : SnI I (qL q) sm s1 s2 s3) {s : Nat} (hs : s < 64) : ∀ (m i n : Nat), i + m = sm → m < n → b_X4_allows_2 c I n (nI s) (nI i) = some (alw q s1 s2 s3 s m i)
  | 0, i, n + 1, hi, hn => by
    have := hS.1.2.2
    rw [b_X4_allows_2, hS.1.1, if_pos ((nIle (by omega) (by omega)).mpr (by omega)), alw]
  | m + 1, i, n + 1, hi, hn => by
    have h6 := hS.1.2.2
    obtain ⟨⟨a1, a2, a3⟩, ⟨b1, b2, b3⟩, c1, c2, c3⟩ := hS.2 i (by omega)
    have ih := l_allows hCT hS hs m (i + 1) n (by omega) (by omega)
    have v6 : vinb (nI i) 6 = true := vinT (by omega) (by omega)
    have key : ∀ b : Bool, b_X4_allows_47 c I (b_X4_allows_2 c I n) (nI s) (nI i) b = some ((b == decide (s3 i = 1)) && alw q s1 s2 s3 s m (i + 1)) := by
      intro b
      rw [b_X4_allows_47, if_pos v6, nIn (by omega), c1]
      by_cases h1 : s3 i = 1
      · rw [if_pos (by rw [h1]; rfl), b_X4_allows_66, decide_eq_true h1]
        cases b with
        | true => rw [if_pos rfl, nI_1, ih]; rfl
        | false => rw [if_neg (by decide)]; rfl
      · rw [if_neg (by rw [nIl 1, nIeq (by omega) (by omega)]; exact h1), b_X4_allows_66, decide_eq_false h1]
        cases b with
        | true => rw [if_neg (by decide)]; rfl
        | false => rw [if_pos rfl, nI_1, ih]; rfl
    rw [b_X4_allows_2, hS.1.1, if_neg (by rw [nIle (by omega) (by omega)]; omega), if_pos v6, nIn (by omega), a1, has_eq (by omega) (by omega), obs, b1, e_counts hCT a3 b3, alw, okp]
    cases hb : s.testBit (s1 i) with
    | true =>
      rw [if_pos rfl, if_pos v6, if_pos v6, obs]
      cases hb2 : (qlv q (s2 i)).testBit (s1 i) with
      | true => rw [if_pos rfl, key]; rfl
      | false => rw [if_neg (by decide), b_X4_allows_46, key]; rfl
    | false => rw [if_neg (by decide), b_X4_allows_46, key]; rfl
theorem e_allows (hCT : CT I c q) {sm : Nat} {s1 s2 s3 : Nat → Nat} (hS : SnI I (qL q) sm s1 s2 s3) {s : Nat} (hs : s < 64) : f_X4_allows c I (nI s) = some (alw q s1 s2 s3 s sm 0) := by
  have h6 := hS.1.2.2
  rw [f_X4_allows]
  exact l_allows hCT hS hs sm 0 2000 (by omega) (by omega)
theorem l_canHave (hCT : CT I c q) {sm : Nat} {s1 s2 s3 : Nat → Nat} (hS : SnI I (qL q) sm s1 s2 s3) {s : Nat} (hs : s < 64) : ∀ (m i n : Nat) (b : Bool), i + m = sm → m < n → b_X7_canHave_4 I n (nI s) b (nI (3 * i)) = some (b && alw q s1 s2 s3 s m i)
  | 0, i, n + 1, b, hi, hn => by
    have := hS.1.2.2
    rw [b_X7_canHave_4, hS.1.2.1, nIl 3, pk_mul, if_pos ((nIle (by omega) (by omega)).mpr (by omega)), alw, Bool.and_true]
  | m + 1, i, n + 1, b, hi, hn => by
    have h6 := hS.1.2.2
    have h5 := hCT.L5
    obtain ⟨⟨a1, a2, a3⟩, ⟨b1, b2, b3⟩, c1, c2, c3⟩ := hS.2 i (by omega)
    have ih := fun b => l_canHave hCT hS hs m (i + 1) n b (by omega) (by omega)
    have e3 : nI (3 * i) + 3 = nI (3 * (i + 1)) := by rw [nIl 3, nI_add]; rfl
    rw [b_X7_canHave_4, hS.1.2.1, nIl 3, pk_mul, if_neg (by rw [nIle (by omega) (by omega)]; omega)]
    cases b with
    | false =>
      rw [if_neg (by decide), b_X7_canHave_66, b_X7_canHave_67, e3, ih]
      rfl
    | true =>
      rw [if_pos rfl, nIl 1, nI_add, nIl 2, nI_add, if_pos (vinT (by omega) (by omega)), nIn (by omega), b2, if_pos (vinT (by omega) (by omega)), if_pos (vinT (by omega) (by omega)), nIn (by omega), nIn (by omega), a2, (hCT.lv b3).2.1, nIand, mhas_eq (by have := and_lt64 (b := qlv q (s2 i)) hs; omega) (by omega), obs, if_pos (vinT (by omega) (by omega)), nIn (by omega), c2, Nat.testBit_and, alw, okp, Bool.true_and]
      by_cases h1 : s3 i = 1
      · rw [if_pos (by rw [h1]), b_X7_canHave_59, decide_eq_true h1]
        cases hb : (s.testBit (s1 i) && (qlv q (s2 i)).testBit (s1 i)) with
        | true => rw [if_pos rfl, b_X7_canHave_67, e3, ih]; rfl
        | false => rw [if_neg (by decide), b_X7_canHave_66, b_X7_canHave_67, e3, ih]; rfl
      · rw [if_neg (by rw [nIeq (by omega) (by omega)]; exact h1), b_X7_canHave_59, decide_eq_false h1]
        cases hb : (s.testBit (s1 i) && (qlv q (s2 i)).testBit (s1 i)) with
        | true => rw [if_neg (by decide), b_X7_canHave_66, b_X7_canHave_67, e3, ih]; rfl
        | false => rw [if_pos rfl, b_X7_canHave_67, e3, ih]; rfl
theorem m_canHave (hCT : CT I c q) {sm : Nat} {s1 s2 s3 : Nat → Nat} (hS : SnI I (qL q) sm s1 s2 s3) {s : Nat} (hs : s < 64) : f_X7_canHave I (nI s) = some (alw q s1 s2 s3 s sm 0) := by
  have h6 := hS.1.2.2
  rw [f_X7_canHave]
  exact l_canHave hCT hS hs sm 0 2000 true (by omega) (by omega)
end SIME
