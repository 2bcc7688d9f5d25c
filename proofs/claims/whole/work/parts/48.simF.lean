/-! had, ask -/
section SIMF
variable {c d : Nat} {I : Hi} {L : Hl} {q : Ct}
def cnt (p : Nat → Bool) : Nat → Nat → Nat
  | 0, _ => 0
  | m + 1, s => (if p s = true then 1 else 0) + cnt p m (s + 1)
theorem cnt_le (p : Nat → Bool) : ∀ m s, cnt p m s ≤ m
  | 0, _ => Nat.le_refl _
  | m + 1, s => by
    have := cnt_le p m (s + 1)
    rw [cnt]
    split <;> omega
theorem cnt_mono {p r : Nat → Bool} (h : ∀ s, p s = true → r s = true) : ∀ m s, cnt p m s ≤ cnt r m s
  | 0, _ => Nat.le_refl _
  | m + 1, s => by
    have := cnt_mono h m (s + 1)
    rw [cnt, cnt]
    by_cases hp : p s = true
    · rw [if_pos hp, if_pos (h s hp)]; omega
    · rw [if_neg hp]; omega
def hadf (p : Nat → Bool) : Nat → Nat → Nat × Nat × Nat → Nat × Nat × Nat
  | 0, _, a => a
  | m + 1, s, a => hadf p m (s + 1) (if p s = true then (a.1 + 1, a.2.1 &&& s, a.2.2 ||| s) else a)
theorem hadf_cnt (p : Nat → Bool) : ∀ m s a, (hadf p m s a).1 = a.1 + cnt p m s
  | 0, s, a => rfl
  | m + 1, s, a => by
    rw [hadf, hadf_cnt p m (s + 1), cnt]
    by_cases hp : p s = true
    · rw [if_pos hp, if_pos hp]; show a.1 + 1 + _ = _; omega
    · rw [if_neg hp, if_neg hp]; omega
theorem l_had (hCT : CT I c q) {sm : Nat} {s1 s2 s3 : Nat → Nat} (hS : SnI I (qL q) sm s1 s2 s3) (x : Int32) : ∀ (m s n : Nat) (a : Nat × Nat × Nat), s + m = 64 → m < n → b_X6_had_11 c d I n x (nI a.1) (nI a.2.1) (nI a.2.2) (nI s) = b_X6_had_55 c d I x (nI (hadf (fun s => alw q s1 s2 s3 s sm 0) m s a).1) (nI (hadf (fun s => alw q s1 s2 s3 s sm 0) m s a).2.1) (nI (hadf (fun s => alw q s1 s2 s3 s sm 0) m s a).2.2)
  | 0, s, n + 1, a, hs, hn => by
    rw [b_X6_had_11, nIl 64, if_pos ((nIle (by omega) (by omega)).mpr (by omega)), hadf]
  | m + 1, s, n + 1, a, hs, hn => by
    rw [b_X6_had_11, nIl 64, if_neg (by rw [nIle (by omega) (by omega)]; omega), e_allows hCT hS (by omega), obs, hadf]
    by_cases hp : alw q s1 s2 s3 s sm 0 = true
    · rw [if_pos hp, if_pos hp, b_X6_had_49, nI_1, nI_1, nIand, nIor]
      exact l_had hCT hS x m (s + 1) n (a.1 + 1, a.2.1 &&& s, a.2.2 ||| s) (by omega) (by omega)
    · rw [if_neg hp, if_neg hp, b_X6_had_49, nI_1]
      exact l_had hCT hS x m (s + 1) n _ (by omega) (by omega)
theorem l_mhad (hCT : CT I c q) {sm : Nat} {s1 s2 s3 : Nat → Nat} (hS : SnI I (qL q) sm s1 s2 s3) (x : Int32) : ∀ (m s n : Nat) (a : Nat × Nat × Nat), s + m = 64 → m < n → b_X7_had_25 I n x (nI a.1) (nI a.2.1) (nI a.2.2) (nI s) = b_X7_had_62 I x (nI (hadf (fun s => alw q s1 s2 s3 s sm 0) m s a).1) (nI (hadf (fun s => alw q s1 s2 s3 s sm 0) m s a).2.1) (nI (hadf (fun s => alw q s1 s2 s3 s sm 0) m s a).2.2)
  | 0, s, n + 1, a, hs, hn => by
    rw [b_X7_had_25, nIl 64, if_pos ((nIle (by omega) (by omega)).mpr (by omega)), hadf]
  | m + 1, s, n + 1, a, hs, hn => by
    rw [b_X7_had_25, nIl 64, if_neg (by rw [nIle (by omega) (by omega)]; omega), m_canHave hCT hS (by omega), obs, hadf]
    by_cases hp : alw q s1 s2 s3 s sm 0 = true
    · rw [if_pos hp, if_pos hp, b_X7_had_56, nI_1, nI_1, nIand, nIor]
      exact l_mhad hCT hS x m (s + 1) n (a.1 + 1, a.2.1 &&& s, a.2.2 ||| s) (by omega) (by omega)
    · rw [if_neg hp, if_neg hp, b_X7_had_56, nI_1]
      exact l_mhad hCT hS x m (s + 1) n _ (by omega) (by omega)
theorem e_had (hCT : CT I c q) {sm : Nat} {s1 s2 s3 : Nat → Nat} (hS : SnI I (qL q) sm s1 s2 s3) (x : Int32) : ∃ a : Nat × Nat × Nat, a.1 = cnt (fun s => alw q s1 s2 s3 s sm 0) 64 0 ∧ f_X6_had c d I x = b_X6_had_55 c d I x (nI a.1) (nI a.2.1) (nI a.2.2) ∧ f_X7_had I x = if vinb x 3 = true then b_X7_had_62 I x (nI a.1) (nI a.2.1) (nI a.2.2) else some (-1) := by
  refine ⟨hadf (fun s => alw q s1 s2 s3 s sm 0) 64 0 (0, 63, 0), ?_, ?_, ?_⟩
  · rw [hadf_cnt]; show 0 + _ = _; omega
  · rw [f_X6_had]
    exact l_had hCT hS x 64 0 2000 (0, 63, 0) (by omega) (by omega)
  · rw [f_X7_had, in_vin 3 (by decide) (by decide), obs]
    have := l_mhad hCT hS x 64 0 2000 (0, 63, 0) (by omega) (by omega)
    rw [← this]
    rfl
theorem sim_had (h : Inv c d I L) (x : Int32) : ∃ r, f_X6_had c d I x = some r ∧ f_X7_had I x = some r := by
  obtain ⟨hc, hd, hcd, hL, hT, q, hCT, hNW, hHS, hIM, ⟨sm, s1, s2, s3, hS⟩⟩ := h
  obtain ⟨a, -, h1, h2⟩ := e_had (d := d) hCT hS x
  rw [h1, h2, b_X6_had_55, b_X7_had_62]
  by_cases h0 : x = 0
  · subst h0
    rw [if_pos rfl, if_pos (show vinb 0 3 = true by decide), if_pos rfl]
    exact ⟨_, rfl, rfl⟩
  by_cases h1 : x = 1
  · subst h1
    rw [if_neg h0, if_pos rfl, if_pos (show vinb 1 3 = true by decide), if_neg h0, if_neg (show ¬ (1 : Int32) = 2 by decide)]
    by_cases hz : nI a.1 = 0
    · rw [if_pos hz]; exact ⟨_, rfl, rfl⟩
    · rw [if_neg hz]; exact ⟨_, rfl, rfl⟩
  by_cases h2 : x = 2
  · subst h2
    rw [if_neg h0, if_neg h1, if_pos rfl, if_pos (show vinb 2 3 = true by decide), if_neg h0, if_pos rfl]
    exact ⟨_, rfl, rfl⟩
  rw [if_neg h0, if_neg h1, if_neg h2, if_neg]
  · exact ⟨_, rfl, rfl⟩
  · intro hw
    obtain ⟨j, hj, _, rfl⟩ := vin_of hw
    have : j = 0 ∨ j = 1 ∨ j = 2 := by omega
    rcases this with rfl | rfl | rfl
    · exact h0 rfl
    · exact h1 rfl
    · exact h2 rfl
/-! ask -/
def askp (q : Ct) (s1 s2 s3 : Nat → Nat) (sm l t s : Nat) : Bool := (qlv q l).testBit t && s.testBit t && alw q s1 s2 s3 s sm 0
theorem l_sets (hCT : CT I c q) {sm : Nat} {s1 s2 s3 : Nat → Nat} (hS : SnI I (qL q) sm s1 s2 s3) {l t : Nat} (hl : l < qL q) (ht : t < 6) : ∀ (m s n a : Nat), s + m = 64 → m < n → b_X6_setsLetBy_5 c d I n (nI t) (nI l) (nI a) (nI s) = some (nI (a + cnt (askp q s1 s2 s3 sm l t) m s))
  | 0, s, n + 1, a, hs, hn => by
    rw [b_X6_setsLetBy_5, nIl 64, if_pos ((nIle (by omega) (by omega)).mpr (by omega)), cnt]
    rfl
  | m + 1, s, n + 1, a, hs, hn => by
    have ih := fun a => l_sets hCT hS hl ht m (s + 1) n a (by omega) (by omega)
    rw [b_X6_setsLetBy_5, nIl 64, if_neg (by rw [nIle (by omega) (by omega)]; omega), e_counts hCT ht hl, obs, cnt, askp]
    cases h1 : (qlv q l).testBit t with
    | false => rw [if_neg (by decide), b_X6_setsLetBy_52, nI_1, ih, if_neg (by simp), Nat.zero_add]
    | true =>
      rw [if_pos rfl, has_eq (by omega) (by omega), obs]
      cases h2 : s.testBit t with
      | false => rw [if_neg (by decide), b_X6_setsLetBy_52, nI_1, ih, if_neg (by simp), Nat.zero_add]
      | true =>
        rw [if_pos rfl, e_allows hCT hS (by omega), obs]
        cases h3 : alw q s1 s2 s3 s sm 0 with
        | false => rw [if_neg (by decide), b_X6_setsLetBy_52, nI_1, ih, if_neg (by simp), Nat.zero_add]
        | true => rw [if_pos rfl, b_X6_setsLetBy_52, nI_1, nI_1, ih, if_pos (by simp), show a + 1 + cnt (askp q s1 s2 s3 sm l t) m (s + 1) = a + (1 + cnt (askp q s1 s2 s3 sm l t) m (s + 1)) by omega]
theorem l_msets (hCT : CT I c q) {sm : Nat} {s1 s2 s3 : Nat → Nat} (hS : SnI I (qL q) sm s1 s2 s3) {l t : Nat} (hl : l < qL q) (ht : t < 6) (k26 : Int32 → Int32 → Int32 → Int32 → Int32 → Option Int32) (x2 x3 x4 : Int32) : ∀ (m s n a : Nat), s + m = 64 → m < n → b_X7_ask_44 I k26 n (nI l) x2 x3 x4 (nI t) (nI a) (nI s) = b_X7_ask_93 I k26 (nI l) x2 x3 x4 (nI t) (nI (a + cnt (askp q s1 s2 s3 sm l t) m s))
  | 0, s, n + 1, a, hs, hn => by
    rw [b_X7_ask_44, nIl 64, if_pos ((nIle (by omega) (by omega)).mpr (by omega)), cnt]
    rfl
  | m + 1, s, n + 1, a, hs, hn => by
    have h5 := hCT.L5
    have ih := fun a => l_msets hCT hS hl ht k26 x2 x3 x4 m (s + 1) n a (by omega) (by omega)
    have z : nI a + bI false = nI a := by show nI a + 0 = nI a; rw [show (0 : Int32) = nI 0 from rfl, nI_add]; rfl
    have o : nI a + bI true = nI (a + 1) := nI_1 a
    rw [b_X7_ask_44, nIl 64, if_neg (by rw [nIle (by omega) (by omega)]; omega), m_canHave hCT hS (by omega), obs, cnt, askp]
    cases h3 : alw q s1 s2 s3 s sm 0 with
    | false => rw [if_neg (by decide), b_X7_ask_83, b_X7_ask_84, z, nI_1, ih, if_neg (by simp), Nat.zero_add]
    | true =>
      rw [if_pos rfl, if_pos (vinT (by omega) (by omega)), nIn (by omega), (hCT.lv hl).2.1, nIand, mhas_eq (by have := and_lt64 (b := qlv q l) (show s < 64 by omega); omega) (by omega), obs, Nat.testBit_and]
      cases h1 : (qlv q l).testBit t with
      | false => rw [if_neg (by simp), b_X7_ask_83, b_X7_ask_84, z, nI_1, ih, if_neg (by simp), Nat.zero_add]
      | true =>
        cases h2 : s.testBit t with
        | false => rw [if_neg (by decide), b_X7_ask_83, b_X7_ask_84, z, nI_1, ih, if_neg (by simp), Nat.zero_add]
        | true => rw [if_pos (by decide), b_X7_ask_84, o, nI_1, ih, if_pos (by simp), show a + 1 + cnt (askp q s1 s2 s3 sm l t) m (s + 1) = a + (1 + cnt (askp q s1 s2 s3 sm l t) m (s + 1)) by omega]
def askf (part : Nat → Nat) : Nat → Nat → Nat → Int32 → Int32
  | 0, _, _, w => w
  | m + 1, t, le, w => if le ≤ part t then askf part m (t + 1) le w else askf part m (t + 1) (part t) (nI t)
def mx (a b : Nat) : Nat := if a ≤ b then b else a
theorem l_ask (hCT : CT I c q) {sm : Nat} {s1 s2 s3 : Nat → Nat} (hS : SnI I (qL q) sm s1 s2 s3) {l many : Nat} (hl : l < qL q) (hm : many ≤ 64) (hc : ∀ t, cnt (askp q s1 s2 s3 sm l t) 64 0 ≤ many) : ∀ (m t n le : Nat) (w : Int32), le ≤ 65 → t + m = 6 → m < n → b_X6_ask_37 c d I n (nI l) (nI many) w (nI le) (nI t) = some (askf (fun t => mx (cnt (askp q s1 s2 s3 sm l t) 64 0) (many - cnt (askp q s1 s2 s3 sm l t) 64 0)) m t le w)
  | 0, t, n + 1, le, w, hle, ht, hn => by
    rw [b_X6_ask_37, nIl 6, if_pos ((nIle (by omega) (by omega)).mpr (by omega)), askf]
  | m + 1, t, n + 1, le, w, hle, ht, hn => by
    have hct := hc t
    have e0 := l_sets (d := d) hCT hS hl (show t < 6 by omega) 64 0 2000 0 (by omega) (by omega)
    rw [Nat.zero_add] at e0
    have hj : jmax (nI (cnt (askp q s1 s2 s3 sm l t) 64 0)) (nI (many - cnt (askp q s1 s2 s3 sm l t) 64 0)) = nI (mx (cnt (askp q s1 s2 s3 sm l t) 64 0) (many - cnt (askp q s1 s2 s3 sm l t) 64 0)) := by
      unfold jmax mx
      by_cases h1 : cnt (askp q s1 s2 s3 sm l t) 64 0 < many - cnt (askp q s1 s2 s3 sm l t) 64 0
      · rw [if_pos ((nIlt (by omega) (by omega)).mpr h1), if_pos (by omega)]
      · rw [if_neg (by rw [nIlt (by omega) (by omega)]; exact h1)]
        by_cases h2 : cnt (askp q s1 s2 s3 sm l t) 64 0 ≤ many - cnt (askp q s1 s2 s3 sm l t) 64 0
        · rw [if_pos h2, show many - cnt (askp q s1 s2 s3 sm l t) 64 0 = cnt (askp q s1 s2 s3 sm l t) 64 0 by omega]
        · rw [if_neg h2]
    have hmx : mx (cnt (askp q s1 s2 s3 sm l t) 64 0) (many - cnt (askp q s1 s2 s3 sm l t) 64 0) ≤ 64 := by unfold mx; split <;> omega
    rw [b_X6_ask_37, nIl 6, if_neg (by rw [nIle (by omega) (by omega)]; omega), f_X6_setsLetBy, show (0 : Int32) = nI 0 from rfl, e0, obs, pk_sub hct, hj, askf]
    by_cases h1 : le ≤ mx (cnt (askp q s1 s2 s3 sm l t) 64 0) (many - cnt (askp q s1 s2 s3 sm l t) 64 0)
    · rw [if_pos ((nIle (by omega) (by omega)).mpr h1), if_pos h1, b_X6_ask_78, nI_1]
      exact l_ask hCT hS hl hm hc m (t + 1) n le w hle (by omega) (by omega)
    · rw [if_neg (by rw [nIle (by omega) (by omega)]; exact h1), if_neg h1, b_X6_ask_78, nI_1]
      exact l_ask hCT hS hl hm hc m (t + 1) n _ _ (by omega) (by omega) (by omega)
theorem l_mask (hCT : CT I c q) {sm : Nat} {s1 s2 s3 : Nat → Nat} (hS : SnI I (qL q) sm s1 s2 s3) {l many : Nat} (hl : l < qL q) (hm1 : 1 < many) (hm : many ≤ 64) (hc : ∀ t, cnt (askp q s1 s2 s3 sm l t) 64 0 ≤ many) : ∀ (m t n le : Nat) (w : Int32), le ≤ 65 → t + m = 6 → m < n → b_X7_ask_26 I n (nI l) (nI many) (nI le) w (nI t) = some (askf (fun t => mx (cnt (askp q s1 s2 s3 sm l t) 64 0) (many - cnt (askp q s1 s2 s3 sm l t) 64 0)) m t le w)
  | 0, t, n + 1, le, w, hle, ht, hn => by
    rw [b_X7_ask_26, nIl 6, if_pos ((nIle (by omega) (by omega)).mpr (by omega)), askf]
  | m + 1, t, n + 1, le, w, hle, ht, hn => by
    have hct := hc t
    have e0 := l_msets hCT hS hl (show t < 6 by omega) (b_X7_ask_26 I n) (nI many) (nI le) w 64 0 2000 0 (by omega) (by omega)
    rw [Nat.zero_add] at e0
    have hmx : mx (cnt (askp q s1 s2 s3 sm l t) 64 0) (many - cnt (askp q s1 s2 s3 sm l t) 64 0) ≤ 64 := by unfold mx; split <;> omega
    have e1 : ∀ (x3 x4 : Int32), b_X7_ask_93 I (b_X7_ask_26 I n) (nI l) (nI many) x3 x4 (nI t) (nI (cnt (askp q s1 s2 s3 sm l t) 64 0)) = b_X7_ask_111 I (b_X7_ask_26 I n) (nI l) (nI many) x3 x4 (nI t) (nI (mx (cnt (askp q s1 s2 s3 sm l t) 64 0) (many - cnt (askp q s1 s2 s3 sm l t) 64 0))) := by
      intro x3 x4
      rw [b_X7_ask_93, pk_sub hct]
      unfold mx
      by_cases h2 : cnt (askp q s1 s2 s3 sm l t) 64 0 ≤ many - cnt (askp q s1 s2 s3 sm l t) 64 0
      · rw [if_pos ((nIle (by omega) (by omega)).mpr h2), if_pos h2]
      · rw [if_neg (by rw [nIle (by omega) (by omega)]; exact h2), if_neg h2]
    rw [b_X7_ask_26, nIl 6, if_neg (by rw [nIle (by omega) (by omega)]; omega), nIl 1, if_neg (by rw [nIle (by omega) (by omega)]; omega), show (0 : Int32) = nI 0 from rfl, e0, e1, b_X7_ask_111, askf]
    by_cases h1 : le ≤ mx (cnt (askp q s1 s2 s3 sm l t) 64 0) (many - cnt (askp q s1 s2 s3 sm l t) 64 0)
    · rw [if_pos ((nIle (by omega) (by omega)).mpr h1), if_pos h1, b_X7_ask_126, if_pos ((nIle (by omega) (by omega)).mpr h1), b_X7_ask_140, nI_1]
      exact l_mask hCT hS hl hm1 hm hc m (t + 1) n le w hle (by omega) (by omega)
    · rw [if_neg (by rw [nIle (by omega) (by omega)]; exact h1), if_neg h1, b_X7_ask_126, if_neg (by rw [nIle (by omega) (by omega)]; exact h1), b_X7_ask_140, nI_1]
      exact l_mask hCT hS hl hm1 hm hc m (t + 1) n _ _ (by omega) (by omega) (by omega)
theorem sim_ask (h : Inv c d I L) (x : Int32) : ∃ r, f_X6_ask c d I x = some r ∧ f_X7_ask I x = some r := by
  obtain ⟨hc, hd, hcd, hL, hT, q, hCT, hNW, hHS, hIM, ⟨sm, s1, s2, s3, hS⟩⟩ := h
  have h5 := hCT.L5
  rw [f_X6_ask, f_X7_ask, e_hasLeaf hCT, m_isTheLeaf hCT, obs, obs]
  by_cases hv : vinb x (qL q) = true
  · rw [if_pos hv, if_pos hv]
    obtain ⟨l, hl, _, rfl⟩ := vin_of hv
    obtain ⟨a, a1, h1, h2⟩ := e_had (d := d) hCT hS 0
    rw [h1, h2, b_X6_had_55, if_pos rfl, if_pos (show vinb 0 3 = true by decide), b_X7_had_62, if_pos rfl, obs, obs]
    have hm : a.1 ≤ 64 := by rw [a1]; exact cnt_le _ _ _
    have hcl : ∀ t, cnt (askp q s1 s2 s3 sm l t) 64 0 ≤ a.1 := fun t => by
      rw [a1]
      exact cnt_mono (fun s hs => by unfold askp at hs; rw [Bool.and_eq_true] at hs; exact hs.2) _ _
    by_cases h1 : 1 < a.1
    · rw [if_pos (by rw [nIl 1]; exact (nIlt (by omega) (by omega)).mpr h1), nI_1]
      have e1 := l_ask (d := d) hCT hS hl hm hcl 6 0 2000 (a.1 + 1) 0 (by omega) (by omega) (by omega)
      have e2 := l_mask hCT hS hl h1 hm hcl 6 0 2000 65 (-9) (by omega) (by omega) (by omega)
      refine ⟨_, e1, ?_⟩
      have e2 : b_X7_ask_26 I 2000 (nI l) (nI a.1) 65 (-9) 0 = some (askf (fun t => mx (cnt (askp q s1 s2 s3 sm l t) 64 0) (a.1 - cnt (askp q s1 s2 s3 sm l t) 64 0)) 6 0 65 (-9)) := e2
      have hc0 := hcl 0
      have hmx : mx (cnt (askp q s1 s2 s3 sm l 0) 64 0) (a.1 - cnt (askp q s1 s2 s3 sm l 0) 64 0) ≤ a.1 := by unfold mx; split <;> omega
      have f1 : ∀ (p : Nat → Nat) (le : Nat) (w : Int32), ¬ le ≤ p 0 → askf p 6 0 le w = askf p 5 1 (p 0) (nI 0) := fun p le w h => by rw [askf, if_neg h]
      rw [e2, f1 _ 65 (-9) (by show ¬ 65 ≤ mx _ _; omega), f1 _ (a.1 + 1) 0 (by show ¬ a.1 + 1 ≤ mx _ _; omega)]
    · rw [if_neg (by rw [nIl 1, nIlt (by omega) (by omega)]; exact h1), b_X7_ask_26, if_neg (by decide), if_pos (by rw [nIl 1]; exact (nIle (by omega) (by omega)).mpr (by omega))]
      exact ⟨_, rfl, rfl⟩
  · rw [if_neg hv, if_neg hv]
    exact ⟨_, rfl, rfl⟩
end SIMF
