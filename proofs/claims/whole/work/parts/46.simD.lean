/-! cover's search, now -/
section SIMD
variable {c d : Nat} {I : Hi} {L : Hl} {q : Ct}
def covS (q : Ct) (s : Nat) (b : Option Nat) : Option Nat := if covers q s = true ∧ (∀ v, b = some v → pc s < pc v) then some s else b
def covL (q : Ct) : Nat → Nat → Option Nat → Option Nat
  | 0, _, b => b
  | m + 1, s, b => covL q m (s + 1) (covS q s b)
def be (b : Option Nat) : Int32 := match b with
  | none => -9
  | some v => nI v
def fe (n : Nat) (b : Option Nat) : Nat := match b with
  | none => n + 1
  | some v => pc v
theorem pc_all : ((List.range 6).all fun n => (List.range (2 ^ n)).all fun s => decide (pc s ≤ n)) = true := by decide +kernel
theorem pc_b {n s : Nat} (hn : n ≤ 5) (hs : s < 2 ^ n) : pc s ≤ n := by
  have h1 := List.all_eq_true.mp pc_all n (List.mem_range.mpr (by omega))
  exact of_decide_eq_true (List.all_eq_true.mp h1 s (List.mem_range.mpr hs))
theorem two_le {n : Nat} (h : n ≤ 5) : 2 ^ n ≤ 32 := by
  have : 2 ^ n ≤ 2 ^ 5 := Nat.pow_le_pow_right (by decide) h
  omega
theorem two_le6 {n : Nat} (h : n ≤ 6) : 2 ^ n ≤ 64 := by
  have : 2 ^ n ≤ 2 ^ 6 := Nat.pow_le_pow_right (by decide) h
  omega
theorem l_cover (hCT : CT I c q) : ∀ (m s n : Nat) (b : Option Nat), (∀ v, b = some v → v < 64) → s + m = 2 ^ qL q → m < n → b_X0_cover_12 c I n (be b) (nI (fe (qL q) b)) (nI s) = some (be (covL q m s b))
  | 0, s, n + 1, b, hb, hs, hn => by
    have h5 := hCT.L5
    have h2 := two_le h5
    rw [b_X0_cover_12, hCT.1.1, shl1 (by omega), if_pos ((nIle (by omega) (by omega)).mpr (by omega)), covL]
  | m + 1, s, n + 1, b, hb, hs, hn => by
    have h5 := hCT.L5
    have h2 := two_le h5
    have hs2 : s < 2 ^ qL q := by omega
    have hfe : fe (qL q) b < 1000 := by
      cases b with
      | none => show qL q + 1 < 1000; omega
      | some v => have := pc_le v; show pc v < 1000; omega
    have hpc := pc_le s
    have hb2 : ∀ v, covS q s b = some v → v < 64 := by
      intro v hv
      unfold covS at hv
      split at hv
      · cases hv; omega
      · exact hb v hv
    have ih := l_cover hCT m (s + 1) n (covS q s b) hb2 (by omega) (by omega)
    rw [b_X0_cover_12, hCT.1.1, shl1 (by omega), if_neg (by rw [nIle (by omega) (by omega)]; omega), bc_eq (by omega), obs, covL]
    by_cases h1 : fe (qL q) b ≤ pc s
    · rw [if_pos ((nIle (by omega) (by omega)).mpr h1), b_X0_cover_45, nI_1]
      have : covS q s b = b := by
        unfold covS
        rw [if_neg]
        rintro ⟨_, h⟩
        cases b with
        | none =>
          have h1 : qL q + 1 ≤ pc s := h1
          have := pc_b h5 hs2
          omega
        | some v =>
          have h1 : pc v ≤ pc s := h1
          have := h v rfl
          omega
      rw [this] at ih ⊢
      exact ih
    · rw [if_neg (by rw [nIle (by omega) (by omega)]; exact h1), e_coversAll hCT (by omega), obs]
      have hlt : ∀ v, b = some v → pc s < pc v := by
        intro v hv
        subst hv
        have h1 : ¬ pc v ≤ pc s := h1
        omega
      by_cases hcv : covers q s = true
      · rw [if_pos hcv, obs, b_X0_cover_45, nI_1]
        have : covS q s b = some s := if_pos ⟨hcv, hlt⟩
        rw [this] at ih ⊢
        exact ih
      · rw [if_neg hcv, b_X0_cover_45, nI_1]
        have : covS q s b = b := if_neg (fun h => hcv h.1)
        rw [this] at ih ⊢
        exact ih
theorem e_cover (hCT : CT I c q) : f_X0_cover c I = some (be (covL q (2 ^ qL q) 0 none)) := by
  have h5 := hCT.L5
  have h2 := two_le h5
  rw [f_X0_cover, hCT.1.1, nI_1]
  exact l_cover hCT (2 ^ qL q) 0 2000 none (fun v h => by cases h) (by omega) (by omega)
theorem l_cov20 (hCT : CT I c q) {s : Nat} (hs : s < 64) (k5 : Int32 → Int32 → Option Int32) (x : Int32) : ∀ (m k n : Nat), k + m = qL q → m < n → b_X7_cover_20 I k5 n x (nI s) (nI (allm q s k)) (nI k) = b_X7_cover_57 I k5 x (nI s) (nI (allm q s (qL q)))
  | 0, k, n + 1, hk, hn => by
    have h5 := hCT.L5
    rw [b_X7_cover_20, hCT.1.2.1, if_pos ((nIle (by omega) (by omega)).mpr (by omega)), show k = qL q by omega]
  | m + 1, k, n + 1, hk, hn => by
    have h5 := hCT.L5
    have ih := l_cov20 hCT hs k5 x m (k + 1) n (by omega) (by omega)
    rw [b_X7_cover_20, hCT.1.2.1, if_neg (by rw [nIle (by omega) (by omega)]; omega), mhas_eq (by omega) (by omega), obs]
    rw [allm] at ih
    by_cases hb : s.testBit k = true
    · rw [if_pos hb] at ih
      rw [if_pos hb, m_letsBy hCT (by omega), obs, b_X7_cover_49, nI_1, nIor]
      exact ih
    · rw [if_neg hb] at ih
      rw [if_neg hb, b_X7_cover_49, nI_1, show (0 : Int32) = nI 0 from rfl, nIor]
      exact ih
theorem be_none {b : Option Nat} (hb : ∀ v, b = some v → v < 64) : be b = -9 ↔ b = none := by
  cases b with
  | none => exact ⟨fun _ => rfl, fun _ => rfl⟩
  | some v =>
    constructor
    · intro h
      exfalso
      have hv := hb v rfl
      have h : nI v = -9 := h
      have := congrArg Int32.toInt h
      rw [nI_toInt (by omega)] at this
      have e9 : (-9 : Int32).toInt = -9 := by decide
      omega
    · intro h; cases h
theorem l_mcover (hCT : CT I c q) : ∀ (m s n : Nat) (b : Option Nat), (∀ v, b = some v → v < 64) → s + m = 2 ^ qL q → m < n → b_X7_cover_5 I n (be b) (nI s) = some (be (covL q m s b))
  | 0, s, n + 1, b, hb, hs, hn => by
    have h5 := hCT.L5
    have h2 := two_le h5
    rw [b_X7_cover_5, hCT.1.2.1, shl1 (by omega), if_pos ((nIle (by omega) (by omega)).mpr (by omega)), covL]
  | m + 1, s, n + 1, b, hb, hs, hn => by
    have h5 := hCT.L5
    have h6 := hCT.G6
    have h2 := two_le h5
    have h26 := two_le6 h6
    have hp := Nat.two_pow_pos (qG q)
    have hb2 : ∀ v, covS q s b = some v → v < 64 := by
      intro v hv
      unfold covS at hv
      split at hv
      · cases hv; omega
      · exact hb v hv
    have ih := l_mcover hCT m (s + 1) n (covS q s b) hb2 (by omega) (by omega)
    have e0 := l_cov20 hCT (show s < 64 by omega) (b_X7_cover_5 I n) (be b) (qL q) 0 2000 (by omega) (by omega)
    have e0 : b_X7_cover_20 I (b_X7_cover_5 I n) 2000 (be b) (nI s) 0 0 = b_X7_cover_57 I (b_X7_cover_5 I n) (be b) (nI s) (nI (allm q s (qL q))) := e0
    have ha := allm_lt hCT s (qL q)
    rw [b_X7_cover_5, hCT.1.2.1, shl1 (by omega), if_neg (by rw [nIle (by omega) (by omega)]; omega), e0, b_X7_cover_57, hCT.2.1.2.1, shl1 (by omega), nIl 1, pk_sub (by omega), covL]
    by_cases hcv : covers q s = true
    · rw [if_pos ((nIeq (by omega) (by omega)).mpr ((cov_iff hCT s).mpr hcv))]
      cases b with
      | none =>
        rw [if_pos (show be none = -9 from rfl), b_X7_cover_86, b_X7_cover_91, nI_1]
        have : covS q s none = some s := if_pos ⟨hcv, fun v h => by cases h⟩
        rw [this] at ih ⊢
        exact ih
      | some v =>
        have hv := hb v rfl
        have p1 := pc_le v
        have p2 := pc_le s
        rw [if_neg (fun h => by have := (be_none hb).mp h; cases this), mb_eq (by omega), obs, show be (some v) = nI v from rfl, mb_eq hv, obs]
        by_cases hle : pc v ≤ pc s
        · rw [if_pos ((nIle (by omega) (by omega)).mpr hle), b_X7_cover_90, b_X7_cover_91, nI_1]
          have : covS q s (some v) = some v := if_neg (fun h => by have := h.2 v rfl; omega)
          rw [this] at ih ⊢
          exact ih
        · rw [if_neg (by rw [nIle (by omega) (by omega)]; exact hle), b_X7_cover_86, b_X7_cover_91, nI_1]
          have : covS q s (some v) = some s := if_pos ⟨hcv, fun w h => by cases h; omega⟩
          rw [this] at ih ⊢
          exact ih
    · rw [if_neg (fun h => hcv ((cov_iff hCT s).mp ((nIeq (by omega) (by omega)).mp h))), b_X7_cover_90, b_X7_cover_91, nI_1]
      have : covS q s b = b := if_neg (fun h => hcv h.1)
      rw [this] at ih ⊢
      exact ih
theorem m_cover (hCT : CT I c q) : f_X7_cover I = some (be (covL q (2 ^ qL q) 0 none)) := by
  have h5 := hCT.L5
  have h2 := two_le h5
  rw [f_X7_cover]
  exact l_mcover hCT (2 ^ qL q) 0 2000 none (fun v h => by cases h) (by omega) (by omega)
theorem sim_now (h : Inv c d I L) (x : Int32) : ∃ r, f_X6_now c d I x = some r ∧ f_X7_now I x = some r := by
  obtain ⟨hc, hd, hcd, hL, hT, q, hCT, ⟨mi, lf, pi, wh, ti, ⟨a1, a2, a3⟩, ⟨b1, b2, b3⟩, ⟨c1, c2, c3⟩, hg⟩, ⟨kn, nx, ⟨k1, k2, k3⟩, -⟩, -⟩ := h
  have h6 := hCT.G6
  have hw : ∀ g, g < 6 → I (15 + 1) g = nI (wh g) ∧ wh g ≤ 3 := fun g hgl => ⟨(hg g hgl).1.1, (hg g hgl).1.2.2.1⟩
  have hw2 : ∀ g, g < 6 → I 83 (3 + g) = nI (wh g) ∧ wh g ≤ 3 := fun g hgl => ⟨by have := (hg g hgl).1.2.1; rw [Nat.zero_add] at this; exact this, (hg g hgl).1.2.2.1⟩
  have hw3 : ∀ g, g < 6 → qG q ≤ g → wh g = 0 := fun g hgl => (hg g hgl).1.2.2.2
  have n0 : (0 : Int32).toNatClampNeg = 0 := by decide
  have n1 : (1 : Int32).toNatClampNeg = 1 := by decide
  have n2 : (2 : Int32).toNatClampNeg = 2 := by decide
  by_cases h0 : x = 0
  · subst h0
    refine ⟨nI mi, by rw [f_X6_now, if_pos rfl, a1], ?_⟩
    rw [f_X7_now, if_pos rfl, b_X7_now_44, if_pos (by decide), n0, a2]
  by_cases h1 : x = 1
  · subst h1
    refine ⟨nI lf, by rw [f_X6_now, if_neg h0, if_pos rfl, b1], ?_⟩
    rw [f_X7_now, if_neg h0, if_pos rfl, b_X7_now_44, if_pos (by decide), n1]
    exact congrArg some b2
  by_cases h2 : x = 2
  · subst h2
    refine ⟨nI pi, by rw [f_X6_now, if_neg h0, if_neg h1, if_pos rfl, c1], ?_⟩
    rw [f_X7_now, if_neg h0, if_neg h1, if_pos rfl, b_X7_now_44, if_pos (by decide), n2]
    exact congrArg some c2
  rw [f_X6_now, f_X7_now, if_neg h0, if_neg h1, if_neg h2, if_neg h0, if_neg h1, if_neg h2]
  by_cases h3 : x = 3
  · rw [if_pos h3, if_pos h3, nIl 1, e_whoAre (by decide) hw, obs, m_those hCT.2.1.2.1 h6 (by decide) hw2, obs, who_eq h6 (by decide) hw3]
    exact ⟨_, rfl, rfl⟩
  rw [if_neg h3, if_neg h3]
  by_cases h4 : x = 4
  · rw [if_pos h4, if_pos h4, nIl 3, e_whoAre (by decide) hw, obs, m_those hCT.2.1.2.1 h6 (by decide) hw2, obs, who_eq h6 (by decide) hw3]
    exact ⟨_, rfl, rfl⟩
  rw [if_neg h4, if_neg h4]
  by_cases h5 : x = 5
  · rw [if_pos h5, if_pos h5, e_cover hCT, m_cover hCT, obs]
    exact ⟨_, rfl, rfl⟩
  rw [if_neg h5, if_neg h5, k1, k2]
  by_cases h7 : x = 6
  · rw [if_pos h7]
    exact ⟨_, rfl, rfl⟩
  rw [if_neg h7]
  exact ⟨_, rfl, rfl⟩
end SIMD
