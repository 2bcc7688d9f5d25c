/-! when -/
section WHEN
variable {c d : Nat} {I : Hi} {L : Hl} {q : Ct}
def sol (q : Ct) (k x : Nat) : Prop := ∀ j, j < k → x % qmv q j = qrv q j
theorem gcd_all : ((List.range 145).all fun s => (List.range 13).all fun m => decide (s = 0) || decide (m = 0) || decide (f_X6_greatestDivisor (nI s) (nI m) = some (nI (Nat.gcd s m)))) = true := by decide +kernel
theorem gcd_eq {s m : Nat} (hs : s ≤ 144) (hm : m ≤ 12) (h0 : 0 < s) (h1 : 0 < m) : f_X6_greatestDivisor (nI s) (nI m) = some (nI (Nat.gcd s m)) := by
  have h2 := List.all_eq_true.mp gcd_all s (List.mem_range.mpr (by omega))
  have h3 := List.all_eq_true.mp h2 m (List.mem_range.mpr (by omega))
  simp only [Bool.or_eq_true, decide_eq_true_eq] at h3
  rcases h3 with (h3 | h3) | h3
  · omega
  · omega
  · exact h3
/-- the first try that fits -/
def fnd (x s m r : Nat) : Nat → Nat → Option Nat
  | 0, _ => none
  | j + 1, t => if (x + t * s) % m = r then some t else fnd x s m r j (t + 1)
theorem fnd_some {x s m r : Nat} : ∀ (j t t0 : Nat), fnd x s m r j t = some t0 → (x + t0 * s) % m = r ∧ t ≤ t0 ∧ t0 < t + j ∧ ∀ u, t ≤ u → u < t0 → ¬ (x + u * s) % m = r
  | 0, t, t0, h => by cases h
  | j + 1, t, t0, h => by
    rw [fnd] at h
    by_cases h1 : (x + t * s) % m = r
    · rw [if_pos h1] at h
      cases h
      exact ⟨h1, Nat.le_refl _, by omega, fun u h2 h3 => by omega⟩
    · rw [if_neg h1] at h
      obtain ⟨a, b, e, f⟩ := fnd_some j (t + 1) t0 h
      refine ⟨a, by omega, by omega, fun u h2 h3 => ?_⟩
      by_cases hu : u = t
      · subst hu; exact h1
      · exact f u (by omega) h3
theorem fnd_none {x s m r : Nat} : ∀ (j t : Nat), fnd x s m r j t = none → ∀ u, t ≤ u → u < t + j → ¬ (x + u * s) % m = r
  | 0, t, _, u, h1, h2 => by omega
  | j + 1, t, h, u, h1, h2 => by
    rw [fnd] at h
    by_cases h3 : (x + t * s) % m = r
    · rw [if_pos h3] at h; cases h
    · rw [if_neg h3] at h
      by_cases hu : u = t
      · subst hu; exact h3
      · exact fnd_none j (t + 1) h u (by omega) (by omega)
theorem l_dayF (hCT : CT I c q) {k x s : Nat} (hk : k < qF q) (hx : x ≤ 40000) (hs : s ≤ 1728) : ∀ (j t n : Nat), t + j = qmv q k → j < n → b_X0_dayOfFriday_15 c I n (nI k) (nI x) (nI s) (nI (qmv q k)) (nI t) = some (match fnd x s (qmv q k) (qrv q k) j t with | some t0 => nI (x + t0 * s) | none => -9)
  | 0, t, n + 1, ht, hn => by
    have := (hCT.mv hk).2.2
    rw [b_X0_dayOfFriday_15, if_pos ((nIle (by omega) (by omega)).mpr (by omega)), fnd]
  | j + 1, t, n + 1, ht, hn => by
    have h3 := hCT.F3
    have hm := (hCT.mv hk).2.2
    have hr := (hCT.rv hk).2.2
    have hts : t * s ≤ 12 * 1728 := Nat.mul_le_mul (by omega) hs
    have hlt : (x + t * s) % qmv q k < qmv q k := Nat.mod_lt _ (by omega)
    rw [b_X0_dayOfFriday_15, if_neg (by rw [nIle (by omega) (by omega)]; omega), if_neg (fun h => by have := (nI_0iff (by omega)).mp h; omega), if_pos (vinT (by omega) (by omega)), pk_mul, nI_add, pk_rem (by omega) (by omega) (by omega), nIn (by omega), (hCT.rv hk).1, fnd]
    by_cases h1 : (x + t * s) % qmv q k = qrv q k
    · rw [if_pos ((nIeq (by omega) (by omega)).mpr h1), if_pos h1]
    · rw [if_neg (by rw [nIeq (by omega) (by omega)]; exact h1), if_neg h1, nI_1]
      exact l_dayF hCT hk hx hs j (t + 1) n (by omega) (by omega)
theorem e_dayF (hCT : CT I c q) {k x s : Nat} (hk : k < qF q) (hx : x ≤ 40000) (hs : s ≤ 1728) : f_X0_dayOfFriday c I (nI k) (nI x) (nI s) = some (match fnd x s (qmv q k) (qrv q k) (qmv q k) 0 with | some t0 => nI (x + t0 * s) | none => -9) := by
  have h3 := hCT.F3
  have hm := (hCT.mv hk).2.2
  rw [f_X0_dayOfFriday, if_pos (vinT (by omega) (by omega)), nIn (by omega), (hCT.mv hk).1]
  have e : jmax 1 (nI (qmv q k)) = nI (qmv q k) := by
    unfold jmax
    rw [nIl 1, if_pos ((nIlt (by omega) (by omega)).mpr (by omega))]
  rw [e]
  exact l_dayF hCT hk hx hs (qmv q k) 0 2000 (by omega) (by omega)
def PW (q : Ct) (D k x s : Nat) : Prop := sol q k x ∧ D ≤ x ∧ 0 < s ∧ (∀ y, D ≤ y → sol q k y → ∃ t, y = x + t * s) ∧ (∀ t, sol q k (x + t * s)) ∧ x + 1 ≤ D + 12 ^ k ∧ s ≤ 12 ^ k
theorem sol_s {q : Ct} {k x : Nat} : sol q (k + 1) x ↔ (sol q k x ∧ x % qmv q k = qrv q k) := by
  constructor
  · intro h; exact ⟨fun j hj => h j (by omega), h k (by omega)⟩
  · rintro ⟨h1, h2⟩ j hj
    by_cases hj2 : j = k
    · subst hj2; exact h2
    · exact h1 j (by omega)
theorem lcm_form {s m : Nat} : s / Nat.gcd s m * m = Nat.lcm s m := by
  unfold Nat.lcm
  rw [Nat.div_mul_right_comm (Nat.gcd_dvd_left s m)]
theorem PW.next {D k x s t0 m : Nat} (h : PW q D k x s) (hm : qmv q k = m) (hm0 : 0 < m) (hm12 : m ≤ 12) (hf : fnd x s m (qrv q k) m 0 = some t0) : PW q D (k + 1) (x + t0 * s) (Nat.lcm s m) := by
  obtain ⟨h1, h2, h3, h4, h5, h6, h7⟩ := h
  obtain ⟨f1, f2, f3, f4⟩ := fnd_some _ _ _ hf
  rw [← hm] at f1
  have hlp : 0 < Nat.lcm s m := Nat.lcm_pos h3 hm0
  refine ⟨sol_s.mpr ⟨h5 t0, f1⟩, by omega, hlp, fun y hy hsy => ?_, fun t => ?_, ?_, ?_⟩
  · obtain ⟨hs1, hs2⟩ := sol_s.mp hsy
    obtain ⟨t, rfl⟩ := h4 y hy hs1
    have ht : t0 ≤ t := by
      by_cases hlt : t < t0
      · rw [← hm] at f4
        exact absurd hs2 (f4 t (by omega) hlt)
      · omega
    have hmod : (x + t * s - (x + t0 * s)) % m = 0 := Nat.sub_mod_eq_zero_of_mod_eq (by rw [hm] at hs2 f1; rw [hs2, f1])
    have e : x + t * s - (x + t0 * s) = (t - t0) * s := by
      rw [Nat.sub_mul]
      have : t0 * s ≤ t * s := Nat.mul_le_mul_right _ ht
      omega
    rw [e] at hmod
    have hd1 : m ∣ (t - t0) * s := Nat.dvd_of_mod_eq_zero hmod
    have hd2 : s ∣ (t - t0) * s := Nat.dvd_mul_left _ _
    obtain ⟨u, hu⟩ := Nat.lcm_dvd hd2 hd1
    refine ⟨u, ?_⟩
    have : t0 * s ≤ t * s := Nat.mul_le_mul_right _ ht
    rw [Nat.mul_comm u, ← hu, ← e]
    omega
  · refine sol_s.mpr ⟨?_, ?_⟩
    · obtain ⟨u, hu⟩ := Nat.dvd_lcm_left s m
      have : x + t0 * s + t * Nat.lcm s m = x + (t0 + t * u) * s := by
        rw [hu, Nat.add_mul, Nat.mul_assoc, Nat.mul_comm u s]
        omega
      rw [this]
      exact h5 _
    · obtain ⟨u, hu⟩ := Nat.dvd_lcm_right s m
      rw [hm] at f1 ⊢
      rw [hu, show t * (m * u) = m * (t * u) by rw [← Nat.mul_assoc, Nat.mul_comm t m, Nat.mul_assoc], Nat.add_mul_mod_self_left]
      exact f1
  · have h8 : t0 * s ≤ 11 * 12 ^ k := Nat.mul_le_mul (by omega) h7
    rw [Nat.pow_succ]
    omega
  · have h8 : Nat.lcm s m ≤ s * m := Nat.le_of_dvd (Nat.mul_pos h3 hm0) (Nat.lcm_dvd_mul s m)
    have h9 : s * m ≤ 12 ^ k * 12 := Nat.mul_le_mul h7 hm12
    rw [Nat.pow_succ]
    omega
theorem PW.stop {D k x s m : Nat} (h : PW q D k x s) (hm : qmv q k = m) (hm0 : 0 < m) (hf : fnd x s m (qrv q k) m 0 = none) : ∀ y, D ≤ y → ¬ sol q (k + 1) y := by
  obtain ⟨h1, h2, h3, h4, h5, h6, h7⟩ := h
  intro y hy hs
  obtain ⟨hs1, hs2⟩ := sol_s.mp hs
  obtain ⟨t, rfl⟩ := h4 y hy hs1
  have hlt : t % m < m := Nat.mod_lt _ hm0
  refine fnd_none _ _ hf (t % m) (by omega) (by omega) ?_
  rw [← hs2, hm]
  have e : t * s = (t % m) * s + m * (t / m * s) := by
    have e1 : t = t % m + m * (t / m) := (Nat.mod_add_div t m).symm
    calc t * s = (t % m + m * (t / m)) * s := by rw [← e1]
      _ = (t % m) * s + m * (t / m * s) := by rw [Nat.add_mul, Nat.mul_assoc]
  rw [e, ← Nat.add_assoc, Nat.add_mul_mod_self_left]
theorem sol_mono {k n y : Nat} (hk : k ≤ n) (h : sol q n y) : sol q k y := fun j hj => h j (by omega)
theorem p12 {k : Nat} (h : k ≤ 3) : 12 ^ k ≤ 1728 := by
  have : 12 ^ k ≤ 12 ^ 3 := Nat.pow_le_pow_right (by decide) h
  exact this
theorem p12b {k : Nat} (h : k ≤ 2) : 12 ^ k ≤ 144 := by
  have : 12 ^ k ≤ 12 ^ 2 := Nat.pow_le_pow_right (by decide) h
  exact this
theorem l_fri (hCT : CT I c q) {D : Nat} (hD : D ≤ 30000) : ∀ (m k n x s : Nat), k + m = qF q → m < n → PW q D k x s → (∃ y, b_X0_dayOfAllFridays_7 c I n (nI x) (nI s) (nI k) = some (nI y) ∧ D ≤ y ∧ y < D + 1728 ∧ sol q (qF q) y ∧ ∀ u, D ≤ u → u < y → ¬ sol q (qF q) u) ∨ (b_X0_dayOfAllFridays_7 c I n (nI x) (nI s) (nI k) = some (-9) ∧ ∀ u, D ≤ u → ¬ sol q (qF q) u)
  | 0, k, n + 1, x, s, hk, hn, hP => by
    have h3 := hCT.F3
    have hkF : k = qF q := by omega
    subst hkF
    have h12 := p12 h3
    refine Or.inl ⟨x, by rw [b_X0_dayOfAllFridays_7, hCT.2.2.2.1.1, if_pos ((nIle (by omega) (by omega)).mpr (by omega))], hP.2.1, by have := hP.2.2.2.2.2.1; omega, hP.1, fun u h1 h2 h3 => ?_⟩
    obtain ⟨t, ht⟩ := hP.2.2.2.1 u h1 h3
    omega
  | m + 1, k, n + 1, x, s, hk, hn, hP => by
    have h3 := hCT.F3
    have hkF : k < qF q := by omega
    have hm := (hCT.mv hkF).2.2
    have h12 := p12b (show k ≤ 2 by omega)
    have hx : x + 1 ≤ D + 12 ^ k := hP.2.2.2.2.2.1
    have hs : s ≤ 12 ^ k := hP.2.2.2.2.2.2
    have e := e_dayF hCT hkF (show x ≤ 40000 by omega) (show s ≤ 1728 by omega)
    rw [b_X0_dayOfAllFridays_7, hCT.2.2.2.1.1, if_neg (by rw [nIle (by omega) (by omega)]; omega), e, obs]
    cases hf : fnd x s (qmv q k) (qrv q k) (qmv q k) 0 with
    | none =>
      simp only []
      rw [if_pos trivial]
      exact Or.inr ⟨rfl, fun u h1 h2 => hP.stop rfl (by omega) hf u h1 (sol_mono (by omega) h2)⟩
    | some t0 =>
      simp only []
      have hP2 := hP.next rfl (by omega) (by omega) hf
      have hg : 0 < Nat.gcd s (qmv q k) := Nat.gcd_pos_of_pos_left _ hP.2.2.1
      have hgl : Nat.gcd s (qmv q k) ≤ s := Nat.gcd_le_left _ hP.2.2.1
      have ht0 : t0 * s ≤ 12 * 144 := Nat.mul_le_mul (by have := (fnd_some _ _ _ hf).2.2.1; omega) (by omega)
      have hdv : s / Nat.gcd s (qmv q k) ≤ s := Nat.div_le_self _ _
      rw [if_neg (fun h => by
        have := congrArg Int32.toInt h
        rw [nI_toInt (by omega)] at this
        have e9 : (-9 : Int32).toInt = -9 := by decide
        omega), if_pos (vinT (by omega) (by omega)), nIn (by omega), (hCT.mv hkF).1, gcd_eq (by omega) (by omega) hP.2.2.1 (by omega), obs, if_neg (fun h => by have := (nI_0iff (by omega)).mp h; omega), if_pos (vinT (by omega) (by omega)), pk_div (by omega) hg (by omega), pk_mul, lcm_form, nI_1]
      exact l_fri hCT hD m (k + 1) n _ _ (by omega) (by omega) hP2
/-! the model's search -/
def solb (q : Ct) (x : Nat) : Nat → Nat → Bool
  | 0, _ => true
  | m + 1, k => decide (x % qmv q k = qrv q k) && solb q x m (k + 1)
theorem solb_iff {q : Ct} {x : Nat} : ∀ (m k : Nat), solb q x m k = true ↔ ∀ j, k ≤ j → j < k + m → x % qmv q j = qrv q j
  | 0, k => ⟨fun _ j h1 h2 => by omega, fun _ => rfl⟩
  | m + 1, k => by
    rw [solb, Bool.and_eq_true, decide_eq_true_eq, solb_iff m (k + 1)]
    constructor
    · rintro ⟨h1, h2⟩ j h3 h4
      by_cases hj : j = k
      · subst hj; exact h1
      · exact h2 j (by omega) (by omega)
    · intro h
      exact ⟨h k (by omega) (by omega), fun j h1 h2 => h j (by omega) (by omega)⟩
theorem l_w30 (hCT : CT I c q) (k16 : Int32 → Int32 → Option Int32) (x1 : Int32) {x : Nat} (hx : x ≤ 40000) : ∀ (m k n : Nat) (b : Bool), k + m = qF q → m < n → b_X7_when_30 I k16 n x1 (nI x) b (nI k) = b_X7_when_74 I k16 x1 (nI x) (b && solb q x m k)
  | 0, k, n + 1, b, hk, hn => by
    have h3 := hCT.F3
    rw [b_X7_when_30, hCT.2.2.2.1.2.1, if_pos ((nIle (by omega) (by omega)).mpr (by omega)), solb, Bool.and_true]
  | m + 1, k, n + 1, b, hk, hn => by
    have h3 := hCT.F3
    have hkF : k < qF q := by omega
    have hm := (hCT.mv hkF).2.2
    have hr := (hCT.rv hkF).2.2
    have ih := fun b => l_w30 hCT k16 x1 hx m (k + 1) n b (by omega) (by omega)
    have hlt : x % qmv q k < qmv q k := Nat.mod_lt _ (by omega)
    have v3 : vinb (nI k) 3 = true := vinT (by omega) (by omega)
    rw [b_X7_when_30, hCT.2.2.2.1.2.1, if_neg (by rw [nIle (by omega) (by omega)]; omega), solb]
    cases b with
    | false => rw [if_neg (by decide), b_X7_when_66, b_X7_when_67, nI_1, ih]; rfl
    | true =>
      rw [if_pos rfl, if_pos v3, nIn (by omega), (hCT.mv hkF).2.1, if_neg (fun h => by have := (nI_0iff (by omega)).mp h; omega), if_pos v3, pk_rem (by omega) (by omega) (by omega), (hCT.rv hkF).2.1]
      by_cases h1 : x % qmv q k = qrv q k
      · rw [if_pos ((nIeq (by omega) (by omega)).mpr h1), b_X7_when_67, nI_1, ih, decide_eq_true h1]; rfl
      · rw [if_neg (by rw [nIeq (by omega) (by omega)]; exact h1), b_X7_when_66, b_X7_when_67, nI_1, ih, decide_eq_false h1]; rfl
theorem w_step (hCT : CT I c q) {D x n : Nat} (hD : D ≤ 30000) (hx : x < D + 1728) : b_X7_when_16 I (n + 1) (nI D) (nI x) = if solb q x (qF q) 0 = true then some (nI x) else b_X7_when_16 I n (nI D) (nI (x + 1)) := by
  have h3 := hCT.F3
  rw [b_X7_when_16, nIl 1728, nI_add, if_neg (by rw [nIle (by omega) (by omega)]; omega), show (0 : Int32) = nI 0 from rfl, l_w30 hCT (b_X7_when_16 I n) (nI D) (show x ≤ 40000 by omega) (qF q) 0 2000 true (by omega) (by omega), b_X7_when_74, Bool.true_and, nI_1]
theorem sol_b {x : Nat} : solb q x (qF q) 0 = true ↔ sol q (qF q) x := by
  rw [solb_iff]
  constructor
  · intro h j hj; exact h j (by omega) (by omega)
  · intro h j _ hj; exact h j (by omega)
theorem w_some (hCT : CT I c q) {D y : Nat} (hD : D ≤ 30000) (hy : y < D + 1728) (hs : sol q (qF q) y) : ∀ (m x n : Nat), x + m = y → m < n → (∀ u, x ≤ u → u < y → ¬ sol q (qF q) u) → b_X7_when_16 I n (nI D) (nI x) = some (nI y)
  | 0, x, n + 1, hx, hn, hu => by
    rw [w_step hCT hD (by omega), show x = y by omega, if_pos (sol_b.mpr hs)]
  | m + 1, x, n + 1, hx, hn, hu => by
    rw [w_step hCT hD (by omega), if_neg (fun h => hu x (by omega) (by omega) (sol_b.mp h))]
    exact w_some hCT hD hy hs m (x + 1) n (by omega) (by omega) (fun u h1 h2 => hu u (by omega) h2)
theorem w_none (hCT : CT I c q) {D : Nat} (hD : D ≤ 30000) : ∀ (m x n : Nat), x + m = D + 1728 → m < n → (∀ u, x ≤ u → ¬ sol q (qF q) u) → b_X7_when_16 I n (nI D) (nI x) = some (-9)
  | 0, x, n + 1, hx, hn, hu => by
    rw [b_X7_when_16, nIl 1728, nI_add, if_pos ((nIle (by omega) (by omega)).mpr (by omega))]
  | m + 1, x, n + 1, hx, hn, hu => by
    rw [w_step hCT hD (by omega), if_neg (fun h => hu x (by omega) (sol_b.mp h))]
    exact w_none hCT hD m (x + 1) n (by omega) (by omega) (fun u h1 => hu u (by omega))
theorem sim_when (h : Inv c d I L) (x : Int32) : ∃ r, f_X6_when c d I x = some r ∧ f_X7_when I x = some r := by
  obtain ⟨hc, hd, hcd, hL, hT, q, hCT, -⟩ := h
  have h3 := hCT.F3
  rw [f_X6_when, f_X7_when, nIl 30000, rng_eq2 (by decide), in_vin 30001 (by decide) (by decide), obs]
  by_cases hv : vinb x (30000 + 1) = true
  · rw [if_pos hv, if_pos hv]
    obtain ⟨D, hD, _, rfl⟩ := vin_of hv
    have hP : PW q D 0 D 1 := ⟨fun j hj => by omega, Nat.le_refl _, by decide, fun y hy _ => ⟨y - D, by omega⟩, fun t j hj => by omega, by omega, by decide⟩
    have e := l_fri hCT (show D ≤ 30000 by omega) (qF q) 0 2000 D 1 (by omega) (by omega) hP
    rw [f_X0_dayOfAllFridays, nIl 1, show (0 : Int32) = nI 0 from rfl]
    rcases e with ⟨y, e1, e2, e3, e4, e5⟩ | ⟨e1, e2⟩
    · rw [e1, obs]
      exact ⟨_, rfl, w_some hCT (by omega) e3 e4 (y - D) D 2000 (by omega) (by omega) e5⟩
    · rw [e1, obs]
      exact ⟨_, rfl, w_none hCT (by omega) 1728 D 2000 (by omega) (by omega) e2⟩
  · rw [if_neg hv, if_neg hv]
    exact ⟨_, rfl, rfl⟩
end WHEN
