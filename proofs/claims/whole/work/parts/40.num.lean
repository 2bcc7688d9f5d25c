/-! numbers -/
theorem nIl (n : Nat) : (OfNat.ofNat n : Int32) = nI n := rfl
theorem lNl (n : Nat) : (OfNat.ofNat n : Int64) = lN n := rfl
theorem nIle {a b : Nat} (ha : a < 2147483648) (hb : b < 2147483648) : nI a ≤ nI b ↔ a ≤ b := nI_leI ha hb
theorem nIlt {a b : Nat} (ha : a < 2147483648) (hb : b < 2147483648) : nI a < nI b ↔ a < b := nI_ltI ha hb
theorem nIeq {a b : Nat} (ha : a < 2147483648) (hb : b < 2147483648) : nI a = nI b ↔ a = b := nI_eq ha hb
theorem nIn {n : Nat} (h : n < 2147483648) : (nI n).toNatClampNeg = n := nI_clamp h
theorem nIp {n : Nat} (h : n < 2147483648) : ¬ nI n < 0 := nI_pos h
theorem vinT {k n : Nat} (h : k < n) (hn : n < 2147483648) : vinb (nI k) n = true := vinb_nI h hn
theorem vinF {k n : Nat} (h : n ≤ k) (hk : k < 2147483648) : vinb (nI k) n = false := by
  cases hv : vinb (nI k) n with
  | false => rfl
  | true =>
    have := vinb_lt hv
    rw [nIn hk] at this
    omega
theorem vin_of {x : Int32} {n : Nat} (h : vinb x n = true) : ∃ k, k < n ∧ k < 2147483648 ∧ x = nI k := by
  have h1 : ¬ x < 0 := by
    simp only [vinb, Bool.and_eq_true, Bool.not_eq_true', decide_eq_false_iff_not] at h
    exact h.1
  obtain ⟨j, hj, rfl⟩ := nI_of h1
  have h2 := vinb_lt h
  rw [nIn hj] at h2
  exact ⟨j, h2, hj, rfl⟩
theorem vin_iff {x : Int32} {n : Nat} (hn : n < 2147483648) : vinb x n = true ↔ (¬ x < 0 ∧ ¬ nI n ≤ x) := by
  constructor
  · intro h
    obtain ⟨k, h1, h2, rfl⟩ := vin_of h
    exact ⟨nIp h2, by rw [nIle hn h2]; omega⟩
  · rintro ⟨h1, h2⟩
    obtain ⟨j, hj, rfl⟩ := nI_of h1
    rw [nIle hn hj] at h2
    exact vinT (by omega) hn
/-- a test of a range, as branches -/
theorem rng_eq {α : Type} {x : Int32} {n : Nat} {a b : α} (hn : n < 2147483648) : (if x < (0 : Int32) then a else (if nI n ≤ x then a else b)) = if vinb x n = true then b else a := by
  by_cases h : vinb x n = true
  · rw [if_pos h]
    obtain ⟨h1, h2⟩ := (vin_iff hn).mp h
    rw [if_neg h1, if_neg h2]
  · rw [if_neg h]
    by_cases h1 : x < 0
    · rw [if_pos h1]
    · rw [if_neg h1]
      by_cases h2 : nI n ≤ x
      · rw [if_pos h2]
      · exact absurd ((vin_iff hn).mpr ⟨h1, h2⟩) h
theorem b_eta (b : Bool) : (if b = true then some true else some false) = some b := by cases b <;> rfl
theorem b_eta' (b : Bool) : (if b = true then some false else some true) = some (!b) := by cases b <;> rfl
/-! longs -/
theorem cmp_lt {x y : Int64} : lg_cmp x y < 0 ↔ x.toInt < y.toInt := by
  unfold lg_cmp
  by_cases h1 : x > y
  · rw [if_pos h1]
    have h1 : y < x := h1
    have := Int64.lt_iff_toInt_lt.mp h1
    constructor
    · intro h; exact absurd h (by decide)
    · intro h; omega
  · rw [if_neg h1]
    have h1 : ¬ y < x := h1
    have h2 : ¬ y.toInt < x.toInt := fun h => h1 (Int64.lt_iff_toInt_lt.mpr h)
    by_cases h3 : x = y
    · rw [if_pos h3]
      subst h3
      constructor
      · intro h; exact absurd h (by decide)
      · intro h; omega
    · rw [if_neg h3]
      have h4 : ¬ x.toInt = y.toInt := fun h => h3 (Int64.toInt_inj.mp h)
      constructor
      · intro _; omega
      · intro _; decide
theorem cmp_gt {x y : Int64} : 0 < lg_cmp x y ↔ y.toInt < x.toInt := by
  unfold lg_cmp
  by_cases h1 : x > y
  · rw [if_pos h1]
    have h1 : y < x := h1
    have := Int64.lt_iff_toInt_lt.mp h1
    constructor
    · intro _; omega
    · intro _; decide
  · rw [if_neg h1]
    have h1 : ¬ y < x := h1
    have h2 : ¬ y.toInt < x.toInt := fun h => h1 (Int64.lt_iff_toInt_lt.mpr h)
    by_cases h3 : x = y
    · rw [if_pos h3]
      constructor
      · intro h; exact absurd h (by decide)
      · intro h; omega
    · rw [if_neg h3]
      constructor
      · intro h; exact absurd h (by decide)
      · intro h; omega
theorem cmp_eq0 {x y : Int64} : lg_cmp x y = 0 ↔ x = y := by
  unfold lg_cmp
  by_cases h1 : x > y
  · rw [if_pos h1]
    have h1 : y < x := h1
    have := Int64.lt_iff_toInt_lt.mp h1
    constructor
    · intro h; exact absurd h (by decide)
    · intro h; subst h; omega
  · rw [if_neg h1]
    by_cases h3 : x = y
    · rw [if_pos h3]; exact ⟨fun _ => h3, fun _ => rfl⟩
    · rw [if_neg h3]
      exact ⟨fun h => absurd h (by decide), fun h => absurd h h3⟩
theorem in_eq (a b c : Int64) : f_X7_in a b c = some (decide (b.toInt ≤ a.toInt) && decide (a.toInt ≤ c.toInt)) := by
  rw [f_X7_in]
  by_cases h1 : lg_cmp a b < 0
  · rw [if_pos h1]
    have := cmp_lt.mp h1
    rw [decide_eq_false (by omega)]
    rfl
  · rw [if_neg h1]
    have h1 : ¬ a.toInt < b.toInt := fun h => h1 (cmp_lt.mpr h)
    by_cases h2 : 0 < lg_cmp a c
    · rw [if_pos h2]
      have := cmp_gt.mp h2
      rw [decide_eq_false (p := a.toInt ≤ c.toInt) (by omega), Bool.and_false]
    · rw [if_neg h2]
      have h2 : ¬ c.toInt < a.toInt := fun h => h2 (cmp_gt.mpr h)
      rw [decide_eq_true (by omega), decide_eq_true (by omega)]
      rfl
theorem toL (x : Int32) : (x.toInt64).toInt = x.toInt := Int32.toInt_toInt64 x
theorem in_vin {x : Int32} {h : Int64} (n : Nat) (hh : h.toInt = (n : Int) - 1) (hn : n < 2147483648) : f_X7_in x.toInt64 0 h = some (vinb x n) := by
  rw [in_eq, toL, hh]
  congr 1
  have e0 : (0 : Int64).toInt = 0 := by decide
  rw [e0]
  cases hv : vinb x n with
  | true =>
    obtain ⟨k, h1, h2, rfl⟩ := vin_of hv
    rw [nI_toInt h2, decide_eq_true (by omega), decide_eq_true (by omega)]
    rfl
  | false =>
    by_cases h1 : (0 : Int) ≤ x.toInt
    · by_cases h2 : x.toInt ≤ (n : Int) - 1
      · exfalso
        have h3 : ¬ x < 0 := fun h => by
          have := Int32.lt_iff_toInt_lt.mp h
          rw [Int32.toInt_zero] at this
          omega
        obtain ⟨j, hj, rfl⟩ := nI_of h3
        rw [nI_toInt hj] at h2
        rw [vinT (by omega) hn] at hv
        cases hv
      · rw [decide_eq_false h2, Bool.and_false]
    · rw [decide_eq_false h1, Bool.false_and]
theorem pred_toInt {n : Nat} (h : n < 2147483648) : ((nI n - 1).toInt64).toInt = (n : Int) - 1 := by
  rw [toL]
  cases n with
  | zero => decide
  | succ n => rw [nI_pred, nI_toInt (by omega)]; omega
/-! bits -/
theorem nIand (a b : Nat) : nI a &&& nI b = nI (a &&& b) := by
  apply Int32.toBitVec_inj.mp
  show BitVec.ofNat 32 a &&& BitVec.ofNat 32 b = BitVec.ofNat 32 (a &&& b)
  rw [BitVec.ofNat_and]
theorem nIor (a b : Nat) : nI a ||| nI b = nI (a ||| b) := by
  apply Int32.toBitVec_inj.mp
  show BitVec.ofNat 32 a ||| BitVec.ofNat 32 b = BitVec.ofNat 32 (a ||| b)
  rw [BitVec.ofNat_or]
theorem shl1_all : ((List.range 31).all fun k => decide ((1 : Int32) <<< (nI k &&& 31) = nI (2 ^ k))) = true := by decide +kernel
theorem shl1 {k : Nat} (h : k < 31) : (1 : Int32) <<< (nI k &&& 31) = nI (2 ^ k) := by
  have := List.all_eq_true.mp shl1_all k (List.mem_range.mpr h)
  simpa using this
theorem sm_all : ((List.range 31).all fun k => decide (((nI k &&& 31).toBitVec.smod 32).toNat = k)) = true := by decide +kernel
theorem shrN {a k : Nat} (ha : a < 2147483648) (h : k < 31) : nI a >>> (nI k &&& 31) = nI (a / 2 ^ k) := by
  have := List.all_eq_true.mp sm_all k (List.mem_range.mpr h)
  exact pk_shrN ha _ k (by simpa using this)
theorem land1 (n : Nat) : n &&& 1 = n % 2 := Nat.and_one_is_mod n
theorem tstb {a k : Nat} : (a / 2 ^ k) % 2 = 1 ↔ a.testBit k = true := by
  rw [Nat.testBit_eq_decide_div_mod_eq, decide_eq_true_eq]
theorem has_eq {a k : Nat} (ha : a < 2147483648) (h : k < 31) : f_X6_hasBit (nI a) (nI k) = some (a.testBit k) := by
  rw [f_X6_hasBit, shrN ha h, nIl 1, nIand, land1]
  have hb : a / 2 ^ k % 2 < 2 := Nat.mod_lt _ (by decide)
  cases ht : a.testBit k with
  | true => rw [if_pos ((nIeq (by omega) (by omega)).mpr (tstb.mpr ht))]
  | false =>
    rw [if_neg]
    intro h1
    have := tstb.mp ((nIeq (by omega) (by omega)).mp h1)
    rw [ht] at this
    cases this
theorem mhas_eq {a k : Nat} (ha : a < 2147483648) (h : k < 31) : f_X7_has (nI a) (nI k) = some (a.testBit k) := has_eq ha h
/-- how many bits -/
def pc (a : Nat) : Nat := ((List.range 6).filter fun k => a.testBit k).length
theorem bc_all : ((List.range 64).all fun a => decide (f_J6_bitCount_0f7a4 (nI a) = some (nI (pc a)))) = true := by decide +kernel
theorem bc_eq {a : Nat} (h : a < 64) : f_J6_bitCount_0f7a4 (nI a) = some (nI (pc a)) := by
  have := List.all_eq_true.mp bc_all a (List.mem_range.mpr h)
  simpa using this
theorem mb_all : ((List.range 64).all fun a => decide (f_X7_bits (nI a) = some (nI (pc a)))) = true := by decide +kernel
theorem mb_eq {a : Nat} (h : a < 64) : f_X7_bits (nI a) = some (nI (pc a)) := by
  have := List.all_eq_true.mp mb_all a (List.mem_range.mpr h)
  simpa using this
theorem pc_le (a : Nat) : pc a ≤ 6 := by
  have := List.length_filter_le (fun k => a.testBit k) (List.range 6)
  rw [List.length_range] at this
  exact this
/-- the bits at which p holds -/
def bm (p : Nat → Bool) : Nat → Nat
  | 0 => 0
  | n + 1 => bm p n ||| (if p n = true then 2 ^ n else 0)
theorem bm_lt (p : Nat → Bool) : ∀ n, bm p n < 2 ^ n
  | 0 => Nat.zero_lt_one
  | n + 1 => by
    have h := bm_lt p n
    have h2 : 2 ^ n ≤ 2 ^ (n + 1) := Nat.pow_le_pow_right (by decide) (by omega)
    refine Nat.or_lt_two_pow (Nat.lt_of_lt_of_le h h2) ?_
    split
    · exact Nat.pow_lt_pow_right (by decide) (by omega)
    · exact Nat.two_pow_pos _
theorem bm_test (p : Nat → Bool) : ∀ (n k : Nat), (bm p n).testBit k = (decide (k < n) && p k)
  | 0, k => by simp [bm]
  | n + 1, k => by
    simp only [bm, Nat.testBit_or, bm_test p n k]
    by_cases hp : p n = true
    · rw [if_pos hp, Nat.testBit_two_pow]
      by_cases hk : n = k
      · subst hk; simp [hp]
      · have : decide (k < n + 1) = decide (k < n) := by
          apply decide_eq_decide.mpr; omega
        rw [this]; simp [hk]
    · rw [if_neg hp, Nat.zero_testBit, Bool.or_false]
      by_cases hk : n = k
      · subst hk; simp [hp]
      · have : decide (k < n + 1) = decide (k < n) := by
          apply decide_eq_decide.mpr; omega
        rw [this]
theorem bm_congr {p q : Nat → Bool} : ∀ (n : Nat), (∀ k, k < n → p k = q k) → bm p n = bm q n
  | 0, _ => rfl
  | n + 1, h => by rw [bm, bm, bm_congr n (fun k hk => h k (by omega)), h n (by omega)]
