/-! odds: of finitely many -/
def oddsOK (n : Nat) : Bool := (List.range 11).all fun x => (List.range 7).all fun k => (List.range 2).all fun w => decide (f_X6_odds (nI x) (nI n) (nI k) (nI w) = f_X7_odds (nI x) (nI n) (nI k) (nI w)) && (f_X7_odds (nI x) (nI n) (nI k) (nI w)).isSome
theorem odds0 : oddsOK 0 = true := by decide +kernel
theorem odds1 : oddsOK 1 = true := by decide +kernel
theorem odds2 : oddsOK 2 = true := by decide +kernel
theorem odds3 : oddsOK 3 = true := by decide +kernel
theorem odds4 : oddsOK 4 = true := by decide +kernel
theorem odds5 : oddsOK 5 = true := by decide +kernel
theorem odds6 : oddsOK 6 = true := by decide +kernel
theorem oddsAll : ∀ n, n < 7 → oddsOK n = true
  | 0, _ => odds0
  | 1, _ => odds1
  | 2, _ => odds2
  | 3, _ => odds3
  | 4, _ => odds4
  | 5, _ => odds5
  | 6, _ => odds6
  | n + 7, h => by omega
theorem rng_eq4 {α : Type} {x : Int32} {n : Nat} {a b : α} (hn : n < 2147483647) : (if x < (0 : Int32) then a else (if nI n < x then a else b)) = if vinb x (n + 1) = true then b else a := by
  by_cases h : vinb x (n + 1) = true
  · rw [if_pos h]
    obtain ⟨k, h1, h2, rfl⟩ := vin_of h
    rw [if_neg (nIp h2), if_neg (by rw [nIlt (by omega) h2]; omega)]
  · rw [if_neg h]
    by_cases h1 : x < 0
    · rw [if_pos h1]
    · rw [if_neg h1]
      obtain ⟨j, hj, rfl⟩ := nI_of h1
      rw [if_pos]
      rw [nIlt (by omega) hj]
      by_cases h3 : n < j
      · exact h3
      · exact absurd (vinT (by omega) (by omega)) h
theorem sim_odds (x y z w : Int32) : ∃ r, f_X6_odds x y z w = some r ∧ f_X7_odds x y z w = some r := by
  by_cases hx : vinb x 11 = true
  · by_cases hy : vinb y 7 = true
    · by_cases hz : vinb z 7 = true
      · by_cases hw : vinb w 2 = true
        · obtain ⟨a, ha, _, rfl⟩ := vin_of hx
          obtain ⟨b, hb, _, rfl⟩ := vin_of hy
          obtain ⟨e, he, _, rfl⟩ := vin_of hz
          obtain ⟨f, hf, _, rfl⟩ := vin_of hw
          have h1 := List.all_eq_true.mp (oddsAll b hb) a (List.mem_range.mpr ha)
          have h2 := List.all_eq_true.mp h1 e (List.mem_range.mpr he)
          have h3 := List.all_eq_true.mp h2 f (List.mem_range.mpr hf)
          simp only [Bool.and_eq_true, decide_eq_true_eq] at h3
          obtain ⟨r, hr⟩ := Option.isSome_iff_exists.mp h3.2
          exact ⟨r, by rw [h3.1, hr], hr⟩
        · refine ⟨-1, ?_, ?_⟩
          · rw [f_X6_odds, nIl 10, rng_eq4 (by decide), if_pos hx, nIl 6, rng_eq4 (by decide), if_pos hy, rng_eq4 (by decide), if_pos hz, nIl 1, rng_eq2 (by decide), if_neg hw]
          · rw [f_X7_odds, in_vin 11 (by decide) (by decide), obs, if_pos hx, in_vin 7 (by decide) (by decide), obs, if_pos hy, in_vin 7 (by decide) (by decide), obs, if_pos hz, m_isBit, obs, if_neg hw]
      · refine ⟨-1, ?_, ?_⟩
        · rw [f_X6_odds, nIl 10, rng_eq4 (by decide), if_pos hx, nIl 6, rng_eq4 (by decide), if_pos hy, rng_eq4 (by decide), if_neg hz]
        · rw [f_X7_odds, in_vin 11 (by decide) (by decide), obs, if_pos hx, in_vin 7 (by decide) (by decide), obs, if_pos hy, in_vin 7 (by decide) (by decide), obs, if_neg hz]
    · refine ⟨-1, ?_, ?_⟩
      · rw [f_X6_odds, nIl 10, rng_eq4 (by decide), if_pos hx, nIl 6, rng_eq4 (by decide), if_neg hy]
      · rw [f_X7_odds, in_vin 11 (by decide) (by decide), obs, if_pos hx, in_vin 7 (by decide) (by decide), obs, if_neg hy]
  · refine ⟨-1, ?_, ?_⟩
    · rw [f_X6_odds, nIl 10, rng_eq4 (by decide), if_neg hx]
    · rw [f_X7_odds, in_vin 11 (by decide) (by decide), obs, if_neg hx]
