/-! says, minutes -/
section SIMH
variable {c d : Nat} {I J K : Hi} {L : Hl} {q : Ct} {kn nx : Nat}
theorem gd_says (hCT : CT I c q) {l g : Nat} (hl : l < qL q) (hg : g < qG q) : gd q l g = qgv q g &&& qlv q l := by
  rw [gd_eq hl hg, Nat.and_comm]
/-- the cells of the moment after a word: w is where he is, t his minutes, b whether he walks -/
def cS (k w lf pi : Nat) (u : Int32) (b : Nat) (J : Hi) : Hi := fun x y => if x = 15 ∧ y = 1 then nI lf else if x = 15 ∧ y = 2 then nI pi else if x = 16 ∧ y = k then nI w else if x = 17 ∧ y = k ∧ b = 1 then u else if x = 18 ∧ y = k ∧ b = 1 then J 18 k + 1 else J x y
def mS (k w t lf pi : Nat) (b : Nat) (J : Hi) : Hi := fun x y => if x = 83 ∧ y = 1 then nI lf else if x = 83 ∧ y = 2 then nI pi else if x = 83 ∧ y = 3 + k then nI w else if x = 83 ∧ y = 9 + k then nI t else if x = 83 ∧ y = 15 + k ∧ b = 1 then J 83 (15 + k) + 1 else J x y
theorem sim_says (h : Inv c d I L) (x y : Int32) : ∃ r I1 I2, f_X6_says c d I x y = some (r, I1) ∧ f_X7_says I1 x y = some (r, I2) ∧ Inv c d I2 L := by
  have h0 := h
  obtain ⟨hc, hd, hcd, hL, hT, q, hCT, hNW, ⟨kn, nx, hH⟩, hIM, hSN⟩ := h
  have hc3 := isC_r hc
  have h6 := hCT.G6
  have h5 := hCT.L5
  have hN := hNW
  obtain ⟨mi, lf, pi, wh, ti, ⟨a1, a2, a3⟩, ⟨b1, b2, b3⟩, ⟨c1, c2, c3⟩, hg⟩ := hN
  rw [Nat.zero_add] at b2 c2
  rw [f_X6_says, e_hasGoer hCT, obs]
  by_cases hx : vinb x (qG q) = true
  · obtain ⟨k, hk, hk2, rfl⟩ := vin_of hx
    rw [if_pos hx, e_isTaste, obs]
    by_cases hy : vinb y 6 = true
    · obtain ⟨t, ht, ht2, rfl⟩ := vin_of hy
      obtain ⟨⟨w1, w2, w3, w4⟩, w5, w6, w7, w8⟩ := hg k (by omega)
      have w1 : I 16 k = nI (wh k) := w1
      rw [Nat.zero_add] at w2 w5 w6
      have v6 : vinb (nI k) 6 = true := vinT (by omega) (by omega)
      have v3 : vinb (3 + nI k) 21 = true := by rw [nIl 3, nI_add]; exact vinT (by omega) (by omega)
      have n3 : (3 + nI k).toNatClampNeg = 3 + k := by rw [nIl 3, nI_add]; exact nIn (by omega)
      have v9 : vinb (9 + nI k) 21 = true := by rw [nIl 9, nI_add]; exact vinT (by omega) (by omega)
      have n9 : (9 + nI k).toNatClampNeg = 9 + k := by rw [nIl 9, nI_add]; exact nIn (by omega)
      have v15 : vinb (15 + nI k) 21 = true := by rw [nIl 15, nI_add]; exact vinT (by omega) (by omega)
      have n15 : (15 + nI k).toNatClampNeg = 15 + k := by rw [nIl 15, nI_add]; exact nIn (by omega)
      rw [if_pos hy, if_pos v6, nIn hk2, w1]
      by_cases hw : wh k = 1
      · rw [if_pos (by rw [hw]; rfl), hCT.1.1]
        by_cases hz : qL q = 0
        · refine ⟨-2, I, I, by rw [if_pos ((nI_0iff (by omega)).mpr hz)], ?_, h0⟩
          rw [f_X7_says, m_isOne hCT, obs, if_pos hx, m_isTaste, obs, if_pos hy, if_pos v3, n3, w2, if_pos (by rw [hw]; rfl), hCT.1.2.1, if_pos ((nI_0iff (by omega)).mpr hz)]
        · obtain ⟨⟨g1, g2, g3⟩, ⟨g4, g5⟩, -⟩ := id hH
          have hlf : lf < qL q := by omega
          obtain ⟨N, hN1, hN2⟩ : 1 ≤ qN q ∧ qN q ≤ 9 ∧ True := ⟨hCT.2.2.2.2.1.2.2.1, hCT.2.2.2.2.1.2.2.2, trivial⟩
          have hRF : ∀ a b, a ≠ 19 → (a < 21 ∨ 60 < a) → rem nx kn I a b = I a b := fun a b k1 k2 => rem_F g5 ⟨k1, k2⟩
          have hRCT : CT (rem nx kn I) c q := hCT.fr (fun a b h => by unfold KC at h; exact hRF _ _ (by omega) (by omega))
          have hg64 : qgv q k &&& qlv q lf < 64 := and_lt64 (hCT.gv hk).2.2
          have r15 : rem nx kn I 15 1 = nI lf := by rw [hRF _ _ (by decide) (by decide)]; exact b1
          generalize hb : (qgv q k &&& qlv q lf).testBit t = b
          generalize hlf2 : (lf + 1) % qL q = lf2
          have hlf2b : lf2 < qL q := by rw [← hlf2]; exact Nat.mod_lt _ (by omega)
          have cl : f_X6_says c d I (nI k) (nI t) = some (bI b, cS k (if b = true then 3 else 2) lf2 (min 999 (pi + 1)) (nI (mi + qN q)) (if b = true then 0 else 1) (rem nx kn I)) := by
            sorry
          sorry
      · refine ⟨-2, I, I, by rw [if_neg (fun h => hw ((nIeq (by omega) (by omega)).mp h))], ?_, h0⟩
        rw [f_X7_says, m_isOne hCT, obs, if_pos hx, m_isTaste, obs, if_pos hy, if_pos v3, n3, w2, if_neg (fun h => hw ((nIeq (by omega) (by omega)).mp h))]
    · refine ⟨-1, I, I, by rw [if_neg hy], ?_, h0⟩
      rw [f_X7_says, m_isOne hCT, obs, if_pos hx, m_isTaste, obs, if_neg hy]
  · refine ⟨-1, I, I, by rw [if_neg hx], ?_, h0⟩
    rw [f_X7_says, m_isOne hCT, obs, if_neg hx]
end SIMH
