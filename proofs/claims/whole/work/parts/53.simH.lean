/-! says, minutes -/
section SIMH
variable {c d : Nat} {I J K : Hi} {L : Hl} {q : Ct} {kn nx : Nat}
theorem gd_says (hCT : CT I c q) {l g : Nat} (hl : l < qL q) (hg : g < qG q) : gd q l g = qgv q g &&& qlv q l := by
  rw [gd_eq hl hg, Nat.and_comm]
theorem nw_set {mi lf pi k lf2 pi2 w t : Nat} {wh ti : Nat → Nat} (h : NwI I (qL q) (qG q) 15 83 0 mi lf pi wh ti) (hk : k < qG q) (e0 : K 15 0 = I 15 0) (m0 : K 83 0 = I 83 0) (e1 : K 15 1 = nI lf2) (m1 : K 83 1 = nI lf2) (hl : lf2 < qL q) (e2 : K 15 2 = nI pi2) (m2 : K 83 2 = nI pi2) (hp : pi2 ≤ 999) (hg : ∀ g, g ≠ k → K 16 g = I 16 g ∧ K 17 g = I 17 g ∧ K 18 g = I 18 g) (hm : ∀ g, g < 6 → g ≠ k → K 83 (3 + g) = I 83 (3 + g) ∧ K 83 (9 + g) = I 83 (9 + g) ∧ K 83 (15 + g) = I 83 (15 + g)) (k1 : K 16 k = nI w) (k2 : K 83 (3 + k) = nI w) (kw : w ≤ 3) (k3 : K 83 (9 + k) = nI t) (k4 : K 18 k = K 83 (15 + k)) (k5 : w = 2 → 1 ≤ t ∧ t ≤ 9 ∧ K 17 k = nI (mi + t)) (k6 : w ≠ 2 → t = 0) : NW K q := by
  obtain ⟨⟨a1, a2, a3⟩, ⟨b1, b2, b3⟩, ⟨c1, c2, c3⟩, h⟩ := h
  refine ⟨mi, lf2, pi2, fun g => if g = k then w else wh g, fun g => if g = k then t else ti g, ⟨e0.trans a1, m0.trans a2, a3⟩, ⟨e1, m1, Or.inl hl⟩, ⟨e2, m2, hp⟩, fun g hg6 => ?_⟩
  obtain ⟨⟨z1, z2, z3, z4⟩, z5, z6, z7, z8⟩ := h g hg6
  rw [Nat.zero_add, Nat.zero_add, Nat.zero_add]
  rw [Nat.zero_add] at z2 z5 z6
  by_cases hgk : g = k
  · subst hgk
    simp only [if_true, eq_self]
    exact ⟨⟨k1, k2, kw, fun h => by omega⟩, k4, k3, k5, k6⟩
  · simp only [if_neg hgk]
    obtain ⟨p1, p2, p3⟩ := hg g hgk
    obtain ⟨q1, q2, q3⟩ := hm g hg6 hgk
    exact ⟨⟨p1.trans z1, q1.trans z2, z3, z4⟩, (p3.trans z5).trans q3.symm, q2.trans z6, fun h => ⟨(z7 h).1, (z7 h).2.1, p2.trans (z7 h).2.2⟩, z8⟩
theorem e_says109 (hCT : CT J c q) {lf pi : Nat} (b : Bool) (h1 : J 15 1 = nI lf) (hl : lf < qL q) (h2 : J 15 2 = nI pi) (hp : pi ≤ 999) : b_X6_says_109 c d J b = some (if b = true then 1 else 0, u2 (u2 J 15 1 (nI ((lf + 1) % qL q))) 15 2 (nI (min 999 (pi + 1)))) := by
  have h5 := hCT.L5
  rw [b_X6_says_109, h1, show f_X0_leafBehind c J (nI lf) 1 = _ from e_leafBehind hCT (a := lf) (b := 1) (by omega) (by omega), if_neg (by omega), obs, obs, u2_c (by decide), h2, nI_1, nIl 999, jmin_nI (by omega) (by omega), obs]
  cases b <;> rfl
theorem e_says168 (b b2 : Bool) {v : Int32} {p : Nat} (hp : p < 21) : b_X7_says_168 J b b2 v (nI p) = some (if b = true then 1 else 0, u2 J 83 p (v + bI b2)) := by
  rw [b_X7_says_168, if_pos (vinT hp (by omega)), nIn (by omega), obs]
  cases b <;> rfl
theorem e_says123 {lf pi l0 p : Nat} (b b2 : Bool) {v : Int32} (hz : J 77 0 = nI l0) (h0 : 0 < l0) (h5 : l0 ≤ 5) (h1 : J 83 1 = nI lf) (hl : lf < l0) (h2 : J 83 2 = nI pi) (hp : pi ≤ 999) (hq : p < 21) (hq2 : 15 ≤ p) : b_X7_says_123 J b b2 v (nI p) = some (if b = true then 1 else 0, u2 (u2 (u2 J 83 p (v + bI b2)) 83 1 (nI ((lf + 1) % l0))) 83 2 (nI (min 999 (pi + 1)))) := by
  have e1 : u2 J 83 p (v + bI b2) 83 1 = nI lf := by rw [u2_c (by omega)]; exact h1
  have e0 : u2 J 83 p (v + bI b2) 77 0 = nI l0 := by rw [u2_r (by decide)]; exact hz
  have e2 : u2 (u2 J 83 p (v + bI b2)) 83 1 (nI ((lf + 1) % l0)) 83 2 = nI pi := by rw [u2_c (by decide), u2_c (by omega)]; exact h2
  have t1 : vinb 1 21 = true := by decide
  have t2 : vinb 2 21 = true := by decide
  have u1 : (1 : Int32).toNatClampNeg = 1 := by decide
  have u2' : (2 : Int32).toNatClampNeg = 2 := by decide
  rw [b_X7_says_123, if_pos (vinT hq (by omega)), nIn (by omega), obs, if_pos t1, u1, e0, e1, if_neg (fun h => by have := (nI_0iff (by omega)).mp h; omega), if_pos t1, nI_1, pk_rem (by omega) (by omega) (by omega), obs, if_pos t2, if_pos t2, u2', e2, nIl 999]
  by_cases h9 : 999 ≤ pi
  · rw [if_pos ((nIle (by omega) (by omega)).mpr h9), show (2 : Int32) = nI 2 from rfl, e_says168 _ _ (by decide), show nI pi + bI false = nI (min 999 (pi + 1)) by rw [show min 999 (pi + 1) = pi by omega]; exact Int32.add_zero _]
  · rw [if_neg (by rw [nIle (by omega) (by omega)]; exact h9), show (2 : Int32) = nI 2 from rfl, e_says168 _ _ (by decide), show nI pi + bI true = nI (min 999 (pi + 1)) by rw [show min 999 (pi + 1) = pi + 1 by omega]; exact nI_1 _]
theorem e_says82 {lf pi l0 k w N : Nat} (b : Bool) (hk : k < 6) (hN : J 77 9 = nI N) (hz : J 77 0 = nI l0) (h0 : 0 < l0) (h5 : l0 ≤ 5) (h1 : J 83 1 = nI lf) (hl : lf < l0) (h2 : J 83 2 = nI pi) (hp : pi ≤ 999) : b_X7_says_82 J (nI k) b (nI w) (3 + nI k) = some (if b = true then 1 else 0, u2 (u2 (u2 (u2 (u2 J 83 (3 + k) (nI w)) 83 (9 + k) (nI (if b = true then 0 else N))) 83 (15 + k) (J 83 (15 + k) + bI (!b))) 83 1 (nI ((lf + 1) % l0))) 83 2 (nI (min 999 (pi + 1)))) := by
  have v15 : vinb (nI (15 + k)) 21 = true := vinT (by omega) (by omega)
  rw [b_X7_says_82, nIl 3, nI_add, if_pos (vinT (by omega) (by omega)), nIn (by omega), obs, u2_r (by decide), hN, nIl 9, nI_add]
  have key : ∀ t b2, (if b = true then b_X7_says_123 (u2 (u2 J 83 (3 + k) (nI w)) 83 (9 + k) t) b false (J 83 (15 + k)) (nI (15 + k)) else b_X7_says_123 (u2 (u2 J 83 (3 + k) (nI w)) 83 (9 + k) t) b true (J 83 (15 + k)) (nI (15 + k))) = some (if b = true then 1 else 0, u2 (u2 (u2 (u2 (u2 J 83 (3 + k) (nI w)) 83 (9 + k) t) 83 (15 + k) (J 83 (15 + k) + bI b2)) 83 1 (nI ((lf + 1) % l0))) 83 2 (nI (min 999 (pi + 1)))) ∨ b2 = b := by
    intro t b2
    have f0 : u2 (u2 J 83 (3 + k) (nI w)) 83 (9 + k) t 77 0 = nI l0 := by rw [u2_r (by decide), u2_r (by decide)]; exact hz
    have f1 : u2 (u2 J 83 (3 + k) (nI w)) 83 (9 + k) t 83 1 = nI lf := by rw [u2_c (by omega), u2_c (by omega)]; exact h1
    have f2 : u2 (u2 J 83 (3 + k) (nI w)) 83 (9 + k) t 83 2 = nI pi := by rw [u2_c (by omega), u2_c (by omega)]; exact h2
    cases b with
    | true =>
      cases b2 with
      | true => exact Or.inr rfl
      | false => exact Or.inl (by rw [if_pos rfl, e_says123 _ _ f0 h0 h5 f1 hl f2 hp (by omega) (by omega)])
    | false =>
      cases b2 with
      | false => exact Or.inr rfl
      | true => exact Or.inl (by rw [if_neg (by decide), e_says123 _ _ f0 h0 h5 f1 hl f2 hp (by omega) (by omega)])
  have f15 : ∀ t, u2 (u2 J 83 (3 + k) (nI w)) 83 (9 + k) t 83 (15 + k) = J 83 (15 + k) := fun t => by rw [u2_c (by omega), u2_c (by omega)]
  have v9 : vinb (nI (9 + k)) 21 = true := vinT (by omega) (by omega)
  have body : ∀ t, b_X7_says_103 (u2 J 83 (3 + k) (nI w)) (nI k) b t (nI (9 + k)) = some (if b = true then 1 else 0, u2 (u2 (u2 (u2 (u2 J 83 (3 + k) (nI w)) 83 (9 + k) t) 83 (15 + k) (J 83 (15 + k) + bI (!b))) 83 1 (nI ((lf + 1) % l0))) 83 2 (nI (min 999 (pi + 1)))) := by
    intro t
    rw [b_X7_says_103, if_pos v9, nIn (by omega), obs, nIl 15, nI_add, if_pos v15, nIn (by omega), f15]
    rcases key t (!b) with h | h
    · exact h
    · cases b <;> cases h
  cases b with
  | true => rw [if_pos rfl, show (0 : Int32) = nI 0 from rfl, body]; rfl
  | false => rw [if_neg (by decide), body]; rfl
theorem sim_says (h : Inv c d I L) (x y : Int32) : ∃ r I1 I2, f_X6_says c d I x y = some (r, I1) ∧ f_X7_says I1 x y = some (r, I2) ∧ Inv c d I2 L := by
  have h0 := h
  obtain ⟨hc, hd, hcd, hL, hT, q, hCT, hNW, ⟨kn, nx, hH⟩, hIM, hSN⟩ := h
  have hc3 := isC_r hc
  have h6 := hCT.G6
  have h5 := hCT.L5
  have hN := hNW
  obtain ⟨mi, lf, pi, wh, ti, ⟨a1, a2, a3⟩, ⟨b1, b2, b3⟩, ⟨c1, c2, c3⟩, hg⟩ := hN
  rw [Nat.zero_add] at b2 c2
  rw [f_X6_says, e_hasGoer hCT, obs]
  by_cases hx : vinb x (qG q) = true
  · obtain ⟨k, hk, hk2, rfl⟩ := vin_of hx
    rw [if_pos hx, e_isTaste, obs]
    by_cases hy : vinb y 6 = true
    · obtain ⟨t, ht, ht2, rfl⟩ := vin_of hy
      obtain ⟨⟨w1, w2, w3, w4⟩, w5, w6, w7, w8⟩ := hg k (by omega)
      have w1 : I 16 k = nI (wh k) := w1
      rw [Nat.zero_add] at w2 w5 w6
      have v6 : vinb (nI k) 6 = true := vinT (by omega) (by omega)
      have v3 : vinb (3 + nI k) 21 = true := by rw [nIl 3, nI_add]; exact vinT (by omega) (by omega)
      have n3 : (3 + nI k).toNatClampNeg = 3 + k := by rw [nIl 3, nI_add]; exact nIn (by omega)
      have v9 : vinb (9 + nI k) 21 = true := by rw [nIl 9, nI_add]; exact vinT (by omega) (by omega)
      have n9 : (9 + nI k).toNatClampNeg = 9 + k := by rw [nIl 9, nI_add]; exact nIn (by omega)
      have v15 : vinb (15 + nI k) 21 = true := by rw [nIl 15, nI_add]; exact vinT (by omega) (by omega)
      have n15 : (15 + nI k).toNatClampNeg = 15 + k := by rw [nIl 15, nI_add]; exact nIn (by omega)
      rw [if_pos hy, if_pos v6, nIn hk2, w1]
      by_cases hw : wh k = 1
      · rw [if_pos (by rw [hw]; rfl), hCT.1.1]
        by_cases hz : qL q = 0
        · refine ⟨-2, I, I, by rw [if_pos ((nI_0iff (by omega)).mpr hz)], ?_, h0⟩
          rw [f_X7_says, m_isOne hCT, obs, if_pos hx, m_isTaste, obs, if_pos hy, if_pos v3, n3, w2, if_pos (by rw [hw]; rfl), hCT.1.2.1, if_pos ((nI_0iff (by omega)).mpr hz)]
        · obtain ⟨⟨g1, g2, g3⟩, ⟨g4, g5⟩, -⟩ := id hH
          have hlf : lf < qL q := by omega
          have hN1 : 1 ≤ qN q := hCT.2.2.2.2.1.2.2.1
          have hN2 : qN q ≤ 9 := hCT.2.2.2.2.1.2.2.2
          generalize hR : rem nx kn I = R
          have hRF : ∀ a b, a ≠ 19 → (a < 21 ∨ 60 < a) → R a b = I a b := fun a b k1 k2 => by rw [← hR]; exact rem_F g5 ⟨k1, k2⟩
          have hRCT : CT R c q := hCT.fr (fun a b h => by unfold KC at h; exact hRF _ _ (by omega) (by omega))
          have hRR : RC nx kn I R := by rw [← hR]; exact rem_RC g5
          have hg64 : qgv q k &&& qlv q lf < 64 := and_lt64 (hCT.gv hk).2.2
          have r0 : R 15 0 = nI mi := by rw [hRF _ _ (by decide) (by decide)]; exact a1
          have r1 : R 15 1 = nI lf := by rw [hRF _ _ (by decide) (by decide)]; exact b1
          have r2 : R 15 2 = nI pi := by rw [hRF _ _ (by decide) (by decide)]; exact c1
          have hlf2b : (lf + 1) % qL q < qL q := Nat.mod_lt _ (by omega)
          have v1 : vinb 1 21 = true := by decide
          have u1 : (1 : Int32).toNatClampNeg = 1 := by decide
          have mod : ∀ C : Hi, (∀ a b, a ≠ 19 → (a < 15 ∨ 18 < a) → (a < 21 ∨ 60 < a) → C a b = I a b) → ∀ b, (qgv q k &&& qlv q lf).testBit t = b → f_X7_says C (nI k) (nI t) = some (if b = true then 1 else 0, u2 (u2 (u2 (u2 (u2 (nts kn C) 83 (3 + k) (nI (if b = true then 3 else 2))) 83 (9 + k) (nI (if b = true then 0 else qN q))) 83 (15 + k) (I 83 (15 + k) + bI (!b))) 83 1 (nI ((lf + 1) % qL q))) 83 2 (nI (min 999 (pi + 1)))) := by
            intro C hC b hb
            have d2 : C 77 2 = nI (qG q) := by rw [hC _ _ (by decide) (by decide) (by decide)]; exact hCT.2.1.2.1
            have d0 : C 77 0 = nI (qL q) := by rw [hC _ _ (by decide) (by decide) (by decide)]; exact hCT.1.2.1
            have d3 : C 83 (3 + k) = nI (wh k) := by rw [hC _ _ (by decide) (by decide) (by decide)]; exact w2
            have d12 : C 77 12 = nI kn := by rw [hC _ _ (by decide) (by decide) (by decide)]; exact g2
            have nF : ∀ a b, a ≠ 84 → ¬ (a = 77 ∧ b = 12) → a ≠ 19 → (a < 15 ∨ 18 < a) → (a < 21 ∨ 60 < a) → nts kn C a b = I a b := fun a b k1 k2 k3 k4 k5 => by rw [nts_F g3 ⟨k1, k2⟩, hC _ _ k3 k4 k5]
            have n1 : nts kn C 83 1 = nI lf := by rw [nF _ _ (by decide) (by decide) (by decide) (by decide) (by decide)]; exact b2
            have n2 : nts kn C 83 2 = nI pi := by rw [nF _ _ (by decide) (by decide) (by decide) (by decide) (by decide)]; exact c2
            have n79 : nts kn C 79 k = nI (qgv q k) := by rw [nF _ _ (by decide) (by omega) (by decide) (by decide) (by decide)]; exact (hCT.gv hk).2.1
            have n78 : nts kn C 78 lf = nI (qlv q lf) := by rw [nF _ _ (by decide) (by omega) (by decide) (by decide) (by decide)]; exact (hCT.lv hlf).2.1
            have n7 : nts kn C 77 0 = nI (qL q) := by rw [nF _ _ (by decide) (by omega) (by decide) (by decide) (by decide)]; exact hCT.1.2.1
            have n9 : nts kn C 77 9 = nI (qN q) := by rw [nF _ _ (by decide) (by omega) (by decide) (by decide) (by decide)]; exact hCT.2.2.2.2.1.2.1
            have n15 : nts kn C 83 (15 + k) = I 83 (15 + k) := nF _ _ (by decide) (by omega) (by decide) (by decide) (by decide)
            rw [f_X7_says, f_X7_isOne, d2, in_vin (qG q) (pred_toInt (by omega)) (by omega), obs, obs, if_pos hx, m_isTaste, obs, if_pos hy, if_pos v3, n3, d3, if_pos (by rw [hw]; rfl), d0, if_neg (fun h => hz ((nI_0iff (by omega)).mp h)), e_notes d12 g3, obs, if_pos v6, if_pos v1, u1, n1, if_pos (vinT (by omega) (by omega)), nIn hk2, nIn (by omega), n79, n78, nIand, mhas_eq (by omega) (by omega), obs, hb, ← n15]
            cases b with
            | true => rw [if_pos rfl]; exact e_says82 true (w := 3) (by omega) n9 n7 (by omega) h5 n1 hlf n2 c3
            | false => rw [if_neg (by decide)]; exact e_says82 false (w := 2) (by omega) n9 n7 (by omega) h5 n1 hlf n2 c3
          have fin : ∀ (C K : Hi) (b : Bool), (∀ a b, a ≠ 19 → (a < 15 ∨ 18 < a) → (a < 21 ∨ 60 < a) → C a b = I a b) → (∀ a b, (a = 19 ∨ (21 ≤ a ∧ a ≤ 60)) → C a b = R a b) → K = u2 (u2 (u2 (u2 (u2 (nts kn C) 83 (3 + k) (nI (if b = true then 3 else 2))) 83 (9 + k) (nI (if b = true then 0 else qN q))) 83 (15 + k) (I 83 (15 + k) + bI (!b))) 83 1 (nI ((lf + 1) % qL q))) 83 2 (nI (min 999 (pi + 1))) → C 15 0 = I 15 0 → C 15 1 = nI ((lf + 1) % qL q) → C 15 2 = nI (min 999 (pi + 1)) → (∀ g, g ≠ k → C 16 g = I 16 g ∧ C 17 g = I 17 g ∧ C 18 g = I 18 g) → C 16 k = nI (if b = true then 3 else 2) → (b = false → C 17 k = nI (mi + qN q)) → C 18 k = I 18 k + bI (!b) → Inv c d K L := by
            intro C K b hC hC2 hK o0 o1 o2 o3 o4 o5 o6
            have kC : ∀ a b, a ≠ 83 → a ≠ 84 → ¬ (a = 77 ∧ b = 12) → K a b = C a b := fun a b k1 k2 k3 => by
              rw [hK, u2_r k1, u2_r k1, u2_r k1, u2_r k1, u2_r k1, nts_F g3 ⟨k2, k3⟩]
            have kM : ∀ b, b ≠ 1 → b ≠ 2 → b ≠ 3 + k → b ≠ 9 + k → b ≠ 15 + k → K 83 b = I 83 b := fun b k1 k2 k3 k4 k5 => by
              rw [hK, u2_c k2, u2_c k1, u2_c k5, u2_c k4, u2_c k3, nts_F g3 (by omega), hC _ _ (by decide) (by decide) (by decide)]
            refine inv_step hc hd hcd hL hT hCT hNW hIM hSN hH (hRR.nxt g5 fun a b h => ?_) (((nts_RM (J := C) g3).nxt fun a b h => ?_).pr fun a b h => hC _ _ (by omega) (by omega) (by omega)) ?_ (nw_set (lf2 := (lf + 1) % qL q) (pi2 := min 999 (pi + 1)) (w := if b = true then 3 else 2) (t := if b = true then 0 else qN q) ⟨⟨a1, a2, a3⟩, ⟨b1, by rw [Nat.zero_add]; exact b2, b3⟩, ⟨c1, by rw [Nat.zero_add]; exact c2, c3⟩, hg⟩ hk ?_ ?_ ?_ ?_ hlf2b ?_ ?_ (by omega) ?_ ?_ ?_ ?_ ?_ ?_ ?_ ?_ ?_)
            · rw [kC _ _ (by omega) (by omega) (by omega), hC2 _ _ h]
            · rw [hK, u2_r (by omega), u2_r (by omega), u2_r (by omega), u2_r (by omega), u2_r (by omega)]
            · intro a b k1 k2 k3 k4 k5
              rw [kC _ _ k3 k4 k5, hC _ _ (by omega) (by omega) (by omega)]
            · rw [kC _ _ (by decide) (by decide) (by decide), o0]
            · exact kM _ (by decide) (by decide) (by omega) (by omega) (by omega)
            · rw [kC _ _ (by decide) (by decide) (by decide), o1]
            · rw [hK, u2_c (by decide), u2_s]
            · rw [kC _ _ (by decide) (by decide) (by decide), o2]
            · rw [hK, u2_s]
            · intro g hgk
              rw [kC _ _ (by decide) (by decide) (by omega), kC _ _ (by decide) (by decide) (by omega), kC _ _ (by decide) (by decide) (by omega)]
              exact o3 g hgk
            · intro g hg6 hgk
              exact ⟨kM _ (by omega) (by omega) (by omega) (by omega) (by omega), kM _ (by omega) (by omega) (by omega) (by omega) (by omega), kM _ (by omega) (by omega) (by omega) (by omega) (by omega)⟩
            · rw [kC _ _ (by decide) (by decide) (by omega), o4]
            · rw [hK, u2_c (by omega), u2_c (by omega), u2_c (by omega), u2_c (by omega), u2_s]
            · cases b <;> decide
            · rw [hK, u2_c (by omega), u2_c (by omega), u2_c (by omega), u2_s]
            · rw [kC _ _ (by decide) (by decide) (by omega), o6, hK, u2_c (by omega), u2_c (by omega), u2_s, show I 18 k = I 83 (15 + k) from w5]
            · cases b with
              | true => intro h; exact absurd h (by decide)
              | false => exact fun _ => ⟨hN1, hN2, by rw [kC _ _ (by decide) (by decide) (by omega)]; exact o5 rfl⟩
            · cases b with
              | true => exact fun _ => rfl
              | false => intro h; exact absurd rfl h
          rw [if_neg (fun h => hz ((nI_0iff (by omega)).mp h)), e_remember g1 g3 g4 g5, hR, obs, r1, e_goodTastes hRCT (by omega) (by omega), obs, gd_says hCT hlf hk, has_eq (by omega) (by omega), obs]
          cases hb : (qgv q k &&& qlv q lf).testBit t with
          | true =>
            generalize hC : u2 (u2 (u2 R 16 k 3) 15 1 (nI ((lf + 1) % qL q))) 15 2 (nI (min 999 (pi + 1))) = C
            have cF : ∀ a b, ¬ (a = 15 ∧ (b = 1 ∨ b = 2)) → ¬ (a = 16 ∧ b = k) → C a b = R a b := fun a b k1 k2 => by
              rw [← hC]
              simp only [u2]
              rw [if_neg (by omega), if_neg (by omega), if_neg (by omega)]
            have hC1 : ∀ a b, a ≠ 19 → (a < 15 ∨ 18 < a) → (a < 21 ∨ 60 < a) → C a b = I a b := fun a b k1 k2 k3 => by rw [cF _ _ (by omega) (by omega), hRF _ _ k1 k3]
            refine ⟨1, C, _, ?_, mod C hC1 true hb, fin C _ true hC1 (fun a b h => cF _ _ (by omega) (by omega)) rfl ?_ ?_ ?_ ?_ ?_ ?_ ?_⟩
            · rw [if_pos rfl, if_pos v6, obs, e_says109 (q := q) (hRCT.fr (fun a b h => by unfold KC at h; exact u2_r (by omega))) true (by rw [u2_r (by decide)]; exact r1) hlf (by rw [u2_r (by decide)]; exact r2) c3, hC]
              rfl
            · rw [cF _ _ (by omega) (by omega), hRF _ _ (by decide) (by decide)]
            · rw [← hC, u2_c (by decide), u2_s]
            · rw [← hC, u2_s]
            · intro g hgk
              rw [cF _ _ (by omega) (by omega), cF _ _ (by omega) (by omega), cF _ _ (by omega) (by omega), hRF _ _ (by decide) (by decide), hRF _ _ (by decide) (by decide), hRF _ _ (by decide) (by decide)]
              exact ⟨rfl, rfl, rfl⟩
            · rw [← hC, u2_r (by decide), u2_r (by decide), u2_s]; rfl
            · intro h; cases h
            · rw [cF _ _ (by omega) (by omega), hRF _ _ (by decide) (by decide)]; exact (Int32.add_zero _).symm
          | false =>
            have r9 : R c 9 = nI (qN q) := hRCT.2.2.2.2.1.1
            generalize hC : u2 (u2 (u2 (u2 (u2 R 16 k 2) 17 k (nI (mi + qN q))) 18 k (R 18 k + 1)) 15 1 (nI ((lf + 1) % qL q))) 15 2 (nI (min 999 (pi + 1))) = C
            have cF : ∀ a b, ¬ (a = 15 ∧ (b = 1 ∨ b = 2)) → ¬ (16 ≤ a ∧ a ≤ 18 ∧ b = k) → C a b = R a b := fun a b k1 k2 => by
              rw [← hC]
              simp only [u2]
              rw [if_neg (by omega), if_neg (by omega), if_neg (by omega), if_neg (by omega), if_neg (by omega)]
            have hC1 : ∀ a b, a ≠ 19 → (a < 15 ∨ 18 < a) → (a < 21 ∨ 60 < a) → C a b = I a b := fun a b k1 k2 k3 => by rw [cF _ _ (by omega) (by omega), hRF _ _ k1 k3]
            refine ⟨0, C, _, ?_, mod C hC1 false hb, fin C _ false hC1 (fun a b h => cF _ _ (by omega) (by omega)) rfl ?_ ?_ ?_ ?_ ?_ ?_ ?_⟩
            · rw [if_neg (by decide), f_X3_sendRound, if_pos v6, nIn hk2, obs, if_pos v6, u2_r (by decide), r0, r9, nI_add, obs, if_pos v6, if_pos v6, u2_r (by decide), u2_r (by decide), obs, obs, e_says109 (q := q) (hRCT.fr (fun a b h => by unfold KC at h; rw [u2_r (by omega), u2_r (by omega), u2_r (by omega)])) false (by rw [u2_r (by decide), u2_r (by decide), u2_r (by decide)]; exact r1) hlf (by rw [u2_r (by decide), u2_r (by decide), u2_r (by decide)]; exact r2) c3, hC]
              rfl
            · rw [cF _ _ (by omega) (by omega), hRF _ _ (by decide) (by decide)]
            · rw [← hC, u2_c (by decide), u2_s]
            · rw [← hC, u2_s]
            · intro g hgk
              rw [cF _ _ (by omega) (by omega), cF _ _ (by omega) (by omega), cF _ _ (by omega) (by omega), hRF _ _ (by decide) (by decide), hRF _ _ (by decide) (by decide), hRF _ _ (by decide) (by decide)]
              exact ⟨rfl, rfl, rfl⟩
            · rw [← hC, u2_r (by decide), u2_r (by decide), u2_r (by decide), u2_r (by decide), u2_s]; rfl
            · intro h; rw [← hC, u2_r (by decide), u2_r (by decide), u2_r (by decide), u2_s]
            · rw [← hC, u2_r (by decide), u2_r (by decide), u2_s, hRF _ _ (by decide) (by decide)]; rfl
      · refine ⟨-2, I, I, by rw [nIl 1, if_neg (fun h => hw ((nIeq (by omega) (by omega)).mp h))], ?_, h0⟩
        rw [f_X7_says, m_isOne hCT, obs, if_pos hx, m_isTaste, obs, if_pos hy, if_pos v3, n3, w2, nIl 1, if_neg (fun h => hw ((nIeq (by omega) (by omega)).mp h))]
    · refine ⟨-1, I, I, by rw [if_neg hy], ?_, h0⟩
      rw [f_X7_says, m_isOne hCT, obs, if_pos hx, m_isTaste, obs, if_neg hy]
  · refine ⟨-1, I, I, by rw [if_neg hx], ?_, h0⟩
    rw [f_X7_says, m_isOne hCT, obs, if_neg hx]
def wA (x : Nat) (wh ti : Nat → Nat) (g : Nat) : Nat := if wh g = 2 ∧ ti g ≤ x then 1 else wh g
def pS (W : Nat → Nat) (k : Nat) (J : Hi) : Hi := fun a b => if a = 16 ∧ b < k then nI (W b) else J a b
theorem l_pass {mi x : Nat} {wh ti : Nat → Nat} (h15 : J 15 0 = nI (mi + x)) (hm : mi + x ≤ 999) (hw : ∀ g, g < 6 → J 16 g = nI (wh g) ∧ wh g ≤ 3 ∧ (wh g = 2 → ti g ≤ 9 ∧ J 17 g = nI (mi + ti g))) : ∀ (m k f : Nat), k + m = 6 → m < f → b_X3_pass_12 15 f (pS (wA x wh ti) k J) (nI k) = some (pS (wA x wh ti) 6 J)
  | 0, k, f + 1, hk, hf => by
    rw [b_X3_pass_12, nIl 6, if_pos ((nIle (by omega) (by omega)).mpr (by omega)), show k = 6 by omega]
  | m + 1, k, f + 1, hk, hf => by
    have ih := l_pass h15 hm hw m (k + 1) f (by omega) (by omega)
    obtain ⟨w1, w2, w3⟩ := hw k (by omega)
    have v6 : vinb (nI k) 6 = true := vinT (by omega) (by omega)
    have e16 : pS (wA x wh ti) k J (15 + 1) k = nI (wh k) := by rw [pS, if_neg (by omega)]; exact w1
    have e15 : pS (wA x wh ti) k J 15 0 = nI (mi + x) := by rw [pS, if_neg (by omega)]; exact h15
    have e17 : pS (wA x wh ti) k J (15 + 2) k = J 17 k := by rw [pS, if_neg (by omega)]
    have same : wA x wh ti k = wh k → pS (wA x wh ti) (k + 1) J = pS (wA x wh ti) k J := by
      intro h
      funext a b
      simp only [pS]
      by_cases h1 : a = 16 ∧ b < k
      · rw [if_pos h1, if_pos (by omega)]
      · rw [if_neg h1]
        by_cases h2 : a = 16 ∧ b < k + 1
        · rw [if_pos h2, show b = k by omega, h2.1, w1, h]
        · rw [if_neg h2]
    rw [b_X3_pass_12, nIl 6, if_neg (by rw [nIle (by omega) (by omega)]; omega), if_pos v6, nIn (by omega), e16, nIl 2]
    by_cases h2 : wh k = 2
    · obtain ⟨w4, w5⟩ := w3 h2
      rw [if_pos (by rw [h2]), if_pos v6, e15, e17, w5]
      by_cases h3 : ti k ≤ x
      · rw [if_neg (by rw [nIlt (by omega) (by omega)]; omega), if_pos v6, obs, b_X3_pass_48, nI_1, ← ih]
        congr 1
        funext a b
        simp only [u2, pS]
        by_cases h1 : a = 15 + 1 ∧ b = k
        · rw [if_pos h1, if_pos (show a = 16 ∧ b < k + 1 by omega), h1.2, wA, if_pos ⟨h2, h3⟩]; rfl
        · rw [if_neg h1]
          by_cases h4 : a = 16 ∧ b < k
          · rw [if_pos h4, if_pos (by omega)]
          · rw [if_neg h4, if_neg (by omega)]
      · rw [if_pos (by rw [nIlt (by omega) (by omega)]; omega), b_X3_pass_48, nI_1, ← same (if_neg (by omega))]
        exact ih
    · rw [if_neg (by rw [nIeq (by omega) (by omega)]; exact h2), b_X3_pass_48, nI_1, ← same (if_neg (by omega))]
      exact ih
def qSt (W T : Nat → Nat) (k : Nat) (J : Hi) : Hi := fun a b => if a = 83 ∧ 3 ≤ b ∧ b < 3 + k then nI (W (b - 3)) else if a = 83 ∧ 9 ≤ b ∧ b < 9 + k then nI (T (b - 9)) else J a b
theorem l_mins {x G : Nat} {wh ti : Nat → Nat} (hG : J 77 2 = nI G) (h6 : G ≤ 6) (hx : 1 ≤ x) (hx9 : x ≤ 9) (hw : ∀ g, g < 6 → J 83 (3 + g) = nI (wh g) ∧ wh g ≤ 3 ∧ J 83 (9 + g) = nI (ti g) ∧ ti g ≤ 9 ∧ (wh g ≠ 2 → ti g = 0)) : ∀ (m k f : Nat), k + m = G → m < f → b_X7_minutes_47 f (qSt (wA x wh ti) (fun g => ti g - x) k J) (nI x) (nI k) = b_X7_minutes_135 (qSt (wA x wh ti) (fun g => ti g - x) G J)
  | 0, k, f + 1, hk, hf => by
    have e77 : qSt (wA x wh ti) (fun g => ti g - x) k J 77 2 = nI G := by rw [qSt, if_neg (by omega), if_neg (by omega)]; exact hG
    rw [b_X7_minutes_47, e77, if_pos ((nIle (by omega) (by omega)).mpr (by omega)), show k = G by omega]
  | m + 1, k, f + 1, hk, hf => by
    have ih := l_mins hG h6 hx hx9 hw m (k + 1) f (by omega) (by omega)
    have e77 : qSt (wA x wh ti) (fun g => ti g - x) k J 77 2 = nI G := by rw [qSt, if_neg (by omega), if_neg (by omega)]; exact hG
    obtain ⟨w1, w2, w3, w4, w5⟩ := hw k (by omega)
    have e3 : qSt (wA x wh ti) (fun g => ti g - x) k J 83 (3 + k) = nI (wh k) := by rw [qSt, if_neg (by omega), if_neg (by omega)]; exact w1
    have e9 : qSt (wA x wh ti) (fun g => ti g - x) k J 83 (9 + k) = nI (ti k) := by rw [qSt, if_neg (by omega), if_neg (by omega)]; exact w3
    have v3 : vinb (3 + nI k) 21 = true := by rw [nIl 3, nI_add]; exact vinT (by omega) (by omega)
    have n3 : (3 + nI k).toNatClampNeg = 3 + k := by rw [nIl 3, nI_add]; exact nIn (by omega)
    have v9 : vinb (9 + nI k) 21 = true := by rw [nIl 9, nI_add]; exact vinT (by omega) (by omega)
    have n9 : (9 + nI k).toNatClampNeg = 9 + k := by rw [nIl 9, nI_add]; exact nIn (by omega)
    have nxt : ∀ w t : Nat, w = wA x wh ti k → t = ti k - x → u2 (u2 (qSt (wA x wh ti) (fun g => ti g - x) k J) 83 (9 + k) (nI t)) 83 (3 + k) (nI w) = qSt (wA x wh ti) (fun g => ti g - x) (k + 1) J := by
      intro w t e1 e2
      funext a b
      simp only [u2, qSt]
      by_cases h1 : a = 83 ∧ b = 3 + k
      · rw [if_pos h1, if_pos (show a = 83 ∧ 3 ≤ b ∧ b < 3 + (k + 1) by omega), e1, show b - 3 = k by omega]
      · rw [if_neg h1]
        by_cases h2 : a = 83 ∧ b = 9 + k
        · rw [if_pos h2, if_neg (show ¬ (a = 83 ∧ 3 ≤ b ∧ b < 3 + (k + 1)) by omega), if_pos (show a = 83 ∧ 9 ≤ b ∧ b < 9 + (k + 1) by omega), e2, show b - 9 = k by omega]
        · rw [if_neg h2]
          by_cases h3 : a = 83 ∧ 3 ≤ b ∧ b < 3 + k
          · rw [if_pos h3, if_pos (by omega)]
          · rw [if_neg h3, if_neg (show ¬ (a = 83 ∧ 3 ≤ b ∧ b < 3 + (k + 1)) by omega)]
            by_cases h4 : a = 83 ∧ 9 ≤ b ∧ b < 9 + k
            · rw [if_pos h4, if_pos (by omega)]
            · rw [if_neg h4, if_neg (by omega)]
    rw [b_X7_minutes_47, e77, if_neg (by rw [nIle (by omega) (by omega)]; omega), if_pos v3, n3, e3]
    by_cases h2 : wh k = 2
    · rw [if_pos (by rw [h2]; rfl), if_pos v9, n9, e9]
      by_cases h3 : ti k ≤ x
      · rw [if_pos ((nIle (by omega) (by omega)).mpr h3), b_X7_minutes_103, if_pos v9, n9, obs, if_pos v9, u2_s, if_pos rfl, b_X7_minutes_128, if_pos v3, n3, obs, b_X7_minutes_129, nI_1, ← ih]
        rw [← nxt 1 0 (by rw [wA, if_pos ⟨h2, h3⟩]) (by omega)]
        rfl
      · have es : nI (ti k) - nI x = nI (ti k - x) := pk_sub (by omega)
        rw [if_neg (by rw [nIle (by omega) (by omega)]; omega), if_pos v9, es, b_X7_minutes_103, if_pos v9, n9, obs, if_pos v9, u2_s, if_neg (fun h => by have := (nI_0iff (by omega)).mp h; omega), b_X7_minutes_128, if_pos v3, n3, obs, b_X7_minutes_129, nI_1, ← ih]
        rw [← nxt 2 (ti k - x) (by rw [wA, if_neg (by omega), h2]) rfl]
        rfl
    · rw [if_neg (show ¬ nI (wh k) = 2 from fun h => h2 ((nIeq (b := 2) (by omega) (by omega)).mp h)), b_X7_minutes_129, nI_1, ← ih]
      congr 1
      have h5 := w5 h2
      rw [← nxt (wh k) (ti k) (by rw [wA, if_neg (by omega)]) (by omega)]
      funext a b
      simp only [u2]
      by_cases h1 : a = 83 ∧ b = 3 + k
      · rw [if_pos h1, h1.1, h1.2]; exact e3
      · rw [if_neg h1]
        by_cases h4 : a = 83 ∧ b = 9 + k
        · rw [if_pos h4, h4.1, h4.2]; exact e9
        · rw [if_neg h4]
theorem rng19 {α : Type} {x : Int32} {a b : α} : (if x < 1 then a else if x ≤ 9 then b else a) = if (decide ((1 : Int64).toInt ≤ x.toInt64.toInt) && decide (x.toInt64.toInt ≤ (9 : Int64).toInt)) = true then b else a := by
  rw [toL, show (1 : Int64).toInt = 1 from by decide, show (9 : Int64).toInt = 9 from by decide]
  have e1 : (1 : Int32).toInt = 1 := by decide
  have e9 : (9 : Int32).toInt = 9 := by decide
  by_cases h1 : x < 1
  · rw [if_pos h1]
    have := Int32.lt_iff_toInt_lt.mp h1
    rw [decide_eq_false (by omega), Bool.false_and, if_neg (by decide)]
  · rw [if_neg h1]
    have h1' : ¬ x.toInt < 1 := fun h => h1 (Int32.lt_iff_toInt_lt.mpr (by omega))
    rw [decide_eq_true (by omega), Bool.true_and]
    by_cases h2 : x ≤ 9
    · rw [if_pos h2]
      have := Int32.le_iff_toInt_le.mp h2
      rw [if_pos (decide_eq_true (by omega))]
    · rw [if_neg h2]
      have h2' : ¬ x.toInt ≤ 9 := fun h => h2 (Int32.le_iff_toInt_le.mpr (by omega))
      rw [decide_eq_false h2', if_neg (by decide)]
theorem of19 {x : Int32} (h : (decide ((1 : Int64).toInt ≤ x.toInt64.toInt) && decide (x.toInt64.toInt ≤ (9 : Int64).toInt)) = true) : ∃ k, x = nI k ∧ 1 ≤ k ∧ k ≤ 9 := by
  rw [toL, show (1 : Int64).toInt = 1 from by decide, show (9 : Int64).toInt = 9 from by decide, Bool.and_eq_true, decide_eq_true_eq, decide_eq_true_eq] at h
  have h1 : ¬ x < 0 := fun h1 => by
    have := Int32.lt_iff_toInt_lt.mp h1
    rw [Int32.toInt_zero] at this
    omega
  obtain ⟨k, hk, rfl⟩ := nI_of h1
  rw [nI_toInt hk] at h
  exact ⟨k, rfl, by omega, by omega⟩
theorem sim_minutes (h : Inv c d I L) (x : Int32) : ∃ r I1 I2, f_X6_minutes I x = some (r, I1) ∧ f_X7_minutes I1 x = some (r, I2) ∧ Inv c d I2 L := by
  have h0 := h
  obtain ⟨hc, hd, hcd, hL, hT, q, hCT, hNW, ⟨kn, nx, hH⟩, hIM, hSN⟩ := h
  have hc3 := isC_r hc
  have h6 := hCT.G6
  have hN := hNW
  obtain ⟨mi, lf, pi, wh, ti, ⟨a1, a2, a3⟩, ⟨b1, b2, b3⟩, ⟨c1, c2, c3⟩, hg⟩ := hN
  rw [f_X6_minutes, rng19]
  have v0 : vinb 0 21 = true := by decide
  have u0 : (0 : Int32).toNatClampNeg = 0 := by decide
  by_cases hx : (decide ((1 : Int64).toInt ≤ x.toInt64.toInt) && decide (x.toInt64.toInt ≤ (9 : Int64).toInt)) = true
  · rw [if_pos hx]
    obtain ⟨k, rfl, hk1, hk9⟩ := of19 hx
    rw [a1, nI_add, nIl 999]
    by_cases hm : mi + k ≤ 999
    · obtain ⟨⟨g1, g2, g3⟩, ⟨g4, g5⟩, -⟩ := id hH
      generalize hR : rem nx kn I = R
      have hRF : ∀ a b, a ≠ 19 → (a < 21 ∨ 60 < a) → R a b = I a b := fun a b k1 k2 => by rw [← hR]; exact rem_F g5 ⟨k1, k2⟩
      have hRR : RC nx kn I R := by rw [← hR]; exact rem_RC g5
      have lp := l_pass (J := u2 R 15 0 (nI (mi + k))) (mi := mi) (x := k) (wh := wh) (ti := ti) u2_s hm (fun g hg6 => by
        obtain ⟨⟨z1, z2, z3, z4⟩, z5, z6, z7, z8⟩ := hg g hg6
        rw [u2_r (by decide), u2_r (by decide), hRF _ _ (by decide) (by decide), hRF _ _ (by decide) (by decide)]
        exact ⟨z1, z3, fun h => (z7 h).2⟩) 6 0 2000 (by omega) (by omega)
      have e0 : pS (wA k wh ti) 0 (u2 R 15 0 (nI (mi + k))) = u2 R 15 0 (nI (mi + k)) := by
        funext a b
        rw [pS, if_neg (by omega)]
      rw [e0] at lp
      generalize hC : pS (wA k wh ti) 6 (u2 R 15 0 (nI (mi + k))) = C at lp
      have cF : ∀ a b, ¬ (a = 15 ∧ b = 0) → ¬ (a = 16 ∧ b < 6) → C a b = R a b := fun a b k1 k2 => by
        rw [← hC, pS, if_neg k2]; exact if_neg k1
      have hC1 : ∀ a b, a ≠ 19 → (a < 15 ∨ 18 < a) → (a < 21 ∨ 60 < a) → C a b = I a b := fun a b k1 k2 k3 => by rw [cF _ _ (by omega) (by omega), hRF _ _ k1 k3]
      have c16 : ∀ g, g < 6 → C 16 g = nI (wA k wh ti g) := fun g h => by rw [← hC, pS, if_pos ⟨rfl, h⟩]
      have hA : ∀ g, wh g ≤ 3 → wA k wh ti g ≤ 3 := fun g h => by unfold wA; split <;> omega
      have who := e_whoAre (I := C) (n := 15) (w := 1) (wh := wA k wh ti) (by decide) (fun g hg6 => ⟨c16 g hg6, hA g (hg g hg6).1.2.2.1⟩)
      have hb : bm (whp (wA k wh ti) 1) 6 < 64 := bm_lt _ 6
      have hwe := who_eq (G := qG q) (wh := wA k wh ti) (w := 1) h6 (by decide) (fun g h1 h2 => by
        have := (hg g h1).1.2.2.2 h2
        rw [wA, if_neg (by omega)]; exact this)
      have nF : ∀ a b, a ≠ 84 → ¬ (a = 77 ∧ b = 12) → a ≠ 19 → (a < 15 ∨ 18 < a) → (a < 21 ∨ 60 < a) → nts kn C a b = I a b := fun a b k1 k2 k3 k4 k5 => by rw [nts_F g3 ⟨k1, k2⟩, hC1 _ _ k3 k4 k5]
      have ti9 : ∀ g, g < 6 → ti g ≤ 9 := fun g hg6 => by
        obtain ⟨⟨z1, z2, z3, z4⟩, z5, z6, z7, z8⟩ := hg g hg6
        by_cases h2 : wh g = 2
        · exact (z7 h2).2.1
        · rw [z8 h2]; omega
      have lm := l_mins (J := u2 (nts kn C) 83 0 (nI (mi + k))) (x := k) (G := qG q) (wh := wh) (ti := ti) (by rw [u2_r (by decide), nF _ _ (by decide) (by decide) (by decide) (by decide) (by decide)]; exact hCT.2.1.2.1) h6 hk1 hk9 (fun g hg6 => by
        obtain ⟨⟨z1, z2, z3, z4⟩, z5, z6, z7, z8⟩ := hg g hg6
        rw [Nat.zero_add] at z2 z6
        rw [u2_c (by omega), u2_c (by omega), nF _ _ (by decide) (by omega) (by decide) (by decide) (by decide), nF _ _ (by decide) (by omega) (by decide) (by decide) (by decide)]
        exact ⟨z2, z3, z6, ti9 g hg6, z8⟩) (qG q) 0 2000 (by omega) (by omega)
      have e0 : qSt (wA k wh ti) (fun g => ti g - k) 0 (u2 (nts kn C) 83 0 (nI (mi + k))) = u2 (nts kn C) 83 0 (nI (mi + k)) := by
        funext a b
        rw [qSt, if_neg (by omega), if_neg (by omega)]
      rw [e0] at lm
      generalize hK : qSt (wA k wh ti) (fun g => ti g - k) (qG q) (u2 (nts kn C) 83 0 (nI (mi + k))) = K at lm
      have kC : ∀ a b, a ≠ 83 → K a b = nts kn C a b := fun a b k1 => by
        rw [← hK, qSt, if_neg (by omega), if_neg (by omega), u2_r k1]
      have kM : ∀ b, b ≠ 0 → ¬ (3 ≤ b ∧ b < 3 + qG q) → ¬ (9 ≤ b ∧ b < 9 + qG q) → K 83 b = I 83 b := fun b k1 k2 k3 => by
        rw [← hK, qSt, if_neg (by omega), if_neg (by omega), u2_c k1, nF _ _ (by decide) (by omega) (by decide) (by decide) (by decide)]
      have k3 : ∀ g, g < 6 → K 83 (3 + g) = nI (wA k wh ti g) := by
        intro g hg6
        obtain ⟨⟨z1, z2, z3, z4⟩, z5, z6, z7, z8⟩ := hg g hg6
        rw [Nat.zero_add] at z2
        by_cases h1 : g < qG q
        · rw [← hK, qSt, if_pos (by omega), show 3 + g - 3 = g by omega]
        · have := z4 (by omega)
          rw [kM _ (by omega) (by omega) (by omega), z2, wA, if_neg (by omega)]
      have k9 : ∀ g, g < 6 → K 83 (9 + g) = nI (ti g - k) := by
        intro g hg6
        obtain ⟨⟨z1, z2, z3, z4⟩, z5, z6, z7, z8⟩ := hg g hg6
        rw [Nat.zero_add] at z6
        by_cases h1 : g < qG q
        · rw [← hK, qSt, if_neg (by omega), if_pos (by omega), show 9 + g - 9 = g by omega]
        · have := z8 (by rw [z4 (by omega)]; decide)
          rw [kM _ (by omega) (by omega) (by omega), z6, this, Nat.zero_sub]
      have tho := m_those (I := K) (G := qG q) (w := 1) (wh := wA k wh ti) (by rw [kC _ _ (by decide), nF _ _ (by decide) (by decide) (by decide) (by decide) (by decide)]; exact hCT.2.1.2.1) h6 (by decide) (fun g hg6 => ⟨k3 g hg6, hA g (hg g hg6).1.2.2.1⟩)
      have c0 : C 83 0 = nI mi := by rw [hC1 _ _ (by decide) (by decide) (by decide)]; exact a2
      have n0 : nts kn C 83 0 = nI mi := by rw [nF _ _ (by decide) (by decide) (by decide) (by decide) (by decide)]; exact a2
      have r0 : R 15 0 = nI mi := by rw [hRF _ _ (by decide) (by decide)]; exact a1
      refine ⟨nI (pc (bm (whp (wA k wh ti) 1) 6)), C, K, ?_, ?_, inv_step hc hd hcd hL hT hCT hNW hIM hSN hH (hRR.nxt g5 fun a b h => ?_) (((nts_RM (J := C) g3).nxt fun a b h => ?_).pr fun a b h => hC1 _ _ (by omega) (by omega) (by omega)) ?_ ?_⟩
      · rw [if_pos ((nIle (by omega) (by omega)).mpr hm), e_remember g1 g3 g4 g5, hR, obs, f_X3_pass, r0, nI_add, obs, show b_X3_pass_12 15 2000 (u2 R 15 0 (nI (mi + k))) 0 = some C from lp, obs, show f_X3_whoAre 15 C 1 = _ from who, obs, bc_eq hb, obs]
      · rw [f_X7_minutes, in_eq, obs, if_pos hx, if_pos v0, u0, c0, nI_add, nIl 999, if_pos ((nIle (by omega) (by omega)).mpr hm), e_notes (by rw [hC1 _ _ (by decide) (by decide) (by decide)]; exact g2) g3, obs, if_pos v0, if_pos v0, n0, nI_add, obs, show b_X7_minutes_47 2000 (u2 (nts kn C) 83 0 (nI (mi + k))) (nI k) 0 = _ from lm, b_X7_minutes_135, show f_X7_those K 1 = _ from tho, obs, ← hwe, mb_eq hb, obs]
      · rw [kC _ _ (by omega), nts_F g3 (by omega), cF _ _ (by omega) (by omega)]
      · rw [kC _ _ (by omega)]
      · intro a b k1 k2 k3 k4 k5
        rw [kC _ _ k3, nF _ _ k4 k5 (by omega) (by omega) (by omega)]
      · rw [Nat.zero_add] at b2 c2
        have q15 : ∀ b, b ≠ 0 → K 15 b = I 15 b := fun b hb => by rw [kC _ _ (by decide), nts_F g3 (by omega), cF _ _ (by omega) (by omega), hRF _ _ (by decide) (by decide)]
        have q17 : ∀ a b, 17 ≤ a → a ≤ 18 → K a b = I a b := fun a b h1 h2 => by rw [kC _ _ (by omega), nts_F g3 (by omega), cF _ _ (by omega) (by omega), hRF _ _ (by omega) (by omega)]
        refine ⟨mi + k, lf, pi, wA k wh ti, fun g => ti g - k, ⟨?_, ?_, hm⟩, ⟨(q15 1 (by decide)).trans b1, (kM 1 (by omega) (by omega) (by omega)).trans b2, b3⟩, ⟨(q15 2 (by decide)).trans c1, (kM 2 (by omega) (by omega) (by omega)).trans c2, c3⟩, fun g hg6 => ?_⟩
        · rw [kC _ _ (by decide), nts_F g3 (by omega), ← hC, pS, if_neg (by omega), u2_s]
        · rw [← hK, qSt, if_neg (by omega), if_neg (by omega), u2_s]
        · obtain ⟨⟨z1, z2, z3, z4⟩, z5, z6, z7, z8⟩ := hg g hg6
          rw [Nat.zero_add, Nat.zero_add, Nat.zero_add]
          rw [Nat.zero_add] at z2 z5 z6
          refine ⟨⟨?_, k3 g hg6, hA g z3, fun h => ?_⟩, ?_, k9 g hg6, fun h => ?_, fun h => ?_⟩
          · rw [kC _ _ (by decide), nts_F g3 (by omega)]; exact c16 g hg6
          · have := z4 h
            rw [wA, if_neg (by omega)]; exact this
          · rw [q17 _ _ (by omega) (by omega), kM _ (by omega) (by omega) (by omega)]; exact z5
          · have h2 : wh g = 2 ∧ ¬ ti g ≤ k := by
              unfold wA at h
              split at h <;> omega
            obtain ⟨t1, t2, t3⟩ := z7 h2.1
            refine ⟨show 1 ≤ ti g - k by omega, show ti g - k ≤ 9 by omega, ?_⟩
            show _ = nI (mi + k + (ti g - k))
            rw [q17 _ _ (by omega) (by omega), t3, show mi + k + (ti g - k) = mi + ti g by omega]
          · by_cases h2 : wh g = 2
            · have : ti g ≤ k := by
                apply Nat.le_of_not_lt
                intro h3
                exact h (by rw [wA, if_neg (by omega)]; exact h2)
              show ti g - k = 0
              omega
            · show ti g - k = 0
              rw [z8 h2, Nat.zero_sub]
    · refine ⟨-2, I, I, by rw [if_neg (by rw [nIle (by omega) (by omega)]; exact hm)], ?_, h0⟩
      rw [f_X7_minutes, in_eq, obs, if_pos hx, if_pos v0, u0, a2, nI_add, nIl 999, if_neg (by rw [nIle (by omega) (by omega)]; exact hm)]
  · refine ⟨-1, I, I, by rw [if_neg hx], ?_, h0⟩
    rw [f_X7_minutes, in_eq, obs, if_neg hx]
end SIMH
