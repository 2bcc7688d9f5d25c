/-! comes, undo, keep, back -/
section SIMG
variable {c d : Nat} {I K : Hi} {L : Hl} {q : Ct} {kn nx : Nat}
theorem inv_step (hc : isC c) (hd : isC d) (hcd : c ≠ d) (hL : L 0 9 = L 77 17) (hT : TX I) (hCT : CT I c q) (hN : NW I q) (hIM : IM I q) (hSN : SN I q) (hH : HsI I (qL q) (qG q) kn nx) (hRC : RC nx kn I K) (hRM : RM kn I K) (hF : ∀ x y, ¬ (15 ≤ x ∧ x ≤ 19) → ¬ (21 ≤ x ∧ x ≤ 60) → x ≠ 83 → x ≠ 84 → ¬ (x = 77 ∧ y = 12) → K x y = I x y) (hNK : NW K q) : Inv c d K L := by
  have hc3 := isC_r hc
  refine ⟨hc, hd, hcd, hL, hT.fr (fun a b h => hF _ _ (by omega) (by omega) (by omega) (by omega) (by omega)), q, hCT.fr (fun a b h => ?_), hNK, ⟨_, _, hs_next hH hN hRC hRM⟩, hIM.fr (fun a b h => hF _ _ (by omega) (by omega) (by omega) (by omega) (by omega)), hSN.fr (fun a b h => hF _ _ (by omega) (by omega) (by omega) (by omega) (by omega))⟩
  unfold KC at h
  exact hF _ _ (by omega) (by omega) (by omega) (by omega) (by omega)
theorem sim_comes (h : Inv c d I L) (x : Int32) : ∃ r I1 I2, f_X6_comes c d I x = some (r, I1) ∧ f_X7_comes I1 x = some (r, I2) ∧ Inv c d I2 L := by
  have h0 := h
  obtain ⟨hc, hd, hcd, hL, hT, q, hCT, hNW, ⟨kn, nx, hH⟩, hIM, hSN⟩ := h
  have hc3 := isC_r hc
  have h6 := hCT.G6
  have hN := hNW
  obtain ⟨mi, lf, pi, wh, ti, ⟨a1, a2, a3⟩, ⟨b1, b2, b3⟩, ⟨c1, c2, c3⟩, hg⟩ := hN
  rw [f_X6_comes, e_hasGoer hCT, obs]
  by_cases hx : vinb x (qG q) = true
  · obtain ⟨k, hk, hk2, rfl⟩ := vin_of hx
    obtain ⟨⟨w1, w2, w3, w4⟩, w5, w6, w7, w8⟩ := hg k (by omega)
    have w1 : I 16 k = nI (wh k) := w1
    rw [Nat.zero_add] at w2 w5 w6
    have v6 : vinb (nI k) 6 = true := vinT (by omega) (by omega)
    have v3 : vinb (3 + nI k) 21 = true := by rw [nIl 3, nI_add]; exact vinT (by omega) (by omega)
    have n3 : (3 + nI k).toNatClampNeg = 3 + k := by rw [nIl 3, nI_add]; exact nIn (by omega)
    rw [if_pos hx, if_pos v6, nIn hk2, w1]
    by_cases hw : wh k = 0
    · obtain ⟨⟨g1, g2, g3⟩, ⟨g4, g5⟩, -⟩ := id hH
      have s1 : ∀ g, g < 6 → u2 (rem nx kn I) 16 k 1 (15 + 1) g = nI (if g = k then 1 else wh g) ∧ (if g = k then 1 else wh g) ≤ 3 := by
        intro g hg6
        obtain ⟨⟨z1, z2, z3, z4⟩, -⟩ := hg g hg6
        by_cases hgk : g = k
        · subst hgk
          rw [if_pos rfl]
          exact ⟨u2_s, by omega⟩
        · rw [if_neg hgk, u2_c hgk, rem_F g5 (by omega)]
          exact ⟨z1, z3⟩
      have hb : bm (whp (fun g => if g = k then 1 else wh g) 1) 6 < 64 := bm_lt _ 6
      have hwe := who_eq (G := qG q) (wh := fun g => if g = k then 1 else wh g) (w := 1) h6 (by decide) (fun g h1 h2 => by
        show (if g = k then 1 else wh g) = 0
        rw [if_neg (by omega)]; exact (hg g h1).1.2.2.2 h2)
      generalize hJ : u2 (rem nx kn I) 16 k 1 = J at s1
      have jF : ∀ a b, a ≠ 16 → a ≠ 19 → (a < 21 ∨ 60 < a) → J a b = I a b := fun a b k1 k2 k3 => by rw [← hJ, u2_r k1, rem_F g5 (by omega)]
      have j12 : J 77 12 = nI kn := by rw [jF _ _ (by decide) (by decide) (by decide)]; exact g2
      have j2 : J 77 2 = nI (qG q) := by rw [jF _ _ (by decide) (by decide) (by decide)]; exact hCT.2.1.2.1
      have j83 : J 83 (3 + k) = nI (wh k) := by rw [jF _ _ (by decide) (by decide) (by decide)]; exact w2
      have t1 : ∀ g, g < 6 → u2 (nts kn J) 83 (3 + k) 1 83 (3 + g) = nI (if g = k then 1 else wh g) ∧ (if g = k then 1 else wh g) ≤ 3 := by
        intro g hg6
        obtain ⟨⟨z1, z2, z3, z4⟩, -⟩ := hg g hg6
        by_cases hgk : g = k
        · subst hgk
          rw [if_pos rfl]
          exact ⟨u2_s, by omega⟩
        · rw [if_neg hgk, u2_c (by omega), nts_F g3 (by omega), jF _ _ (by decide) (by decide) (by decide)]
          rw [Nat.zero_add] at z2
          exact ⟨z2, z3⟩
      have t2 : u2 (nts kn J) 83 (3 + k) 1 77 2 = nI (qG q) := by rw [u2_r (by decide), nts_F g3 (by decide)]; exact j2
      refine ⟨nI (pc (bm (whp (fun g => if g = k then 1 else wh g) 1) 6)), J, u2 (nts kn J) 83 (3 + k) 1, ?_, ?_, inv_step hc hd hcd hL hT hCT hNW hIM hSN hH ?_ ?_ ?_ ?_⟩
      · rw [if_pos (by rw [hw]; rfl), e_remember g1 g3 g4 g5, obs, if_pos v6, hJ, obs, show (1 : Int32) = nI 1 from rfl, e_whoAre (by decide) s1, obs, bc_eq hb, obs]
      · rw [f_X7_comes, f_X7_isOne, j2, in_vin (qG q) (pred_toInt (by omega)) (by omega), obs, obs, if_pos hx, if_pos v3, n3, j83, if_pos (by rw [hw]; rfl), e_notes j12 g3, obs, if_pos v3, obs, show f_X7_those (u2 (nts kn J) 83 (3 + k) 1) 1 = _ from m_those (w := 1) t2 h6 (by decide) t1, obs, ← hwe, mb_eq hb, obs]
      · refine (rem_RC (kn := kn) (I := I) g5).nxt g5 (fun a b h => ?_)
        rw [u2_r (by omega), nts_F g3 (by omega), ← hJ, u2_r (by omega)]
      · refine ((nts_RM g3).nxt (fun a b h => u2_r (by omega))).pr (fun a b h => jF _ _ (by omega) (by omega) (by omega))
      · intro a b k1 k2 k3 k4 k5
        rw [u2_r k3, nts_F g3 ⟨k4, k5⟩, jF _ _ (by omega) (by omega) (by omega)]
      · have kF : ∀ a b, ((15 ≤ a ∧ a ≤ 18 ∧ a ≠ 16) ∨ (a = 83 ∧ b ≠ 3 + k)) → u2 (nts kn J) 83 (3 + k) 1 a b = I a b := by
          intro a b hk
          have : ∀ f : Hi, u2 f 83 (3 + k) 1 a b = f a b := fun f => if_neg (by omega)
          rw [this, nts_F g3 (by omega), jF _ _ (by omega) (by omega) (by omega)]
        refine ⟨mi, lf, pi, fun g => if g = k then 1 else wh g, ti, ⟨by rw [kF _ _ (by omega)]; exact a1, by rw [kF _ _ (by omega)]; exact a2, a3⟩, ⟨by rw [kF _ _ (by omega)]; exact b1, by rw [kF _ _ (by omega)]; exact b2, b3⟩, ⟨by rw [kF _ _ (by omega)]; exact c1, by rw [kF _ _ (by omega)]; exact c2, c3⟩, fun g hg6 => ?_⟩
        obtain ⟨⟨z1, z2, z3, z4⟩, z5, z6, z7, z8⟩ := hg g hg6
        have f1 : u2 (nts kn J) 83 (3 + k) 1 (15 + 1) g = nI (if g = k then 1 else wh g) := by
          rw [u2_r (by decide), nts_F g3 (by omega)]; exact (s1 g hg6).1
        refine ⟨⟨f1, by rw [Nat.zero_add]; exact (t1 g hg6).1, (t1 g hg6).2, fun h1 => ?_⟩, by rw [kF _ _ (by omega), kF _ _ (by omega)]; exact z5, by rw [kF _ _ (by omega)]; exact z6, ?_, ?_⟩
        · exact (if_neg (by omega)).trans (z4 h1)
        · intro h1
          have h1 : (if g = k then 1 else wh g) = 2 := h1
          by_cases hgk : g = k
          · rw [if_pos hgk] at h1; omega
          · rw [if_neg hgk] at h1
            rw [kF _ _ (by omega)]
            exact z7 h1
        · intro h1
          have h1 : (if g = k then 1 else wh g) ≠ 2 := h1
          by_cases hgk : g = k
          · subst hgk; exact z8 (by omega)
          · rw [if_neg hgk] at h1; exact z8 h1
    · refine ⟨-2, I, I, by rw [if_neg (fun h => hw ((nI_0iff (by omega)).mp h))], ?_, h0⟩
      rw [f_X7_comes, m_isOne hCT, obs, if_pos hx, if_pos v3, n3, w2, if_neg (fun h => hw ((nI_0iff (by omega)).mp h))]
  · refine ⟨-1, I, I, by rw [if_neg hx], ?_, h0⟩
    rw [f_X7_comes, m_isOne hCT, obs, if_neg hx]
theorem sim_undo (h : Inv c d I L) : ∃ r I1 I2, f_X6_undo I = some (r, I1) ∧ f_X7_undo I1 = some (r, I2) ∧ Inv c d I2 L := by
  have h0 := h
  obtain ⟨hc, hd, hcd, hL, hT, q, hCT, hNW, ⟨kn, nx, hH⟩, hIM, hSN⟩ := h
  have hc3 := isC_r hc
  obtain ⟨⟨g1, g2, g3⟩, ⟨g4, g5⟩, hh⟩ := id hH
  rw [f_X6_undo, g1]
  by_cases hk : kn = 0
  · refine ⟨-2, I, I, by rw [if_pos ((nI_0iff (by omega)).mpr hk)], ?_, h0⟩
    rw [f_X7_undo, g2, if_pos ((nI_0iff (by omega)).mpr hk)]
  · have hm : (nx + 9) % 10 < 10 := Nat.mod_lt _ (by decide)
    generalize hp : (nx + 9) % 10 = p at hm
    have e1 : u2 I 19 2 (nI p) 19 2 = nI p := u2_s
    have e2 : bec 15 (21 + 4 * p) (u2 I 19 2 (nI p)) 19 1 = nI kn := by rw [becF (by omega), u2_c (by decide)]; exact g1
    have ek : nI kn - 1 = nI (kn - 1) := by
      have : kn = kn - 1 + 1 := by omega
      rw [this, nI_pred]; rfl
    generalize hJ : u2 (bec 15 (21 + 4 * p) (u2 I 19 2 (nI p))) 19 1 (nI (kn - 1)) = J
    have jF : ∀ a b, a ≠ 19 → (a < 15 ∨ 18 < a) → J a b = I a b := fun a b k1 k2 => by rw [← hJ, u2_r k1, becF (by omega), u2_r k1]
    have j12 : J 77 12 = nI kn := by rw [jF _ _ (by decide) (by decide)]; exact g2
    have e3 : u2 J 77 12 (nI (kn - 1)) 77 12 = nI (kn - 1) := u2_s
    have e4 : cpy 84 (21 * (kn - 1)) 83 0 21 (u2 J 77 12 (nI (kn - 1))) 77 12 = nI (kn - 1) := by rw [cpy, if_neg (by omega)]; exact u2_s
    have kF : ∀ a b, a ≠ 83 → ¬ (a = 77 ∧ b = 12) → a ≠ 19 → (a < 15 ∨ 18 < a) → cpy 84 (21 * (kn - 1)) 83 0 21 (u2 J 77 12 (nI (kn - 1))) a b = I a b := by
      intro a b k1 k2 k3 k4
      rw [cpy, if_neg (by omega)]
      exact (if_neg k2).trans (jF a b k3 k4)
    have kJ : ∀ a b, a < 77 → cpy 84 (21 * (kn - 1)) 83 0 21 (u2 J 77 12 (nI (kn - 1))) a b = J a b := by
      intro a b k1
      rw [cpy, if_neg (by omega), u2_r (by omega)]
    refine ⟨nI (kn - 1), J, cpy 84 (21 * (kn - 1)) 83 0 21 (u2 J 77 12 (nI (kn - 1))), ?_, ?_, hc, hd, hcd, hL, hT.fr ?_, q, hCT.fr ?_, ?_, ?_, hIM.fr ?_, hSN.fr ?_⟩
    · have ev : vinb (u2 I 19 2 (nI p) 19 2) 10 = true := by rw [e1]; exact vinT hm (by omega)
      rw [if_neg (fun h => hk ((nI_0iff (by omega)).mp h)), f_X1_recall, g4, nIl 10, nI_add, show nI (nx + 10) - 1 = nI (nx + 9) from nI_pred _, pk_rem (by omega) (by omega) (by omega), hp, obs, if_pos ev, e1, nIn (by omega), e_become (by omega), obs, e2, ek, hJ, obs, obs, show J 19 1 = nI (kn - 1) by rw [← hJ]; exact u2_s]
    · rw [f_X7_undo, j12, if_neg (fun h => hk ((nI_0iff (by omega)).mp h)), ek, obs, e3, show (21 : Int32) = nI 21 from rfl, pk_mul, show (0 : Int32) = nI 0 from rfl, e_copies (by decide) (by omega) (by omega) (by decide) (by decide), obs, e4]
    · intro a b hk; exact kF _ _ (by omega) (by omega) (by omega) (by omega)
    · intro a b hk; unfold KC at hk; exact kF _ _ (by omega) (by omega) (by omega) (by omega)
    · have hz := hh 0 (by omega)
      rw [Nat.sub_zero, hp, Nat.sub_zero] at hz
      have jj : ∀ a b, J a b = u2 (bec 15 (21 + 4 * p) (u2 I 19 2 (nI p))) 19 1 (nI (kn - 1)) a b := fun a b => by rw [hJ]
      refine hz.mv (fun j hj => ?_) (fun j hj => ?_) (fun j hj => ?_) (fun j hj => ?_) (fun j hj => ?_)
      · rw [kJ _ _ (by omega), jj, u2_r (by omega), bec0 hj, u2_r (by omega)]
      · rw [kJ _ _ (by omega), jj, u2_r (by omega), bec1 hj, u2_r (by omega)]
      · rw [kJ _ _ (by omega), jj, u2_r (by omega), bec2 hj, u2_r (by omega)]
      · rw [kJ _ _ (by omega), jj, u2_r (by omega), bec3 hj, u2_r (by omega)]
      · rw [cpy, if_pos (by omega), u2_r (by decide), jF _ _ (by decide) (by decide)]
        congr 1
        omega
    · refine ⟨kn - 1, p, ⟨?_, e4, by omega⟩, ⟨?_, hm⟩, fun i hi => ?_⟩
      · rw [kJ _ _ (by omega), ← hJ]; exact u2_s
      · rw [kJ _ _ (by omega), ← hJ, u2_c (by decide), becF (by omega)]; exact u2_s
      · have hz := hh (i + 1) (by omega)
        have e5 : (nx + 9 - (i + 1)) % 10 = (p + 9 - i) % 10 := by omega
        have hm2 : (p + 9 - i) % 10 < 10 := Nat.mod_lt _ (by decide)
        rw [e5, show kn - 1 - (i + 1) = kn - 1 - 1 - i by omega] at hz
        exact hz.mv (fun j _ => kF _ _ (by omega) (by omega) (by omega) (by omega)) (fun j _ => kF _ _ (by omega) (by omega) (by omega) (by omega)) (fun j _ => kF _ _ (by omega) (by omega) (by omega) (by omega)) (fun j _ => kF _ _ (by omega) (by omega) (by omega) (by omega)) (fun j _ => kF _ _ (by omega) (by omega) (by omega) (by omega))
    · intro a b hk; exact kF _ _ (by omega) (by omega) (by omega) (by omega)
    · intro a b hk; exact kF _ _ (by omega) (by omega) (by omega) (by omega)
theorem sim_keep (h : Inv c d I L) (x : Int32) : ∃ r I1 I2, f_X6_keep I x = some (r, I1) ∧ f_X7_keep I1 x = some (r, I2) ∧ Inv c d I2 L := by
  have h0 := h
  obtain ⟨hc, hd, hcd, hL, hT, q, hCT, hNW, hHS, hIM, hSN⟩ := h
  have hc3 := isC_r hc
  have hN := hNW
  obtain ⟨mi, lf, pi, wh, ti, ⟨a1, a2, a3⟩, -⟩ := hN
  rw [f_X6_keep, nIl 2, rng_eq3 (by decide)]
  by_cases hx : vinb x 2 = true
  · obtain ⟨k, hk, hk2, rfl⟩ := vin_of hx
    generalize hJ : u2 (bec (69 + 4 * k) 15 I) 62 k 1 = J
    have jF : ∀ a b, a ≠ 62 → (a < 69 + 4 * k ∨ 72 + 4 * k < a) → J a b = I a b := fun a b k1 k2 => by rw [← hJ, u2_r k1, becF (by omega)]
    have kF : ∀ a b, a ≠ 62 → (a < 69 + 4 * k ∨ 72 + 4 * k < a) → a ≠ 85 → a ≠ 86 → u2 (cpy 83 0 85 (21 * k) 21 J) 86 k 1 a b = I a b := by
      intro a b k1 k2 k3 k4
      rw [u2_r k4, cpy, if_neg (by omega), jF a b k1 k2]
    have kJ : ∀ a b, a < 77 → u2 (cpy 83 0 85 (21 * k) 21 J) 86 k 1 a b = J a b := by
      intro a b k1
      rw [u2_r (by omega), cpy, if_neg (by omega)]
    refine ⟨nI mi, J, u2 (cpy 83 0 85 (21 * k) 21 J) 86 k 1, ?_, ?_, hc, hd, hcd, hL, hT.fr ?_, q, hCT.fr ?_, hNW.fr ?_, hHS.fr ?_, ?_, hSN.fr ?_⟩
    · rw [if_pos hx, if_pos hx, nIn hk2, e_become (by omega), obs, if_pos hx, hJ, obs, jF _ _ (by omega) (by omega), a1]
    · rw [f_X7_keep, m_isBit, obs, if_pos hx, show (21 : Int32) = nI 21 from rfl, pk_mul, show (0 : Int32) = nI 0 from rfl, e_copies (by decide) (by omega) (by omega) (by decide) (by decide), obs, if_pos hx, nIn hk2, obs, if_pos (by decide), show (nI 0).toNatClampNeg = 0 from rfl, kF _ _ (by decide) (by omega) (by decide) (by decide), a2]
    · intro a b hk; exact kF _ _ (by omega) (by omega) (by omega) (by omega)
    · intro a b hk; unfold KC at hk; exact kF _ _ (by omega) (by omega) (by omega) (by omega)
    · intro a b hk; exact kF _ _ (by omega) (by omega) (by omega) (by omega)
    · intro a b hk; exact kF _ _ (by omega) (by omega) (by omega) (by omega)
    · intro i hi
      by_cases hik : i = k
      · subst hik
        have jj : ∀ a b, J a b = u2 (bec (69 + 4 * i) 15 I) 62 i 1 a b := fun a b => by rw [hJ]
        refine Or.inr ⟨by rw [kJ _ _ (by omega), jj]; exact u2_s, u2_s, hNW.mv (fun j hj => ?_) (fun j hj => ?_) (fun j hj => ?_) (fun j hj => ?_) (fun j hj => ?_)⟩
        · rw [kJ _ _ (by omega), jj, u2_r (by omega), bec0 hj]
        · rw [kJ _ _ (by omega), jj, u2_r (by omega), bec1 hj]
        · rw [kJ _ _ (by omega), jj, u2_r (by omega), bec2 hj]
        · rw [kJ _ _ (by omega), jj, u2_r (by omega), bec3 hj]
        · rw [u2_r (by decide), cpy, if_pos (by omega), jF _ _ (by decide) (by omega)]
          congr 1
          omega
      · have k1 : ∀ b, b ≠ k → u2 (cpy 83 0 85 (21 * k) 21 J) 86 k 1 62 b = I 62 b := fun b hb => by
          rw [kJ _ _ (by omega), ← hJ, u2_c hb, becF (by omega)]
        have k2 : ∀ b, b ≠ k → u2 (cpy 83 0 85 (21 * k) 21 J) 86 k 1 86 b = I 86 b := fun b hb => by
          rw [u2_c hb, cpy, if_neg (by omega), jF _ _ (by decide) (by omega)]
        have k3 : ∀ a b, 69 + 4 * i ≤ a → a ≤ 72 + 4 * i → u2 (cpy 83 0 85 (21 * k) 21 J) 86 k 1 a b = I a b := fun a b h1 h2 => kF _ _ (by omega) (by omega) (by omega) (by omega)
        rw [k1 i hik, k2 i hik]
        rcases hIM i hi with h | ⟨h1, h2, h3⟩
        · exact Or.inl h
        · refine Or.inr ⟨h1, h2, h3.mv (fun j _ => k3 _ _ (by omega) (by omega)) (fun j _ => k3 _ _ (by omega) (by omega)) (fun j _ => k3 _ _ (by omega) (by omega)) (fun j _ => k3 _ _ (by omega) (by omega)) (fun j hj => ?_)⟩
          rw [u2_r (by decide), cpy, if_neg (by omega), jF _ _ (by decide) (by omega)]
    · intro a b hk; exact kF _ _ (by omega) (by omega) (by omega) (by omega)
  · refine ⟨-1, I, I, by rw [if_neg hx], ?_, h0⟩
    rw [f_X7_keep, m_isBit, obs, if_neg hx]
theorem sim_back (h : Inv c d I L) (x : Int32) : ∃ r I1 I2, f_X6_back I x = some (r, I1) ∧ f_X7_back I1 x = some (r, I2) ∧ Inv c d I2 L := by
  have h0 := h
  obtain ⟨hc, hd, hcd, hL, hT, q, hCT, hNW, ⟨kn, nx, hH⟩, hIM, hSN⟩ := h
  have hc3 := isC_r hc
  obtain ⟨⟨g1, g2, g3⟩, ⟨g4, g5⟩, hh⟩ := id hH
  rw [f_X6_back, nIl 2, rng_eq3 (by decide)]
  by_cases hx : vinb x 2 = true
  · obtain ⟨k, hk, hk2, rfl⟩ := vin_of hx
    rw [if_pos hx, if_pos hx, nIn hk2]
    rcases hIM k hk with ⟨h1, h2⟩ | ⟨h1, h2, h3⟩
    · refine ⟨-2, I, I, by rw [if_pos h1]; rfl, ?_, h0⟩
      rw [f_X7_back, m_isBit, obs, if_pos hx, if_pos hx, nIn hk2, if_pos h2]
    · generalize hJ : u2 (bec 15 (69 + 4 * k) I) 19 1 0 = J
      have jF : ∀ a b, ¬ (a = 19 ∧ b = 1) → (a < 15 ∨ 18 < a) → J a b = I a b := fun a b k1 k2 => by
        rw [← hJ]; exact (if_neg k1).trans (becF (by omega))
      have kF : ∀ a b, ¬ (a = 19 ∧ b = 1) → (a < 15 ∨ 18 < a) → a ≠ 83 → ¬ (a = 77 ∧ b = 12) → u2 (cpy 85 (21 * k) 83 0 21 J) 77 12 0 a b = I a b := by
        intro a b k1 k2 k3 k4
        refine (if_neg k4).trans ?_
        rw [cpy, if_neg (by omega), jF a b k1 k2]
      have kJ : ∀ a b, a < 77 → u2 (cpy 85 (21 * k) 83 0 21 J) 77 12 0 a b = J a b := by
        intro a b k1
        rw [u2_r (by omega), cpy, if_neg (by omega)]
      have jj : ∀ a b, J a b = u2 (bec 15 (69 + 4 * k) I) 19 1 0 a b := fun a b => by rw [hJ]
      have hNK : NW (u2 (cpy 85 (21 * k) 83 0 21 J) 77 12 0) q := by
        refine h3.mv (fun j hj => ?_) (fun j hj => ?_) (fun j hj => ?_) (fun j hj => ?_) (fun j hj => ?_)
        · rw [kJ _ _ (by omega), jj, u2_r (by omega), bec0 hj]
        · rw [kJ _ _ (by omega), jj, u2_r (by omega), bec1 hj]
        · rw [kJ _ _ (by omega), jj, u2_r (by omega), bec2 hj]
        · rw [kJ _ _ (by omega), jj, u2_r (by omega), bec3 hj]
        · rw [u2_r (by decide), cpy, if_pos (by omega), jF _ _ (by omega) (by omega)]
          congr 1
          omega
      obtain ⟨mi, lf, pi, wh, ti, ⟨a1, a2, a3⟩, -⟩ := id hNK
      rw [kJ _ _ (by omega)] at a1
      refine ⟨nI mi, J, u2 (cpy 85 (21 * k) 83 0 21 J) 77 12 0, ?_, ?_, hc, hd, hcd, hL, hT.fr ?_, q, hCT.fr ?_, hNK, ?_, hIM.fr ?_, hSN.fr ?_⟩
      · rw [if_neg (by rw [h1]; decide), if_pos hx, e_become (by omega), obs, hJ, obs, a1]
      · have j86 : J 86 k = 1 := by rw [jF _ _ (by omega) (by decide)]; exact h2
        rw [f_X7_back, m_isBit, obs, if_pos hx, if_pos hx, nIn hk2, j86, if_neg (by decide), show (21 : Int32) = nI 21 from rfl, pk_mul, show f_X7_copies 85 42 83 21 J (nI (21 * k)) 0 (nI 21) = _ from e_copies (t := 0) (by decide) (by omega) (by omega) (by decide) (by decide), obs, obs, if_pos (by decide), show (0 : Int32).toNatClampNeg = 0 from rfl, a2]
      · intro a b hk; exact kF _ _ (by omega) (by omega) (by omega) (by omega)
      · intro a b hk; unfold KC at hk; exact kF _ _ (by omega) (by omega) (by omega) (by omega)
      · refine ⟨0, nx, ⟨by rw [kJ _ _ (by omega), ← hJ]; exact u2_s, u2_s, by omega⟩, ⟨by rw [kF _ _ (by omega) (by omega) (by omega) (by omega)]; exact g4, g5⟩, fun i hi => by omega⟩
      · intro a b hk; exact kF _ _ (by omega) (by omega) (by omega) (by omega)
      · intro a b hk; exact kF _ _ (by omega) (by omega) (by omega) (by omega)
  · refine ⟨-1, I, I, by rw [if_neg hx], ?_, h0⟩
    rw [f_X7_back, m_isBit, obs, if_neg hx]
end SIMG
