/-! the class's line -/
def gain (q : Ct) (lf i g : Nat) : Nat := if gd q (if qL q = 0 then 0 else (lf + i) % qL q) g = 0 then 0 else 1
theorem gain_le (q : Ct) (lf i g : Nat) : gain q lf i g ≤ 1 := by unfold gain; split <;> split <;> omega
theorem mxl_le {W : Nat → Nat} {b : Nat} (h : ∀ g, W g ≤ b) : ∀ l, mxl W l ≤ b
  | [] => Nat.zero_le _
  | g :: r => by rw [mxl_c]; exact Nat.max_le.mpr ⟨h g, mxl_le h r⟩
theorem bsv_le (s : Nat) (q : Ct) (lf : Nat) : ∀ n t, bsv s (gain q lf) n t ≤ n
  | 0, _ => Nat.le_refl _
  | n + 1, t => by
    rw [bsv]
    exact mxl_le (fun g => by have := bsv_le s q lf n (t ||| 2 ^ g); have := gain_le q lf (pc t) g; show gain q lf (pc t) g + bsv s (gain q lf) n (t ||| 2 ^ g) ≤ n + 1; omega) _
def Bv (s : Nat) (q : Ct) (lf t : Nat) : Nat := bsv s (gain q lf) (pc (sd s t)) t
theorem Bv_le {s : Nat} {q : Ct} {lf t : Nat} : Bv s q lf t ≤ 6 := Nat.le_trans (bsv_le s q lf _ t) (pc_le _)
def Wv (s : Nat) (q : Ct) (lf t g : Nat) : Nat := gain q lf (pc t) g + Bv s q lf (t ||| 2 ^ g)
theorem Wv_le {s : Nat} {q : Ct} {lf t g : Nat} : Wv s q lf t g ≤ 7 := by
  have := gain_le q lf (pc t) g
  have := Bv_le (s := s) (q := q) (lf := lf) (t := t ||| 2 ^ g)
  unfold Wv
  omega
theorem Bv_eq {s : Nat} {q : Ct} {lf t : Nat} (hs : s < 64) (ht : t < 64) (hst : sd t s = 0) : Bv s q lf t = mxl (Wv s q lf t) (mem (sd s t) 6 0) := by
  rw [Bv]
  cases h : pc (sd s t) with
  | zero =>
    have := mem_len (sd_lt (t := t) hs)
    rw [h] at this
    rw [List.length_eq_zero_iff.mp this, mxl, bsv]
  | succ n =>
    rw [bsv]
    refine mxl_cong (fun g hg => ?_)
    obtain ⟨h1, h2⟩ := mem_of (sd_lt hs) hg
    obtain ⟨e1, e2, e3, e4, e5⟩ := sd_step hs ht h1 hst h2
    rw [Wv, Bv, show pc (sd s (t ||| 2 ^ g)) = n by omega]
theorem jmax_nI {a b : Nat} (ha : a < 2147483648) (hb : b < 2147483648) : jmax (nI a) (nI b) = nI (max a b) := by
  unfold jmax
  by_cases h : a < b
  · first
      | rw [if_pos ((nIlt ha hb).mpr h), Nat.max_eq_right (by omega)]
      | rw [if_neg (by rw [nIle hb ha]; omega), Nat.max_eq_right (by omega)]
      | rw [if_neg (by rw [nIlt hb ha]; omega), Nat.max_eq_right (by omega)]
  · first
      | rw [if_neg (by rw [nIlt ha hb]; exact h), Nat.max_eq_left (by omega)]
      | rw [if_pos ((nIle hb ha).mpr (by omega)), Nat.max_eq_left (by omega)]
theorem mem_s (r m k : Nat) : mem r (m + 1) k = if r.testBit k = true then k :: mem r m (k + 1) else mem r m (k + 1) := rfl
section LNB
variable {c d : Nat} {I J K : Hi} {L : Hl} {q : Ct} {lf s : Nat}
theorem e_worth (hCT : CT I c q) (h1 : I 15 1 = nI lf) (hl : lf < 1000) {t g v : Nat} (ht : t < 64) (hg : g < 6) (ht2 : t ||| 2 ^ g < 64) (h68 : I 68 (t ||| 2 ^ g) = nI v) : f_X2_worth c 15 I (nI g) (nI t) = some (nI (gain q lf (pc t) g + v)) := by
  have hp := pc_le t
  have h5 := hCT.L5
  have hx : (if qL q = 0 then 0 else (lf + pc t) % qL q) < 2147483648 := by
    split
    · omega
    · have := Nat.mod_lt (lf + pc t) (show qL q > 0 by omega); omega
  rw [f_X2_worth, bc_eq ht, obs, h1, e_leafBehind hCT hl (by omega), obs, e_goodTastes hCT hx (by omega), obs, gain]
  have hgd := gd_lt hCT (l := if qL q = 0 then 0 else (lf + pc t) % qL q) (g := g)
  by_cases hz : gd q (if qL q = 0 then 0 else (lf + pc t) % qL q) g = 0
  · rw [if_pos ((nI_0iff (by omega)).mpr hz), if_pos hz, b_X2_worth_30, shl1 (by omega), nIor, if_pos (vinT ht2 (by omega)), nIn (by omega), h68, show bI false = nI 0 from rfl, nI_add]
  · rw [if_neg (fun h => hz ((nI_0iff (by omega)).mp h)), if_neg hz, b_X2_worth_30, shl1 (by omega), nIor, if_pos (vinT ht2 (by omega)), nIn (by omega), h68, show bI true = nI 1 from rfl, nI_add]
theorem l_most (hCT : CT I c q) (h1 : I 15 1 = nI lf) (hl : lf < 1000) (hs : s < 64) {t : Nat} (ht : t < 64) (hst : sd t s = 0) (hr : ∀ g, g < 6 → (sd s t).testBit g = true → I 68 (t ||| 2 ^ g) = nI (Bv s q lf (t ||| 2 ^ g))) : ∀ (m k f M : Nat), M ≤ 7 → k + m = 6 → m < f → b_X2_mostBehind_6 c 15 I f (nI t) (nI s) (nI M) (nI k) = some (nI (max M (mxl (Wv s q lf t) (mem (sd s t) m k))))
  | 0, k, f + 1, M, hM, hk, hf => by
    rw [b_X2_mostBehind_6, nIl 6, if_pos ((nIle (by omega) (by omega)).mpr (by omega)), mem, mxl, Nat.max_eq_left (by omega)]
  | m + 1, k, f + 1, M, hM, hk, hf => by
    have ih := fun M hM => l_most hCT h1 hl hs ht hst hr m (k + 1) f M hM (by omega) (by omega)
    have h64 := sd_lt (t := t) hs
    rw [b_X2_mostBehind_6, nIl 6, if_neg (by rw [nIle (by omega) (by omega)]; omega), sd_eq hs ht, has_eq (by omega) (by omega), obs, mem_s]
    cases hb : (sd s t).testBit k with
    | true =>
      obtain ⟨e1, e2, e3, e4, e5⟩ := sd_step hs ht (by omega) hst hb
      have hW := Wv_le (s := s) (q := q) (lf := lf) (t := t) (g := k)
      rw [if_pos rfl, if_pos rfl, e_worth hCT h1 hl ht (by omega) e3 (hr k (by omega) hb), obs, b_X2_mostBehind_43, nI_1, show gain q lf (pc t) k + Bv s q lf (t ||| 2 ^ k) = Wv s q lf t k from rfl, jmax_nI (by omega) (by omega), ih _ (by omega), mxl_c, Nat.max_assoc]
    | false => rw [if_neg (by decide), if_neg (by decide), b_X2_mostBehind_43, nI_1, ih M hM]
theorem e_most (hCT : CT I c q) (h1 : I 15 1 = nI lf) (hl : lf < 1000) (hs : s < 64) {t : Nat} (ht : t < 64) (hst : sd t s = 0) (hr : ∀ g, g < 6 → (sd s t).testBit g = true → I 68 (t ||| 2 ^ g) = nI (Bv s q lf (t ||| 2 ^ g))) : f_X2_mostBehind c 15 I (nI t) (nI s) = some (nI (Bv s q lf t)) := by
  have := l_most hCT h1 hl hs ht hst hr 6 0 2000 0 (by omega) (by omega) (by omega)
  rw [Nat.max_eq_right (Nat.zero_le _), ← Bv_eq hs ht hst] at this
  rw [f_X2_mostBehind]
  exact this
theorem addm1 (x : Int32) : x + (-1) = x - 1 := (Int32.sub_eq_add_neg ..).symm
theorem l_weigh (hc : isC c) (h1 : I 15 1 = nI lf) (hl : lf < 1000) (hs : s < 64) : ∀ (k f : Nat) (J : Hi), CT J c q → J 15 1 = nI lf → k ≤ s + 1 → k < f → (∀ t, k ≤ t → t ≤ s → sd t s = 0 → J 68 t = nI (Bv s q lf t)) → ∃ K, b_X2_weigh_9 c 15 f J (nI s) (nI k - 1) = some K ∧ (∀ t, t ≤ s → sd t s = 0 → K 68 t = nI (Bv s q lf t)) ∧ (∀ a b, a ≠ 68 → K a b = J a b)
  | 0, f + 1, J, hCT, hJ, hk, hf, hr => ⟨J, by rw [b_X2_weigh_9, if_pos (by decide)], fun t h2 h3 => hr t (Nat.zero_le _) h2 h3, fun _ _ _ => rfl⟩
  | k + 1, f + 1, J, hCT, hJ, hk, hf, hr => by
    have hc3 := isC_r hc
    have h64 := sd_lt (s := k) (t := s) (by omega)
    rw [b_X2_weigh_9, nI_pred, if_neg (nIp (by omega)), sd_eq (by omega) hs]
    by_cases hz : sd k s = 0
    · have hm := e_most hCT hJ hl hs (by omega) hz (fun g hg hb => by
        obtain ⟨e1, e2, e3, e4, e5⟩ := sd_step hs (by omega) hg hz hb
        exact hr _ (by omega) (sub_le hs e3 e1) e1)
      obtain ⟨K, k1, k2, k3⟩ := l_weigh hc h1 hl hs k f (u2 J 68 k (nI (Bv s q lf k))) (hCT.fr (fun a b h => by unfold KC at h; exact u2_r (by omega))) (by rw [u2_r (by decide)]; exact hJ) (by omega) (by omega) (fun t h2 h3 h4 => by
        by_cases htk : t = k
        · rw [htk, u2_s]
        · rw [u2_c htk]; exact hr t (by omega) h3 h4)
      refine ⟨K, ?_, k2, fun a b h => by rw [k3 a b h, u2_r h]⟩
      rw [if_pos ((nI_0iff (by omega)).mpr hz), hm, obs, if_pos (vinT (by omega) (by omega)), nIn (by omega), obs, b_X2_weigh_39, addm1]
      exact k1
    · obtain ⟨K, k1, k2, k3⟩ := l_weigh hc h1 hl hs k f J hCT hJ (by omega) (by omega) (fun t h2 h3 h4 => by
        by_cases htk : t = k
        · exact absurd (htk ▸ h4) hz
        · exact hr t (by omega) h3 h4)
      refine ⟨K, ?_, k2, k3⟩
      rw [if_neg (fun h => hz ((nI_0iff (by omega)).mp h)), b_X2_weigh_39, addm1]
      exact k1
theorem l_low (hCT : CT I c q) (h1 : I 15 1 = nI lf) (hl : lf < 1000) (hs : s < 64) {t : Nat} (ht : t < 64) (hst : sd t s = 0) (h0 : I 68 t = nI (Bv s q lf t)) (hr : ∀ g, g < 6 → (sd s t).testBit g = true → I 68 (t ||| 2 ^ g) = nI (Bv s q lf (t ||| 2 ^ g))) : ∀ (m k f : Nat), k + m = 6 → m < f → (mem (sd s t) m k ≠ [] → mxl (Wv s q lf t) (mem (sd s t) m k) = Bv s q lf t) → b_X2_lowestOfBest_3 c 15 I f (nI t) (nI s) (nI k) = some (if mem (sd s t) m k = [] then -9 else nI (gst (Wv s q lf t) (mem (sd s t) m k)))
  | 0, k, f + 1, hk, hf, hM => by
    rw [b_X2_lowestOfBest_3, nIl 6, if_pos ((nIle (by omega) (by omega)).mpr (by omega)), mem, if_pos rfl]
  | m + 1, k, f + 1, hk, hf, hM => by
    have ih := l_low hCT h1 hl hs ht hst h0 hr m (k + 1) f (by omega) (by omega)
    have h64 := sd_lt (t := t) hs
    rw [b_X2_lowestOfBest_3, nIl 6, if_neg (by rw [nIle (by omega) (by omega)]; omega), sd_eq hs ht, has_eq (by omega) (by omega), obs]
    rw [mem_s] at hM ⊢
    cases hb : (sd s t).testBit k with
    | true =>
      rw [hb, if_pos rfl] at hM
      have hM := hM (List.cons_ne_nil _ _)
      obtain ⟨e1, e2, e3, e4, e5⟩ := sd_step hs ht (by omega) hst hb
      have hW := Wv_le (s := s) (q := q) (lf := lf) (t := t) (g := k)
      have hB := Bv_le (s := s) (q := q) (lf := lf) (t := t)
      rw [if_pos rfl, if_pos rfl, if_neg (List.cons_ne_nil _ _), e_worth hCT h1 hl ht (by omega) e3 (hr k (by omega) hb), obs, if_pos (vinT (by omega) (by omega)), nIn (by omega), h0, show gain q lf (pc t) k + Bv s q lf (t ||| 2 ^ k) = Wv s q lf t k from rfl, gst_c]
      rw [mxl_c] at hM
      by_cases he : Wv s q lf t k = Bv s q lf t
      · rw [if_pos (by rw [he]), if_pos (by omega)]
      · have hlt : ¬ mxl (Wv s q lf t) (mem (sd s t) m (k + 1)) ≤ Wv s q lf t k := by omega
        have hne : mem (sd s t) m (k + 1) ≠ [] := by
          intro h
          rw [h] at hlt
          exact hlt (Nat.zero_le _)
        rw [if_neg (by rw [nIeq (by omega) (by omega)]; exact he), b_X2_lowestOfBest_45, nI_1, ih (fun _ => by omega), if_neg hne, if_neg hlt]
    | false =>
      rw [hb, if_neg (by decide)] at hM
      rw [show (if false = true then k :: mem (sd s t) m (k + 1) else mem (sd s t) m (k + 1)) = mem (sd s t) m (k + 1) from rfl, if_neg (show ¬ (false = true) by decide), b_X2_lowestOfBest_45, nI_1, ih hM]
theorem e_low (hCT : CT I c q) (h1 : I 15 1 = nI lf) (hl : lf < 1000) (hs : s < 64) {t : Nat} (ht : t < 64) (hst : sd t s = 0) (hr : ∀ t, t ≤ s → sd t s = 0 → I 68 t = nI (Bv s q lf t)) : f_X2_lowestOfBest c 15 I (nI t) (nI s) = some (if mem (sd s t) 6 0 = [] then -9 else nI (gst (Wv s q lf t) (mem (sd s t) 6 0))) := by
  rw [f_X2_lowestOfBest]
  exact l_low hCT h1 hl hs ht hst (hr _ (sub_le hs ht hst) hst) (fun g hg hb => by
    obtain ⟨e1, e2, e3, e4, e5⟩ := sd_step hs ht hg hst hb
    exact hr _ (sub_le hs e3 e1) e1) 6 0 2000 (by omega) (by omega) (fun _ => (Bv_eq hs ht hst).symm)
theorem grd_c {gn : Nat → Nat → Nat} (n t : Nat) : grd s gn (n + 1) t = gst (fun g => gn (pc t) g + bsv s gn n (t ||| 2 ^ g)) (mem (sd s t) 6 0) :: grd s gn n (t ||| 2 ^ gst (fun g => gn (pc t) g + bsv s gn n (t ||| 2 ^ g)) (mem (sd s t) 6 0)) := rfl
theorem l_goerAt (hCT : CT I c q) (h1 : I 15 1 = nI lf) (hl : lf < 1000) (hs : s < 64) (hr : ∀ t, t ≤ s → sd t s = 0 → I 68 t = nI (Bv s q lf t)) {j : Nat} (hj : j < 6) : ∀ (e i n t f : Nat) (x : Int32), i + e = j + 1 → t < 64 → sd t s = 0 → pc (sd s t) = n → e < f → b_X2_goerAt_17 c 15 I f (nI j) (nI s) (nI t) x (nI i) = some (if e = 0 then x else if e ≤ n then nI (gq (grd s (gain q lf) n t) (e - 1)) else -9)
  | 0, i, n, t, f + 1, x, hi, ht, hst, hn, hf => by
    rw [b_X2_goerAt_17, if_pos ((nIlt (by omega) (by omega)).mpr (by omega)), if_pos rfl]
  | e + 1, i, n, t, f + 1, x, hi, ht, hst, hn, hf => by
    rw [b_X2_goerAt_17, if_neg (by rw [nIlt (by omega) (by omega)]; omega), e_low hCT h1 hl hs ht hst hr, obs, if_neg (show ¬ e + 1 = 0 by omega)]
    have hlen := mem_len (sd_lt (t := t) hs)
    rw [hn] at hlen
    cases n with
    | zero =>
      have := List.length_eq_zero_iff.mp hlen
      rw [if_pos this, if_pos rfl, if_neg (by omega)]
    | succ n =>
      have hne : mem (sd s t) 6 0 ≠ [] := by intro h; rw [h] at hlen; cases hlen
      rw [if_neg hne]
      have hcg : gst (Wv s q lf t) (mem (sd s t) 6 0) = gst (fun g => gain q lf (pc t) g + bsv s (gain q lf) n (t ||| 2 ^ g)) (mem (sd s t) 6 0) := gst_cong (fun g hg => by
        obtain ⟨z1, z2⟩ := mem_of (sd_lt hs) hg
        obtain ⟨e1, e2, e3, e4, e5⟩ := sd_step hs ht z1 hst z2
        rw [Wv, Bv, show pc (sd s (t ||| 2 ^ g)) = n by omega])
      obtain ⟨g1, g2⟩ := mem_of (sd_lt hs) (gst_mem (W := Wv s q lf t) hne)
      rw [grd_c, ← hcg]
      generalize gst (Wv s q lf t) (mem (sd s t) 6 0) = g at g1 g2 ⊢
      obtain ⟨e1, e2, e3, e4, e5⟩ := sd_step hs ht g1 hst g2
      have n9 : ¬ nI g = -9 := by
        intro h
        have := congrArg Int32.toInt h
        rw [nI_toInt (by omega)] at this
        have e9 : (-9 : Int32).toInt = -9 := by decide
        omega
      rw [if_neg n9, shl1 (by omega), nIor, nI_1, l_goerAt hCT h1 hl hs hr hj e (i + 1) n (t ||| 2 ^ g) f (nI g) (by omega) e3 e1 (by omega) (by omega)]
      cases e with
      | zero => rw [if_pos rfl, if_pos (by omega)]; rfl
      | succ e =>
        rw [if_neg (by omega)]
        by_cases he : e + 1 ≤ n
        · rw [if_pos he, if_pos (by omega)]; rfl
        · rw [if_neg he, if_neg (by omega)]
end LNB
