/-! rows, numbers, items -/
def isAF (v : Nat) : Bool := decide (97 ≤ v) && decide (v ≤ 102)
theorem isAF_iff {v : Nat} : isAF v = true ↔ 97 ≤ v ∧ v ≤ 102 := by
  unfold isAF
  rw [Bool.and_eq_true, decide_eq_true_eq, decide_eq_true_eq]
theorem taf_all : ((List.range 256).all fun v => decide (vinb (nI v - 97) 6 = isAF v)) = true := by decide +kernel
theorem taf {v : Nat} (h : v < 256) : vinb (nI v - 97) 6 = isAF v := by
  have := List.all_eq_true.mp taf_all v (List.mem_range.mpr h)
  simpa using this
def aaf (tx : Nat → Nat) : Nat → Nat → Bool
  | 0, _ => true
  | m + 1, s => isAF (tx s) && aaf tx m (s + 1)
def rbs (tx : Nat → Nat) : Nat → Nat → Nat → Nat
  | 0, _, a => a
  | m + 1, s, a => rbs tx m (s + 1) (a ||| 2 ^ (tx s - 97))
theorem aaf_at {tx : Nat → Nat} : ∀ {m s j : Nat}, aaf tx m s = true → s ≤ j → j < s + m → isAF (tx j) = true
  | 0, s, j, _, h1, h2 => by omega
  | m + 1, s, j, h, h1, h2 => by
    rw [aaf, Bool.and_eq_true] at h
    by_cases hj : j = s
    · rw [hj]; exact h.1
    · exact aaf_at h.2 (by omega) (by omega)
theorem rbs_lt {tx : Nat → Nat} : ∀ m s a, aaf tx m s = true → a < 64 → rbs tx m s a < 64
  | 0, _, _, _, h => h
  | m + 1, s, a, h, ha => by
    rw [aaf, Bool.and_eq_true] at h
    have := isAF_iff.mp h.1
    have h2 : 2 ^ (tx s - 97) < 2 ^ 6 := Nat.pow_lt_pow_right (by decide) (by omega)
    exact rbs_lt m (s + 1) _ h.2 (Nat.or_lt_two_pow (n := 6) ha h2)
theorem rbs_ge {tx : Nat → Nat} : ∀ m s a, a ≤ rbs tx m s a
  | 0, _, _ => Nat.le_refl _
  | m + 1, s, a => Nat.le_trans Nat.left_le_or (rbs_ge m (s + 1) _)
theorem rbs_pos {tx : Nat → Nat} {m s : Nat} (h : 0 < m) : 0 < rbs tx m s 0 := by
  cases m with
  | zero => omega
  | succ m =>
    rw [rbs, Nat.zero_or]
    exact Nat.lt_of_lt_of_le (Nat.two_pow_pos _) (rbs_ge m (s + 1) _)
def rok (tx : Nat → Nat) (k st en mn : Nat) : Bool := decide (k = 1) && (decide (mn ≤ en - st) && (decide (en - st ≤ 6) && aaf tx (en - st) st))
def K2 (I J : Hi) (tl : Nat) (tx : Nat → Nat) (k st en : Nat) : Prop := (I 1 2 = nI k ∧ J 77 22 = nI k ∧ k ≤ 4) ∧ (I 1 3 = nI st ∧ J 77 21 = nI st ∧ st ≤ en) ∧ (I 1 4 = nI en ∧ J 77 20 = nI en ∧ en ≤ tl) ∧ (k ≠ 0 → st < en) ∧ (k = 2 → (∀ j, st ≤ j → j < en → 48 ≤ tx j) ∧ J 77 23 = nI (nm tx (en - st) st 0) ∧ nm tx (en - st) st 0 ≤ 99)
section TXC
variable {I J I' J' : Hi} {tl d : Nat} {tx : Nat → Nat}
theorem step2 (h : T2 I J tl tx) {e : Nat} (h4 : I 1 4 = nI e) (j4 : J 77 20 = nI e) (he : e ≤ tl) : ∃ k st en I' J', f_X5_step I = some I' ∧ f_X7_step J = some J' ∧ K2 I' J' tl tx k st en ∧ e ≤ st ∧ (∀ a b, ¬ (a = 1 ∧ 2 ≤ b ∧ b ≤ 4) → I' a b = I a b) ∧ (∀ a b, ¬ (a = 77 ∧ 20 ≤ b ∧ b ≤ 23) → J' a b = J a b) := by
  have h160 := h.1.2.2
  have hs := sk_ge (tx := tx) (tl - e) e
  refine ⟨tkK tx tl (sk tx (tl - e) e), sk tx (tl - e) e, tkE tx tl (sk tx (tl - e) e), _, _, e_step h h4 he, m_step h.mt j4 he, ?_, hs.1, fun a b k => ?_, fun a b k => ?_⟩
  · generalize sk tx (tl - e) e = st at hs ⊢
    have hst : st ≤ tl := by omega
    have facts : st ≤ tkE tx tl st ∧ tkE tx tl st ≤ tl ∧ tkK tx tl st ≤ 4 ∧ (tkK tx tl st ≠ 0 → st < tkE tx tl st) ∧ (tkK tx tl st = 2 → (∀ j, st ≤ j → j < tkE tx tl st → 48 ≤ tx j) ∧ tkV tx tl st = nm tx (tkE tx tl st - st) st 0 ∧ tkV tx tl st ≤ 99) := by
      by_cases hlt : st < tl
      · have hE : tkE tx tl st = if isL (tx st) = true then ad isL tx (tl - st) st else if isD (tx st) = true then ad isD tx (tl - st) st else st + 1 := if_pos hlt
        have hK : tkK tx tl st = if isL (tx st) = true then 1 else if isD (tx st) = true then nkd tx st (tkE tx tl st) else if tx st = 59 then 3 else 4 := if_pos hlt
        cases hl : isL (tx st) with
        | true =>
          rw [hl, if_pos rfl] at hE hK
          have g1 := ad_ge (p := isL) (tx := tx) (tl - st) st
          have g2 := ad_gt (p := isL) (tx := tx) (m := tl - st) (s := st) (by omega) hl
          rw [hE, hK]
          exact ⟨by omega, by omega, by omega, fun _ => g2, fun k => by omega⟩
        | false =>
          rw [hl, if_neg (by decide)] at hE hK
          cases hd : isD (tx st) with
          | true =>
            rw [hd, if_pos rfl] at hE hK
            have hV : tkV tx tl st = cv tx (tl - st) st 0 := if_pos ⟨hlt, hl, hd⟩
            have g1 := ad_ge (p := isD) (tx := tx) (tl - st) st
            have g2 := ad_gt (p := isD) (tx := tx) (m := tl - st) (s := st) (by omega) hd
            obtain ⟨f1, f2⟩ := cv_facts (tx := tx) (m := tl - st) (by omega) hd
            have g3 := fun j => ad_p (p := isD) (tx := tx) (tl - st) st j
            rw [hK, hE, hV]
            have hk4 : nkd tx st (ad isD tx (tl - st) st) ≤ 4 := by
              unfold nkd
              split
              · omega
              · split <;> omega
            refine ⟨by omega, by omega, hk4, fun _ => g2, fun k => ?_⟩
            have h2 : ad isD tx (tl - st) st - st ≤ 2 := by
              unfold nkd at k
              split at k
              · omega
              · split at k
                · assumption
                · omega
            exact ⟨fun j a b => (isD_iff.mp (g3 j a b)).1, (f1 h2).2, (f1 h2).1⟩
          | false =>
            rw [hd, if_neg (by decide)] at hE hK
            rw [hE, hK]
            refine ⟨by omega, by omega, ?_, fun _ => by omega, fun k => ?_⟩
            · split <;> omega
            · split at k <;> omega
      · have hE : tkE tx tl st = st := if_neg hlt
        have hK : tkK tx tl st = 0 := if_neg hlt
        rw [hE, hK]
        exact ⟨by omega, by omega, by omega, fun k => absurd rfl k, fun k => by omega⟩
    obtain ⟨f1, f2, f3, f4, f5⟩ := facts
    refine ⟨⟨u2_s, ?_, f3⟩, ⟨?_, ?_, f1⟩, ⟨?_, ?_, f2⟩, f4, fun k => ⟨(f5 k).1, ?_, ?_⟩⟩
    · rw [tM, u2_c (by decide), u2_s]
    · rw [tC, u2_c (by decide), u2_c (by decide), u2_s]
    · rw [tM, u2_c (by decide), u2_c (by decide), u2_c (by decide), u2_s]
    · rw [tC, u2_c (by decide), u2_s]
    · rw [tM, u2_s]
    · rw [tM, u2_c (by decide), u2_c (by decide), u2_s, (f5 k).2.1]
    · have := (f5 k).2.2
      rw [(f5 k).2.1] at this
      exact this
  · simp only [tC, u2]
    rw [if_neg (by omega), if_neg (by omega), if_neg (by omega)]
  · simp only [tM, u2]
    rw [if_neg (by omega), if_neg (by omega), if_neg (by omega), if_neg (by omega)]
theorem l_isRow (h : T2 I J tl tx) {en : Nat} (h4 : I 1 4 = nI en) (hen : en ≤ tl) : ∀ m s f, s + m = en → m < f → b_X5_isRow_36 I f (nI s) = some (aaf tx m s)
  | 0, s, f + 1, hs, hf => by
    have h160 := h.1.2.2
    rw [b_X5_isRow_36, h4, if_pos ((nIle (by omega) (by omega)).mpr (by omega)), aaf]
  | m + 1, s, f + 1, hs, hf => by
    have h160 := h.1.2.2
    obtain ⟨k1, k2, k3⟩ := h.2 s (by omega)
    rw [b_X5_isRow_36, h4, if_neg (by rw [nIle (by omega) (by omega)]; omega), if_pos (vinT (by omega) (by omega)), nIn (by omega), k1, e_isTaste, obs, taf k3, aaf]
    cases isAF (tx s) with
    | true => rw [if_pos rfl, nI_1, l_isRow h h4 hen m (s + 1) f (by omega) (by omega)]; rfl
    | false => rw [if_neg (by decide)]; rfl
theorem e_isRow (h : T2 I J tl tx) {k st en mn : Nat} (hK : K2 I J' tl tx k st en) (hm : mn ≤ 6) : f_X5_isRow I (nI mn) = some (rok tx k st en mn) := by
  have h160 := h.1.2.2
  obtain ⟨⟨a1, a2, a3⟩, ⟨b1, b2, b3⟩, ⟨c1, c2, c3⟩, -⟩ := hK
  rw [f_X5_isRow, a1, b1, c1, pk_sub b3, nIl 1, nIl 6, rok]
  by_cases hk : k = 1
  · rw [if_pos (by rw [hk]), decide_eq_true hk, Bool.true_and]
    by_cases h1 : mn ≤ en - st
    · rw [if_neg (by rw [nIlt (by omega) (by omega)]; omega), decide_eq_true h1, Bool.true_and]
      by_cases h2 : en - st ≤ 6
      · rw [if_pos ((nIle (by omega) (by omega)).mpr h2), decide_eq_true h2, Bool.true_and, l_isRow h c1 c3 (en - st) st 2000 (by omega) (by omega)]
      · rw [if_neg (by rw [nIle (by omega) (by omega)]; exact h2), decide_eq_false h2, Bool.false_and]
    · rw [if_pos ((nIlt (by omega) (by omega)).mpr (by omega)), decide_eq_false h1, Bool.false_and]
  · rw [if_neg (by rw [nIeq (by omega) (by omega)]; exact hk), decide_eq_false hk, Bool.false_and]
theorem l_rowBits (h : T2 I J tl tx) {en : Nat} (h4 : I 1 4 = nI en) (hen : en ≤ tl) : ∀ m s f a, s + m = en → m < f → aaf tx m s = true → b_X5_rowBits_7 I f (nI a) (nI s) = some (nI (rbs tx m s a))
  | 0, s, f + 1, a, hs, hf, ha => by
    have h160 := h.1.2.2
    rw [b_X5_rowBits_7, h4, if_pos ((nIle (by omega) (by omega)).mpr (by omega)), rbs]
  | m + 1, s, f + 1, a, hs, hf, ha => by
    have h160 := h.1.2.2
    obtain ⟨k1, k2, k3⟩ := h.2 s (by omega)
    rw [aaf, Bool.and_eq_true] at ha
    have haf := isAF_iff.mp ha.1
    rw [b_X5_rowBits_7, h4, if_neg (by rw [nIle (by omega) (by omega)]; omega), if_pos (vinT (by omega) (by omega)), nIn (by omega), k1, nIl 97, pk_sub (by omega), shl1 (by omega), nIor, nI_1, rbs, l_rowBits h h4 hen m (s + 1) f _ (by omega) (by omega) ha.2]
theorem m_row72 {k st en mn : Nat} (x : Int32) (hK : K2 I' J tl tx k st en) (hm : mn ≤ 6) (hl : tl ≤ 160) : b_X7_row_72 J (nI mn) (nI 6) x = some (if (decide (k = 1) && (decide (mn ≤ en - st) && decide (en - st ≤ 6))) = true then x else 0, J) := by
  obtain ⟨⟨a1, a2, a3⟩, ⟨b1, b2, b3⟩, ⟨c1, c2, c3⟩, -⟩ := hK
  rw [b_X7_row_72, a2, b2, c2, pk_sub b3, nIl 1, in_nat (l := mn) (h := 6) (by omega) (by rw [toL, nI_toInt (by omega)]) (by rw [toL, nI_toInt (by omega)]), obs]
  by_cases hk : k = 1
  · rw [if_pos (by rw [hk]), decide_eq_true hk, Bool.true_and]
    split <;> rfl
  · rw [if_neg (by rw [nIeq (by omega) (by omega)]; exact hk), decide_eq_false hk, Bool.false_and, if_neg (by decide)]
theorem l_mrow (h : T2 I J tl tx) {k st en mn : Nat} (hK : K2 I' J tl tx k st en) (hm : mn ≤ 6) : ∀ m s f a, s + m = en → m < f → b_X7_row_12 f J (nI mn) (nI 6) (nI a) (nI s) = some (if (decide (k = 1) && (decide (mn ≤ en - st) && (decide (en - st ≤ 6) && aaf tx m s))) = true then nI (rbs tx m s a) else 0, J)
  | 0, s, f + 1, a, hs, hf => by
    have h160 := h.1.2.2
    have hK' := hK
    obtain ⟨⟨a1, a2, a3⟩, ⟨b1, b2, b3⟩, ⟨c1, c2, c3⟩, -⟩ := hK
    rw [b_X7_row_12, c2, if_pos ((nIle (by omega) (by omega)).mpr (by omega)), m_row72 _ hK' hm h160, aaf, Bool.and_true, rbs]
  | m + 1, s, f + 1, a, hs, hf => by
    have h160 := h.1.2.2
    have hK' := hK
    obtain ⟨⟨a1, a2, a3⟩, ⟨b1, b2, b3⟩, ⟨c1, c2, c3⟩, -⟩ := hK
    obtain ⟨k1, k2, k3⟩ := h.2 s (by omega)
    rw [b_X7_row_12, c2, if_neg (by rw [nIle (by omega) (by omega)]; omega), a2, nIl 1]
    by_cases hk : k = 1
    · rw [if_pos (by rw [hk]), if_pos (vinT (by omega) (by omega)), nIn (by omega), k2, in_nat (l := 97) (h := 102) (by omega) (by decide) (by decide), obs, aaf, rbs]
      show (if isAF (tx s) = true then _ else _) = _
      cases hb : isAF (tx s) with
      | true =>
        have haf := isAF_iff.mp hb
        rw [if_pos rfl, if_pos (vinT (by omega) (by omega)), nIl 97, pk_sub (by omega), show nI 1 <<< (nI (tx s - 97) &&& 31) = nI (2 ^ (tx s - 97)) from shl1 (by omega), nIor, nI_add, l_mrow h hK' hm m (s + 1) f _ (by omega) (by omega), Bool.true_and]
      | false =>
        rw [if_neg (by decide), Bool.false_and, Bool.and_false, Bool.and_false, Bool.and_false, if_neg (by decide)]
    · rw [if_neg (by rw [nIeq (by omega) (by omega)]; exact hk), m_row72 _ hK' hm h160, decide_eq_false hk, Bool.false_and, Bool.false_and, if_neg (by decide), if_neg (by decide)]
theorem l_number (h : T2 I J tl tx) {en : Nat} (h4 : I 1 4 = nI en) (hen : en ≤ tl) : ∀ m s f v, s + m = en → m < f → (∀ j, s ≤ j → j < en → 48 ≤ tx j) → b_X5_number_7 I f (nI v) (nI s) = some (nI (nm tx m s v))
  | 0, s, f + 1, v, hs, hf, hd => by
    have h160 := h.1.2.2
    rw [b_X5_number_7, h4, if_pos ((nIle (by omega) (by omega)).mpr (by omega)), nm]
  | m + 1, s, f + 1, v, hs, hf, hd => by
    have h160 := h.1.2.2
    obtain ⟨k1, k2, k3⟩ := h.2 s (by omega)
    have h48 := hd s (by omega) (by omega)
    rw [b_X5_number_7, h4, if_neg (by rw [nIle (by omega) (by omega)]; omega), if_pos (vinT (by omega) (by omega)), nIn (by omega), k1, nIl 10, pk_mul, nI_add, nIl 48, pk_sub (by omega), nI_1, nm, l_number h h4 hen m (s + 1) f _ (by omega) (by omega) (fun j a b => hd j (by omega) b)]
theorem e_number (h : T2 I J tl tx) {k st en : Nat} (hK : K2 I J' tl tx k st en) (hk : k = 2) : f_X5_number I = some (nI (nm tx (en - st) st 0)) := by
  have h160 := h.1.2.2
  obtain ⟨⟨a1, a2, a3⟩, ⟨b1, b2, b3⟩, ⟨c1, c2, c3⟩, -, hd⟩ := hK
  rw [f_X5_number, b1]
  exact l_number h c1 c3 (en - st) st 2000 0 (by omega) (by omega) (hd hk).1
theorem e_isNumber (h : T2 I J tl tx) {k st en lo hi : Nat} (hK : K2 I J' tl tx k st en) (hlo : lo < 1000) (hhi : hi < 1000) : f_X5_isNumber I (nI lo) (nI hi) = some (decide (k = 2) && (decide (lo ≤ nm tx (en - st) st 0) && decide (nm tx (en - st) st 0 ≤ hi))) := by
  rw [f_X5_isNumber, hK.1.1, nIl 2]
  have h4 := hK.1.2.2
  by_cases hk : k = 2
  · have h99 := (hK.2.2.2.2 hk).2.2
    rw [if_pos (by rw [hk]), e_number h hK hk, obs, obs, decide_eq_true hk, Bool.true_and]
    by_cases h1 : lo ≤ nm tx (en - st) st 0
    · rw [if_neg (by rw [nIlt (by omega) (by omega)]; omega), decide_eq_true h1, Bool.true_and]
      by_cases h2 : nm tx (en - st) st 0 ≤ hi
      · rw [if_neg (by rw [nIlt (by omega) (by omega)]; omega), decide_eq_true h2]
      · rw [if_pos ((nIlt (by omega) (by omega)).mpr (by omega)), decide_eq_false h2]
    · rw [if_pos ((nIlt (by omega) (by omega)).mpr (by omega)), decide_eq_false h1, Bool.false_and]
  · rw [if_neg (by rw [nIeq (by omega) (by omega)]; exact hk), decide_eq_false hk, Bool.false_and]
theorem m_number {k st en lo hi : Nat} (hs : f_X7_step J = some J') (hK : K2 I' J' tl tx k st en) (hlo : lo < 1000) (hhi : hi < 1000) : f_X7_number J (nI lo) (nI hi) = some (decide (k = 2) && (decide (lo ≤ nm tx (en - st) st 0) && decide (nm tx (en - st) st 0 ≤ hi)), J') := by
  rw [f_X7_number, hs, obs, hK.1.2.1, nIl 2]
  have h4 := hK.1.2.2
  by_cases hk : k = 2
  · have h99 := (hK.2.2.2.2 hk).2.2
    rw [if_pos (by rw [hk]), (hK.2.2.2.2 hk).2.1, in_nat (l := lo) (h := hi) (by omega) (by rw [toL, nI_toInt (by omega)]) (by rw [toL, nI_toInt (by omega)]), obs, decide_eq_true hk, Bool.true_and]
    split
    · rename_i hh; rw [hh]
    · rename_i hh; rw [Bool.not_eq_true] at hh; rw [hh]
  · rw [if_neg (by rw [nIeq (by omega) (by omega)]; exact hk), decide_eq_false hk, Bool.false_and]
end TXC
