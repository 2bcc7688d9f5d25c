/-! the text: one token after another, for both -/
def isL (v : Nat) : Bool := decide (97 ≤ v) && decide (v ≤ 122)
def isD (v : Nat) : Bool := decide (48 ≤ v) && decide (v ≤ 57)
theorem in_nat {v l h : Nat} {a b : Int64} (hv : v < 2147483648) (ha : a.toInt = l) (hb : b.toInt = h) : f_X7_in (nI v).toInt64 a b = some (decide (l ≤ v) && decide (v ≤ h)) := by
  rw [in_eq, toL, nI_toInt hv, ha, hb]
  congr 2
  · exact decide_eq_decide.mpr (by omega)
  · exact decide_eq_decide.mpr (by omega)
theorem u2_u2 {α : Type} {f : Nat → Nat → α} {k j : Nat} {v w : α} : u2 (u2 f k j v) k j w = u2 f k j w := by
  funext x y
  simp only [u2]
  by_cases h : x = k ∧ y = j
  · rw [if_pos h, if_pos h]
  · rw [if_neg h, if_neg h, if_neg h]
def sk (tx : Nat → Nat) : Nat → Nat → Nat
  | 0, s => s
  | m + 1, s => if tx s = 32 then sk tx m (s + 1) else s
def ad (p : Nat → Bool) (tx : Nat → Nat) : Nat → Nat → Nat
  | 0, s => s
  | m + 1, s => if p (tx s) = true then ad p tx m (s + 1) else s
theorem sk_ge {tx : Nat → Nat} : ∀ m s, s ≤ sk tx m s ∧ sk tx m s ≤ s + m
  | 0, s => ⟨Nat.le_refl _, Nat.le_refl _⟩
  | m + 1, s => by
    have := sk_ge (tx := tx) m (s + 1)
    rw [sk]
    split <;> omega
theorem ad_ge {p : Nat → Bool} {tx : Nat → Nat} : ∀ m s, s ≤ ad p tx m s ∧ ad p tx m s ≤ s + m
  | 0, s => ⟨Nat.le_refl _, Nat.le_refl _⟩
  | m + 1, s => by
    have := ad_ge (p := p) (tx := tx) m (s + 1)
    rw [ad]
    split <;> omega
theorem ad_p {p : Nat → Bool} {tx : Nat → Nat} : ∀ m s j, s ≤ j → j < ad p tx m s → p (tx j) = true
  | 0, s, j, h1, h2 => by rw [ad] at h2; omega
  | m + 1, s, j, h1, h2 => by
    rw [ad] at h2
    split at h2
    · rename_i hp
      by_cases hj : j = s
      · rw [hj]; exact hp
      · exact ad_p m (s + 1) j (by omega) h2
    · omega
theorem ad_gt {p : Nat → Bool} {tx : Nat → Nat} {m s : Nat} (hm : 0 < m) (h : p (tx s) = true) : s < ad p tx m s := by
  cases m with
  | zero => omega
  | succ m =>
    have := (ad_ge (p := p) (tx := tx) m (s + 1)).1
    rw [ad, if_pos h]
    omega
def T2 (I J : Hi) (tl : Nat) (tx : Nat → Nat) : Prop := (I 1 1 = nI tl ∧ J 77 19 = nI tl ∧ tl ≤ 160) ∧ ∀ j, j < tl → I 2 j = nI (tx j) ∧ J 88 j = nI (tx j) ∧ tx j < 256
section TXA
variable {I J I' J' : Hi} {tl : Nat} {tx : Nat → Nat}
theorem T2.fr (h : T2 I J tl tx) (h1 : ∀ a b, ((a = 1 ∧ b = 1) ∨ a = 2) → I' a b = I a b) (h2 : ∀ a b, ((a = 77 ∧ b = 19) ∨ a = 88) → J' a b = J a b) : T2 I' J' tl tx := by
  obtain ⟨⟨a1, a2, a3⟩, h⟩ := h
  refine ⟨⟨by rw [h1 _ _ (by omega)]; exact a1, by rw [h2 _ _ (by omega)]; exact a2, a3⟩, fun j hj => ?_⟩
  rw [h1 2 j (by omega), h2 88 j (by omega)]
  exact h j hj
theorem e_isL {s : Nat} (hs : s < 160) (h : I 2 s = nI (tx s)) (h2 : tx s < 256) : f_X5_isLetter I (nI s) = some (isL (tx s)) := by
  rw [f_X5_isLetter, if_pos (vinT hs (by omega)), nIn (by omega), h, nIl 97, nIl 122, isL]
  by_cases h3 : tx s < 97
  · rw [if_pos ((nIlt (by omega) (by omega)).mpr h3), decide_eq_false (by omega), Bool.false_and]
  · rw [if_neg (by rw [nIlt (by omega) (by omega)]; exact h3), if_pos (vinT hs (by omega)), decide_eq_true (by omega), Bool.true_and]
    by_cases h4 : 122 < tx s
    · rw [if_pos ((nIlt (by omega) (by omega)).mpr h4), decide_eq_false (by omega)]
    · rw [if_neg (by rw [nIlt (by omega) (by omega)]; exact h4), decide_eq_true (by omega)]
theorem e_isD {s : Nat} (hs : s < 160) (h : I 2 s = nI (tx s)) (h2 : tx s < 256) : f_X5_isDigit I (nI s) = some (isD (tx s)) := by
  rw [f_X5_isDigit, if_pos (vinT hs (by omega)), nIn (by omega), h, nIl 48, nIl 57, isD]
  by_cases h3 : tx s < 48
  · rw [if_pos ((nIlt (by omega) (by omega)).mpr h3), decide_eq_false (by omega), Bool.false_and]
  · rw [if_neg (by rw [nIlt (by omega) (by omega)]; exact h3), if_pos (vinT hs (by omega)), decide_eq_true (by omega), Bool.true_and]
    by_cases h4 : 57 < tx s
    · rw [if_pos ((nIlt (by omega) (by omega)).mpr h4), decide_eq_false (by omega)]
    · rw [if_neg (by rw [nIlt (by omega) (by omega)]; exact h4), decide_eq_true (by omega)]
theorem l_word (h : T2 I J tl tx) : ∀ m e f, e + m = tl → m < f → b_X5_takeWord_0 f (u2 I 1 4 (nI e)) = some (u2 (u2 I 1 4 (nI (ad isL tx m e))) 1 2 1)
  | 0, e, f + 1, he, hf => by
    have := h.1.2.2
    rw [b_X5_takeWord_0, u2_s, u2_c (by decide), h.1.1, if_pos ((nIle (by omega) (by omega)).mpr (by omega)), b_X5_takeWord_35, obs, ad]
  | m + 1, e, f + 1, he, hf => by
    have := h.1.2.2
    obtain ⟨k1, k2, k3⟩ := h.2 e (by omega)
    rw [b_X5_takeWord_0, u2_s, u2_c (by decide), h.1.1, if_neg (by rw [nIle (by omega) (by omega)]; omega), e_isL (by omega) (by rw [u2_r (by decide)]; exact k1) k3, obs, ad]
    cases hb : isL (tx e) with
    | true => rw [if_pos rfl, if_pos rfl, obs, nI_1, u2_u2, l_word h m (e + 1) f (by omega) (by omega)]
    | false => rw [if_neg (by decide), if_neg (by decide), b_X5_takeWord_35, obs]
theorem l_numb (h : T2 I J tl tx) : ∀ m e f, e + m = tl → m < f → b_X5_takeNumber_0 f (u2 I 1 4 (nI e)) = b_X5_takeNumber_35 (u2 I 1 4 (nI (ad isD tx m e)))
  | 0, e, f + 1, he, hf => by
    have := h.1.2.2
    rw [b_X5_takeNumber_0, u2_s, u2_c (by decide), h.1.1, if_pos ((nIle (by omega) (by omega)).mpr (by omega)), ad]
  | m + 1, e, f + 1, he, hf => by
    have := h.1.2.2
    obtain ⟨k1, k2, k3⟩ := h.2 e (by omega)
    rw [b_X5_takeNumber_0, u2_s, u2_c (by decide), h.1.1, if_neg (by rw [nIle (by omega) (by omega)]; omega), e_isD (by omega) (by rw [u2_r (by decide)]; exact k1) k3, obs, ad]
    cases hb : isD (tx e) with
    | true => rw [if_pos rfl, if_pos rfl, obs, nI_1, u2_u2, l_numb h m (e + 1) f (by omega) (by omega)]
    | false => rw [if_neg (by decide), if_neg (by decide)]
def nkd (tx : Nat → Nat) (st en : Nat) : Nat := if tx st = 48 ∧ 1 < en - st then 4 else if en - st ≤ 2 then 2 else 4
theorem e_num35 (h : T2 I J tl tx) {st en : Nat} (h3 : I 1 3 = nI st) (h4 : I 1 4 = nI en) (hse : st < en) (hen : en ≤ tl) : b_X5_takeNumber_35 I = some (u2 I 1 2 (nI (nkd tx st en))) := by
  have := h.1.2.2
  obtain ⟨k1, k2, k3⟩ := h.2 st (by omega)
  rw [b_X5_takeNumber_35, h3, h4, if_pos (vinT (by omega) (by omega)), nIn (by omega), k1, pk_sub (by omega), nIl 48, nIl 1, nkd]
  by_cases h48 : tx st = 48
  · rw [if_pos (by rw [h48])]
    by_cases h1 : en - st ≤ 1
    · rw [if_pos ((nIle (by omega) (by omega)).mpr h1), if_neg (by omega), if_pos (by omega), b_X5_takeNumber_66, b_X5_takeNumber_67, if_neg (by decide), h3, h4, pk_sub (by omega), nIl 2, if_pos ((nIle (by omega) (by omega)).mpr (by omega)), b_X5_takeNumber_91, obs]
    · rw [if_neg (by rw [nIle (by omega) (by omega)]; exact h1), if_pos ⟨h48, by omega⟩, b_X5_takeNumber_67, if_pos rfl, b_X5_takeNumber_86, b_X5_takeNumber_91, obs]; rfl
  · rw [if_neg (by rw [nIeq (by omega) (by omega)]; exact h48), if_neg (fun h => h48 h.1), b_X5_takeNumber_66, b_X5_takeNumber_67, if_neg (by decide), h3, h4, pk_sub (by omega), nIl 2]
    by_cases h2 : en - st ≤ 2
    · rw [if_pos ((nIle (by omega) (by omega)).mpr h2), if_pos h2, b_X5_takeNumber_91, obs]
    · rw [if_neg (by rw [nIle (by omega) (by omega)]; exact h2), if_neg h2, b_X5_takeNumber_86, b_X5_takeNumber_91, obs]; rfl
/-- the token that begins at st -/
def tkE (tx : Nat → Nat) (tl st : Nat) : Nat := if st < tl then (if isL (tx st) = true then ad isL tx (tl - st) st else if isD (tx st) = true then ad isD tx (tl - st) st else st + 1) else st
def tkK (tx : Nat → Nat) (tl st : Nat) : Nat := if st < tl then (if isL (tx st) = true then 1 else if isD (tx st) = true then nkd tx st (tkE tx tl st) else if tx st = 59 then 3 else 4) else 0
def tC (I : Hi) (k st en : Nat) : Hi := u2 (u2 (u2 I 1 3 (nI st)) 1 4 (nI en)) 1 2 (nI k)
theorem l_skip (h : T2 I J tl tx) : ∀ m s f, s + m = tl → m < f → b_X5_step_8 f (u2 I 1 3 (nI s)) = b_X5_step_46 (u2 I 1 3 (nI (sk tx m s)))
  | 0, s, f + 1, hs, hf => by
    have := h.1.2.2
    rw [b_X5_step_8, u2_s, u2_c (by decide), h.1.1, if_pos ((nIle (by omega) (by omega)).mpr (by omega)), sk]
  | m + 1, s, f + 1, hs, hf => by
    have := h.1.2.2
    obtain ⟨k1, k2, k3⟩ := h.2 s (by omega)
    rw [b_X5_step_8, u2_s, u2_c (by decide), h.1.1, if_neg (by rw [nIle (by omega) (by omega)]; omega), if_pos (vinT (by omega) (by omega)), nIn (by omega), u2_r (by decide), k1, nIl 32, sk]
    by_cases h3 : tx s = 32
    · rw [if_pos (by rw [h3]), if_pos h3, obs, nI_1, u2_u2, l_skip h m (s + 1) f (by omega) (by omega)]
    · rw [if_neg (by rw [nIeq (by omega) (by omega)]; exact h3), if_neg h3]
theorem e_step46 (h : T2 I J tl tx) {st : Nat} (hst : st ≤ tl) : b_X5_step_46 (u2 I 1 3 (nI st)) = some (tC I (tkK tx tl st) st (tkE tx tl st)) := by
  have h160 := h.1.2.2
  have hA : T2 (u2 I 1 3 (nI st)) J tl tx := h.fr (fun a b k => by show u2 _ _ _ _ _ _ = _; exact if_neg (by omega)) (fun _ _ _ => rfl)
  have q3 : u2 (u2 I 1 3 (nI st)) 1 4 (nI st) 1 3 = nI st := by rw [u2_c (by decide), u2_s]
  have q1 : u2 (u2 I 1 3 (nI st)) 1 4 (nI st) 1 1 = nI tl := by rw [u2_c (by decide), u2_c (by decide)]; exact h.1.1
  have q2 : ∀ j, u2 (u2 I 1 3 (nI st)) 1 4 (nI st) 2 j = I 2 j := fun j => by rw [u2_r (by decide), u2_r (by decide)]
  rw [b_X5_step_46, u2_s, obs, q3, q1]
  by_cases hlt : st < tl
  · obtain ⟨k1, k2, k3⟩ := h.2 st hlt
    have hE : tkE tx tl st = if isL (tx st) = true then ad isL tx (tl - st) st else if isD (tx st) = true then ad isD tx (tl - st) st else st + 1 := if_pos hlt
    have hK : tkK tx tl st = if isL (tx st) = true then 1 else if isD (tx st) = true then nkd tx st (tkE tx tl st) else if tx st = 59 then 3 else 4 := if_pos hlt
    rw [if_pos ((nIlt (by omega) (by omega)).mpr hlt), e_isL (by omega) (by rw [q2]; exact k1) k3, obs]
    cases hl : isL (tx st) with
    | true =>
      rw [hl, if_pos rfl] at hE hK
      rw [if_pos rfl, show f_X5_takeWord (u2 (u2 I 1 3 (nI st)) 1 4 (nI st)) = b_X5_takeWord_0 (2000 + 1) (u2 (u2 I 1 3 (nI st)) 1 4 (nI st)) by rw [f_X5_takeWord, b_X5_takeWord_0], l_word hA (tl - st) st 2001 (by omega) (by omega), obs, hE, hK]
      rfl
    | false =>
      rw [hl, if_neg (by decide)] at hE hK
      rw [if_neg (by decide), e_isD (by omega) (by rw [q2]; exact k1) k3, obs]
      cases hd : isD (tx st) with
      | true =>
        rw [hd, if_pos rfl] at hE hK
        have hgt := ad_gt (p := isD) (tx := tx) (m := tl - st) (by omega) hd
        have hle := (ad_ge (p := isD) (tx := tx) (tl - st) st).2
        rw [if_pos rfl, show f_X5_takeNumber (u2 (u2 I 1 3 (nI st)) 1 4 (nI st)) = b_X5_takeNumber_0 (2000 + 1) (u2 (u2 I 1 3 (nI st)) 1 4 (nI st)) by rw [f_X5_takeNumber, b_X5_takeNumber_0], l_numb hA (tl - st) st 2001 (by omega) (by omega), e_num35 (J := J) (tl := tl) (tx := tx) (hA.fr (fun a b k => by show u2 _ _ _ _ _ _ = _; exact if_neg (by omega)) (fun _ _ _ => rfl)) (by rw [u2_c (by decide), u2_s]) u2_s hgt (by omega), obs, hK, hE]
        rfl
      | false =>
        rw [hd, if_neg (by decide)] at hE hK
        have q4 : ∀ v, u2 (u2 (u2 I 1 3 (nI st)) 1 4 (nI st)) 1 4 v 1 3 = nI st := fun v => by rw [u2_c (by decide)]; exact q3
        have q5 : ∀ v, u2 (u2 (u2 I 1 3 (nI st)) 1 4 (nI st)) 1 4 v 2 st = nI (tx st) := fun v => by rw [u2_r (by decide), q2]; exact k1
        rw [if_neg (by decide), u2_s, nI_1, obs, q4, if_pos (vinT (by omega) (by omega)), nIn (by omega), q5, nIl 59, u2_u2, hK, hE]
        by_cases h59 : tx st = 59
        · rw [if_pos (by rw [h59]), if_pos h59, b_X5_step_139, obs]; rfl
        · rw [if_neg (by rw [nIeq (by omega) (by omega)]; exact h59), if_neg h59, b_X5_step_139, obs]; rfl
  · rw [if_neg (by rw [nIlt (by omega) (by omega)]; exact hlt), obs, tkK, tkE, if_neg hlt, if_neg hlt]
    rfl
theorem e_step (h : T2 I J tl tx) {e : Nat} (h4 : I 1 4 = nI e) (he : e ≤ tl) : f_X5_step I = some (tC I (tkK tx tl (sk tx (tl - e) e)) (sk tx (tl - e) e) (tkE tx tl (sk tx (tl - e) e))) := by
  have h160 := h.1.2.2
  have := sk_ge (tx := tx) (tl - e) e
  rw [f_X5_step, h4, obs, l_skip h (tl - e) e 2000 (by omega) (by omega), e_step46 h (by omega)]
end TXA
