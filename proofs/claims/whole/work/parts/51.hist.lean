/-! a moment is copied, remembered, recalled -/
def bec (a b : Nat) (I : Hi) : Hi := fun x y => if x = a ∧ y < 3 then I b y else if x = a + 1 ∧ y < 6 then I (b + 1) y else if x = a + 2 ∧ y < 6 then I (b + 2) y else if x = a + 3 ∧ y < 6 then I (b + 3) y else I x y
section HST
variable {I J K : Hi} {lc gc kn nx : Nat}
theorem e_become {a b : Nat} (h : a + 3 < b ∨ b + 3 < a) : f_X3_become a b I = some (bec a b I) := by
  rw [f_X3_become]
  simp only [obs]
  congr 1
  funext x y
  simp only [bec, rs, va_cpy, u2]
  by_cases h0 : x = a
  · subst h0
    simp only [show ¬ x = x + 3 by omega, show ¬ x = x + 2 by omega, show ¬ x = x + 1 by omega, if_false, false_and, true_and, if_true, eq_self, show ¬ b = x by omega]
    by_cases y2 : y = 2
    · subst y2; simp
    · by_cases y1 : y = 1
      · subst y1; simp
      · by_cases y0 : y = 0
        · subst y0; simp
        · simp only [y2, y1, y0, if_false, show ¬ y < 3 by omega]
  · by_cases h1 : x = a + 1
    · subst h1
      simp only [show ¬ a + 1 = a + 3 by omega, show ¬ a + 1 = a + 2 by omega, show ¬ a + 1 = a by omega, if_false, false_and, true_and, if_true, eq_self, show ¬ b + 1 = a by omega, Nat.zero_add, Nat.sub_zero, Nat.zero_le]
    · by_cases h2 : x = a + 2
      · subst h2
        simp only [show ¬ a + 2 = a + 3 by omega, show ¬ a + 2 = a + 1 by omega, show ¬ a + 2 = a by omega, if_false, false_and, true_and, if_true, eq_self, show ¬ b + 2 = a by omega, show ¬ b + 2 = a + 1 by omega, Nat.zero_add, Nat.sub_zero, Nat.zero_le]
      · by_cases h3 : x = a + 3
        · subst h3
          simp only [show ¬ a + 3 = a + 2 by omega, show ¬ a + 3 = a + 1 by omega, show ¬ a + 3 = a by omega, if_false, false_and, true_and, if_true, eq_self, show ¬ b + 3 = a by omega, show ¬ b + 3 = a + 1 by omega, show ¬ b + 3 = a + 2 by omega, Nat.zero_add, Nat.sub_zero, Nat.zero_le]
        · simp only [h0, h1, h2, h3, if_false, false_and]
theorem bec0 {a b j : Nat} (h : j < 3) : bec a b I a j = I b j := if_pos ⟨rfl, h⟩
theorem bec1 {a b j : Nat} (h : j < 6) : bec a b I (a + 1) j = I (b + 1) j := by
  rw [bec, if_neg (by omega), if_pos ⟨rfl, h⟩]
theorem bec2 {a b j : Nat} (h : j < 6) : bec a b I (a + 2) j = I (b + 2) j := by
  rw [bec, if_neg (by omega), if_neg (by omega), if_pos ⟨rfl, h⟩]
theorem bec3 {a b j : Nat} (h : j < 6) : bec a b I (a + 3) j = I (b + 3) j := by
  rw [bec, if_neg (by omega), if_neg (by omega), if_neg (by omega), if_pos ⟨rfl, h⟩]
theorem becF {a b x y : Nat} (h : x < a ∨ a + 3 < x) : bec a b I x y = I x y := by
  rw [bec, if_neg (by omega), if_neg (by omega), if_neg (by omega), if_neg (by omega)]
/-! the model's copying -/
def cpy (a s b t n : Nat) (I : Hi) : Hi := fun x y => if x = b ∧ t ≤ y ∧ y < t + n then I a (s + (y - t)) else I x y
theorem l_copies {a na b nb s t n : Nat} (hab : a ≠ b) (hs : s + n ≤ na) (ht : t + n ≤ nb) (hna : na < 1000) (hnb : nb < 1000) : ∀ (m k f : Nat), k + m = n → m < f → b_X7_copies_3 a na b nb f (cpy a s b t k I) (nI s) (nI t) (nI n) (nI k) = some (cpy a s b t n I)
  | 0, k, f + 1, hk, hf => by
    rw [b_X7_copies_3, if_pos ((nIle (by omega) (by omega)).mpr (by omega)), show k = n by omega]
  | m + 1, k, f + 1, hk, hf => by
    have ih := l_copies hab hs ht hna hnb m (k + 1) f (by omega) (by omega)
    rw [b_X7_copies_3, if_neg (by rw [nIle (by omega) (by omega)]; omega), nI_add, nI_add, if_pos (vinT (by omega) (by omega)), if_pos (vinT (by omega) (by omega)), nIn (by omega), nIn (by omega), obs, nI_1]
    have e : u2 (cpy a s b t k I) b (t + k) (cpy a s b t k I a (s + k)) = cpy a s b t (k + 1) I := by
      funext x y
      simp only [u2, cpy]
      rw [if_neg (show ¬ (a = b ∧ _) from fun h => hab h.1)]
      by_cases h1 : x = b ∧ y = t + k
      · rw [if_pos h1, if_pos (by omega), show s + (y - t) = s + k by omega]
      · rw [if_neg h1]
        by_cases h2 : x = b ∧ t ≤ y ∧ y < t + k
        · rw [if_pos h2, if_pos (by omega)]
        · rw [if_neg h2, if_neg (by omega)]
    rw [e]
    exact ih
theorem e_copies {a na b nb s t n : Nat} (hab : a ≠ b) (hs : s + n ≤ na) (ht : t + n ≤ nb) (hna : na < 1000) (hnb : nb < 1000) : f_X7_copies a na b nb I (nI s) (nI t) (nI n) = some (cpy a s b t n I) := by
  have e0 : cpy a s b t 0 I = I := by
    funext x y
    rw [cpy, if_neg (by omega)]
  have := l_copies (I := I) hab hs ht hna hnb n 0 2000 (by omega) (by omega)
  rw [e0] at this
  rw [f_X7_copies]
  exact this
/-! remembering -/
def rem (nx kn : Nat) (I : Hi) : Hi := u2 (u2 (bec (21 + 4 * nx) 15 I) 19 2 (nI ((nx + 1) % 10))) 19 1 (nI (min 10 (kn + 1)))
theorem jmin_nI {a b : Nat} (ha : a < 2147483648) (hb : b < 2147483648) : jmin (nI a) (nI b) = nI (min a b) := by
  unfold jmin
  by_cases h : b < a
  · rw [if_pos ((nIlt hb ha).mpr h), Nat.min_eq_right (by omega)]
  · rw [if_neg (by rw [nIlt hb ha]; exact h), Nat.min_eq_left (by omega)]
theorem e_remember (h1 : I 19 1 = nI kn) (hk : kn ≤ 10) (h2 : I 19 2 = nI nx) (hn : nx < 10) : f_X1_remember 15 I = some (rem nx kn I) := by
  have e2 : bec (21 + 4 * nx) 15 I 19 2 = nI nx := by rw [becF (by omega)]; exact h2
  have e1 : bec (21 + 4 * nx) 15 I 19 1 = nI kn := by rw [becF (by omega)]; exact h1
  rw [f_X1_remember, h2, if_pos (vinT hn (by omega)), nIn (by omega), e_become (by omega), obs, e2, nI_1, nIl 10, pk_rem (by omega) (by omega) (by omega), obs, u2_c (by decide), e1, nI_1, jmin_nI (by omega) (by omega), obs, rem]
def nts (kn : Nat) (J : Hi) : Hi := u2 (if kn = 10 then cpy 83 0 84 189 21 (u2 (fun x y => if x = 84 ∧ y < 189 then J 84 (y + 21) else J x y) 77 12 (nI 9)) else cpy 83 0 84 (21 * kn) 21 J) 77 12 (nI (min 10 (kn + 1)))
theorem l_notes : ∀ (m k f : Nat), k + m = 189 → m < f → b_X7_notes_11 f (fun x y => if x = 84 ∧ y < k then J 84 (y + 21) else J x y) (nI k) = b_X7_notes_39 (fun x y => if x = 84 ∧ y < 189 then J 84 (y + 21) else J x y)
  | 0, k, f + 1, hk, hf => by
    rw [b_X7_notes_11, nIl 189, if_pos ((nIle (by omega) (by omega)).mpr (by omega)), show k = 189 by omega]
  | m + 1, k, f + 1, hk, hf => by
    have ih := l_notes m (k + 1) f (by omega) (by omega)
    rw [b_X7_notes_11, nIl 189, if_neg (by rw [nIle (by omega) (by omega)]; omega), nIl 21, nI_add, if_pos (vinT (by omega) (by omega)), if_pos (vinT (by omega) (by omega)), nIn (by omega), nIn (by omega), obs, nI_1]
    rw [← ih]
    congr 1
    funext x y
    simp only [u2]
    by_cases h1 : x = 84 ∧ y = k
    · rw [if_pos h1, if_pos (show x = 84 ∧ y < k + 1 by omega), if_neg (fun h => absurd h.2 (by omega)), h1.2]
    · rw [if_neg h1]
      by_cases h2 : x = 84 ∧ y < k
      · rw [if_pos h2, if_pos (by omega)]
      · rw [if_neg h2, if_neg (by omega)]
theorem e_notes49 {k : Nat} (h1 : J 77 12 = nI k) (hk : k < 10) : b_X7_notes_49 J = some (u2 (cpy 83 0 84 (21 * k) 21 J) 77 12 (nI (k + 1))) := by
  have e1 : cpy 83 0 84 (21 * k) 21 J 77 12 = nI k := by rw [cpy, if_neg (by omega)]; exact h1
  rw [b_X7_notes_49, h1, show (21 : Int32) = nI 21 from rfl, pk_mul, show (0 : Int32) = nI 0 from rfl, e_copies (by decide) (by omega) (by omega) (by decide) (by decide), obs, e1, nI_1, obs]
theorem e_notes (h1 : J 77 12 = nI kn) (hk : kn ≤ 10) : f_X7_notes J = some (nts kn J) := by
  rw [f_X7_notes, h1, nIl 10]
  by_cases h : kn = 10
  · have e0 : (fun x y => if x = 84 ∧ y < 0 then J 84 (y + 21) else J x y) = J := by
      funext x y
      rw [if_neg (by omega)]
    have l := l_notes (J := J) 189 0 2000 (by omega) (by omega)
    rw [e0] at l
    rw [if_pos ((nIeq (by omega) (by omega)).mpr h)]
    have e2 : (fun x y => if x = 84 ∧ y < 189 then J 84 (y + 21) else J x y) 77 12 - 1 = nI 9 := by
      show (if (77 : Nat) = 84 ∧ 12 < 189 then _ else J 77 12) - 1 = nI 9
      rw [if_neg (by decide), h1, h]
      rfl
    refine l.trans ?_
    rw [b_X7_notes_39, obs, e2, e_notes49 u2_s (by decide), nts, if_pos h, h]
    rfl
  · rw [if_neg (by rw [nIeq (by omega) (by omega)]; exact h), e_notes49 h1 (by omega), nts, if_neg h, Nat.min_eq_right (by omega)]
/-- what the class has after it remembered, what the model has after its note -/
def RC (nx kn : Nat) (I K : Hi) : Prop := K 19 1 = nI (min 10 (kn + 1)) ∧ K 19 2 = nI ((nx + 1) % 10) ∧ (∀ e j, e < 4 → j < (if e = 0 then 3 else 6) → K (21 + 4 * nx + e) j = I (15 + e) j) ∧ ∀ x y, 21 ≤ x → x ≤ 60 → (x < 21 + 4 * nx ∨ 24 + 4 * nx < x) → K x y = I x y
def RM (kn : Nat) (I K : Hi) : Prop := K 77 12 = nI (min 10 (kn + 1)) ∧ (∀ j, j < 21 → K 84 (21 * (min 10 (kn + 1) - 1) + j) = I 83 j) ∧ ∀ j, j < 21 * (min 10 (kn + 1) - 1) → K 84 j = I 84 (if kn = 10 then j + 21 else j)
theorem rem_RC (hn : nx < 10) : RC nx kn I (rem nx kn I) := by
  refine ⟨u2_s, by rw [rem, u2_c (by decide), u2_s], fun e j he hj => ?_, fun x y h1 h2 h3 => ?_⟩
  · rw [rem, u2_r (by omega), u2_r (by omega)]
    have : e = 0 ∨ e = 1 ∨ e = 2 ∨ e = 3 := by omega
    rcases this with rfl | rfl | rfl | rfl
    · exact bec0 hj
    · exact bec1 hj
    · exact bec2 hj
    · exact bec3 hj
  · rw [rem, u2_r (by omega), u2_r (by omega), becF (by omega)]
theorem rem_F (hn : nx < 10) {x y : Nat} (h : x ≠ 19 ∧ (x < 21 ∨ 60 < x)) : rem nx kn I x y = I x y := by
  rw [rem, u2_r (by omega), u2_r (by omega), becF (by omega)]
theorem nts_RM (hk : kn ≤ 10) : RM kn J (nts kn J) := by
  refine ⟨u2_s, fun j hj => ?_, fun j hj => ?_⟩
  · rw [nts, u2_r (by decide)]
    by_cases h : kn = 10
    · subst h
      rw [if_pos rfl, cpy, if_pos (by omega), u2_r (by decide), if_neg (fun h => absurd h.1 (by decide)), show 0 + (21 * (min 10 (10 + 1) - 1) + j - 189) = j by omega]
    · rw [if_neg h, cpy, if_pos (by omega)]
      congr 1
      omega
  · rw [nts, u2_r (by decide)]
    by_cases h : kn = 10
    · subst h
      rw [if_pos rfl, cpy, if_neg (by omega), u2_r (by decide), if_pos (by omega), if_pos rfl]
    · rw [if_neg h, cpy, if_neg (by omega), if_neg h]
theorem nts_F (hk : kn ≤ 10) {x y : Nat} (h : x ≠ 84 ∧ ¬ (x = 77 ∧ y = 12)) : nts kn J x y = J x y := by
  rw [nts]
  have h2 : ∀ (f : Hi) (v : Int32), u2 f 77 12 v x y = f x y := fun f v => if_neg h.2
  rw [h2]
  by_cases hk : kn = 10
  · rw [if_pos hk, cpy, if_neg (by omega), h2, if_neg (by omega)]
  · rw [if_neg hk, cpy, if_neg (by omega)]
theorem RC.nxt (h : RC nx kn I J) (hn : nx < 10) (hf : ∀ a b, (a = 19 ∨ (21 ≤ a ∧ a ≤ 60)) → K a b = J a b) : RC nx kn I K := by
  obtain ⟨h1, h2, h3, h4⟩ := h
  refine ⟨by rw [hf _ _ (by omega)]; exact h1, by rw [hf _ _ (by omega)]; exact h2, fun e j he hj => ?_, fun x y a b e => ?_⟩
  · rw [hf _ _ (by omega)]; exact h3 e j he hj
  · rw [hf _ _ (by omega)]; exact h4 x y a b e
theorem RM.nxt (h : RM kn I J) (hf : ∀ a b, (a = 84 ∨ (a = 77 ∧ b = 12)) → K a b = J a b) : RM kn I K := by
  obtain ⟨h1, h2, h3⟩ := h
  refine ⟨by rw [hf _ _ (by omega)]; exact h1, fun j hj => ?_, fun j hj => ?_⟩
  · rw [hf _ _ (by omega)]; exact h2 j hj
  · rw [hf _ _ (by omega)]; exact h3 j hj
theorem RM.pr (h : RM kn J K) (hf : ∀ a b, (a = 83 ∨ a = 84) → J a b = I a b) : RM kn I K := by
  obtain ⟨h1, h2, h3⟩ := h
  refine ⟨h1, fun j hj => ?_, fun j hj => ?_⟩
  · rw [h2 j hj, hf _ _ (by omega)]
  · rw [h3 j hj, hf _ _ (by omega)]
theorem hs_next (h : HsI I lc gc kn nx) (hN : NwE I lc gc 15 83 0) (hc : RC nx kn I K) (hm : RM kn I K) : HsI K lc gc (min 10 (kn + 1)) ((nx + 1) % 10) := by
  obtain ⟨⟨a1, a2, a3⟩, ⟨b1, b2⟩, h⟩ := h
  obtain ⟨c1, c2, c3, c4⟩ := hc
  obtain ⟨d1, d2, d3⟩ := hm
  refine ⟨⟨c1, d1, by omega⟩, ⟨c2, by omega⟩, fun i hi => ?_⟩
  cases i with
  | zero =>
    have e : ((nx + 1) % 10 + 9 - 0) % 10 = nx := by omega
    rw [e]
    refine hN.mv (fun j hj => ?_) (fun j hj => ?_) (fun j hj => ?_) (fun j hj => ?_) (fun j hj => ?_)
    · exact c3 0 j (by omega) (by rw [if_pos rfl]; exact hj)
    · exact c3 1 j (by omega) (by rw [if_neg (by decide)]; exact hj)
    · exact c3 2 j (by omega) (by rw [if_neg (by decide)]; exact hj)
    · exact c3 3 j (by omega) (by rw [if_neg (by decide)]; exact hj)
    · rw [Nat.zero_add]
      exact d2 j hj
  | succ i =>
    have e : ((nx + 1) % 10 + 9 - (i + 1)) % 10 = (nx + 9 - i) % 10 := by omega
    have hm : (nx + 9 - i) % 10 < 10 := Nat.mod_lt _ (by decide)
    have hne : (nx + 9 - i) % 10 ≠ nx := by omega
    rw [e]
    refine (h i (by omega)).mv (fun j hj => ?_) (fun j hj => ?_) (fun j hj => ?_) (fun j hj => ?_) (fun j hj => ?_)
    · exact c4 _ _ (by omega) (by omega) (by omega)
    · exact c4 _ _ (by omega) (by omega) (by omega)
    · exact c4 _ _ (by omega) (by omega) (by omega)
    · exact c4 _ _ (by omega) (by omega) (by omega)
    · rw [d3 _ (by omega)]
      congr 1
      split <;> omega
end HST
