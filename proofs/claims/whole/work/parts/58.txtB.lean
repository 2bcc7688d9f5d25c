/-! the model's tokens -/
def cv (tx : Nat → Nat) : Nat → Nat → Nat → Nat
  | 0, _, v => v
  | m + 1, s, v => if isD (tx s) = true then cv tx m (s + 1) (if v ≤ 99 then 10 * v + tx s - 48 else v) else v
def nm (tx : Nat → Nat) : Nat → Nat → Nat → Nat
  | 0, _, v => v
  | m + 1, s, v => nm tx m (s + 1) (v * 10 + tx s - 48)
theorem isD_iff {v : Nat} : isD v = true ↔ 48 ≤ v ∧ v ≤ 57 := by
  unfold isD
  rw [Bool.and_eq_true, decide_eq_true_eq, decide_eq_true_eq]
theorem isL_iff {v : Nat} : isL v = true ↔ 97 ≤ v ∧ v ≤ 122 := by
  unfold isL
  rw [Bool.and_eq_true, decide_eq_true_eq, decide_eq_true_eq]
theorem cv_big {tx : Nat → Nat} : ∀ m s v, 99 < v → cv tx m s v = v
  | 0, _, _, _ => rfl
  | m + 1, s, v, h => by
    rw [cv, if_neg (show ¬ v ≤ 99 by omega), cv_big m (s + 1) v h]
    split <;> rfl
theorem cv_facts {tx : Nat → Nat} {m s : Nat} (hm : 0 < m) (h : isD (tx s) = true) : (ad isD tx m s - s ≤ 2 → cv tx m s 0 ≤ 99 ∧ cv tx m s 0 = nm tx (ad isD tx m s - s) s 0) ∧ (3 ≤ ad isD tx m s - s → tx s ≠ 48 → 99 < cv tx m s 0) := by
  have h0 := isD_iff.mp h
  cases m with
  | zero => omega
  | succ m =>
    rw [cv, if_pos h, if_pos (Nat.zero_le _), Nat.mul_zero, Nat.zero_add, ad, if_pos h]
    cases m with
    | zero =>
      rw [cv, ad]
      refine ⟨fun _ => ⟨by omega, ?_⟩, fun h => by omega⟩
      rw [show s + 1 - s = 1 by omega, nm, nm, Nat.zero_mul, Nat.zero_add]
    | succ m =>
      rw [cv, ad]
      by_cases h1 : isD (tx (s + 1)) = true
      · have h1' := isD_iff.mp h1
        rw [if_pos h1, if_pos h1, if_pos (by omega)]
        cases m with
        | zero =>
          rw [cv, ad]
          refine ⟨fun _ => ⟨by omega, ?_⟩, fun h => by omega⟩
          rw [show s + 1 + 1 - s = 2 by omega, nm, nm, nm, Nat.zero_mul, Nat.zero_add]
          omega
        | succ m =>
          rw [cv, ad]
          by_cases h2 : isD (tx (s + 1 + 1)) = true
          · have h2' := isD_iff.mp h2
            have := (ad_ge (p := isD) (tx := tx) m (s + 1 + 1 + 1)).1
            rw [if_pos h2, if_pos h2, if_pos (by omega)]
            refine ⟨fun h => by omega, fun _ h48 => ?_⟩
            rw [cv_big _ _ _ (by omega)]
            omega
          · rw [if_neg h2, if_neg h2]
            refine ⟨fun _ => ⟨by omega, ?_⟩, fun h => by omega⟩
            rw [show s + 1 + 1 - s = 2 by omega, nm, nm, nm, Nat.zero_mul, Nat.zero_add]
            omega
      · rw [if_neg h1, if_neg h1]
        refine ⟨fun _ => ⟨by omega, ?_⟩, fun h => by omega⟩
        rw [show s + 1 - s = 1 by omega, nm, nm, Nat.zero_mul, Nat.zero_add]
theorem cv_le {tx : Nat → Nat} : ∀ m s v, v ≤ 999 → cv tx m s v ≤ 999
  | 0, _, _, h => h
  | m + 1, s, v, h => by
    rw [cv]
    split
    · rename_i hd
      have := isD_iff.mp hd
      refine cv_le m (s + 1) _ ?_
      split <;> omega
    · exact h
section TXB
variable {I J B : Hi} {tl : Nat} {tx : Nat → Nat}
def MT (J : Hi) (tl : Nat) (tx : Nat → Nat) : Prop := (J 77 19 = nI tl ∧ tl ≤ 160) ∧ ∀ j, j < tl → J 88 j = nI (tx j) ∧ tx j < 256
theorem T2.mt (h : T2 I J tl tx) : MT J tl tx := ⟨⟨h.1.2.1, h.1.2.2⟩, fun j hj => (h.2 j hj).2⟩
theorem MT.fr (h : MT J tl tx) (h2 : ∀ a b, ((a = 77 ∧ b = 19) ∨ a = 88) → B a b = J a b) : MT B tl tx := by
  obtain ⟨⟨a2, a3⟩, h⟩ := h
  refine ⟨⟨by rw [h2 _ _ (by omega)]; exact a2, a3⟩, fun j hj => ?_⟩
  rw [h2 88 j (by omega)]
  exact h j hj
theorem MT.u (h : MT J tl tx) {j : Nat} {v : Int32} (hj : j ≠ 19) : MT (u2 J 77 j v) tl tx := h.fr (fun a b k => by show u2 _ _ _ _ _ _ = _; exact if_neg (by omega))
theorem m_here (h : MT J tl tx) {e : Nat} (he : J 77 20 = nI e) (hle : e ≤ tl) : f_X7_here J = some (if e < tl then nI (tx e) else -1) := by
  have := h.1.2
  rw [f_X7_here, h.1.1, he]
  by_cases hlt : e < tl
  · rw [if_neg (by rw [nIle (by omega) (by omega)]; omega), if_pos (vinT (by omega) (by omega)), nIn (by omega), (h.2 e hlt).1, if_pos hlt]
  · rw [if_pos ((nIle (by omega) (by omega)).mpr (by omega)), if_neg hlt]
theorem m_isL (h : MT J tl tx) {e : Nat} (he : J 77 20 = nI e) (hle : e ≤ tl) : f_X7_isLetter J = some (if e < tl then isL (tx e) else false) := by
  rw [f_X7_isLetter, m_here h he hle, obs]
  by_cases hlt : e < tl
  · rw [if_pos hlt, if_pos hlt, in_nat (l := 97) (h := 122) (by have := (h.2 e hlt).2; omega) (by decide) (by decide), obs]
    rfl
  · rw [if_neg hlt, if_neg hlt]
    decide
theorem m_isD (h : MT J tl tx) {e : Nat} (he : J 77 20 = nI e) (hle : e ≤ tl) : f_X7_isFigure J = some (if e < tl then isD (tx e) else false) := by
  rw [f_X7_isFigure, m_here h he hle, obs]
  by_cases hlt : e < tl
  · rw [if_pos hlt, if_pos hlt, in_nat (l := 48) (h := 57) (by have := (h.2 e hlt).2; omega) (by decide) (by decide), obs]
    rfl
  · rw [if_neg hlt, if_neg hlt]
    decide
theorem l_mword (h : MT B tl tx) : ∀ m e f, e + m = tl → m < f → b_X7_step_66 f (u2 B 77 20 (nI e)) = some (u2 B 77 20 (nI (ad isL tx m e)))
  | 0, e, f + 1, he, hf => by
    rw [b_X7_step_66, m_isL (h.u (by decide)) u2_s (by omega), obs, if_neg (show ¬ e < tl by omega), if_neg (by decide), ad]
  | m + 1, e, f + 1, he, hf => by
    rw [b_X7_step_66, m_isL (h.u (by decide)) u2_s (by omega), obs, if_pos (show e < tl by omega), ad]
    cases hb : isL (tx e) with
    | true => rw [if_pos rfl, if_pos rfl, obs, u2_s, nI_1, u2_u2, l_mword h m (e + 1) f (by omega) (by omega)]
    | false => rw [if_neg (by decide), if_neg (by decide)]
theorem u2_x {v w x y : Int32} : u2 (u2 (u2 (u2 B 77 23 v) 77 20 w) 77 23 x) 77 20 y = u2 (u2 B 77 23 x) 77 20 y := by
  funext a b
  simp only [u2]
  by_cases h1 : a = 77 ∧ b = 20
  · rw [if_pos h1, if_pos h1]
  · rw [if_neg h1, if_neg h1]
    by_cases h2 : a = 77 ∧ b = 23
    · rw [if_pos h2, if_neg h1, if_pos h2]
    · rw [if_neg h2, if_neg h1, if_neg h2, if_neg h2]
theorem l_mfig (h : MT B tl tx) (b1 : Bool) : ∀ m e f v, e + m = tl → m < f → v ≤ 999 → b_X7_readsFigures_15 f (u2 (u2 B 77 23 (nI v)) 77 20 (nI e)) b1 = b_X7_readsFigures_70 (u2 (u2 B 77 23 (nI (cv tx m e v))) 77 20 (nI (ad isD tx m e))) b1
  | 0, e, f + 1, v, he, hf, hv => by
    rw [b_X7_readsFigures_15, m_isD ((h.u (by decide)).u (by decide)) u2_s (by omega), obs, if_neg (show ¬ e < tl by omega), if_neg (by decide), ad, cv]
  | m + 1, e, f + 1, v, he, hf, hv => by
    have q23 : u2 (u2 B 77 23 (nI v)) 77 20 (nI e) 77 23 = nI v := by rw [u2_c (by decide), u2_s]
    rw [b_X7_readsFigures_15, m_isD ((h.u (by decide)).u (by decide)) u2_s (by omega), obs, if_pos (show e < tl by omega), ad, cv, q23]
    cases hb : isD (tx e) with
    | true =>
      have hd := isD_iff.mp hb
      rw [if_pos rfl, if_pos rfl, if_pos rfl, nIl 99]
      by_cases h9 : v ≤ 99
      · rw [if_pos ((nIle (by omega) (by omega)).mpr h9), if_pos h9, m_here ((h.u (by decide)).u (by decide)) u2_s (by omega), obs, if_pos (show e < tl by omega), nIl 10, pk_mul, nI_add, nIl 48, pk_sub (by omega), b_X7_readsFigures_54, obs, obs, u2_c (by decide), u2_s, nI_1, u2_x]
        exact l_mfig h b1 m (e + 1) f _ (by omega) (by omega) (by omega)
      · rw [if_neg (by rw [nIle (by omega) (by omega)]; exact h9), if_neg h9, b_X7_readsFigures_54, obs, obs, u2_c (by decide), u2_s, nI_1, u2_x]
        exact l_mfig h b1 m (e + 1) f _ (by omega) (by omega) hv
    | false => rw [if_neg (by decide), if_neg (by decide), if_neg (by decide)]
def tM (J : Hi) (k st en v : Nat) : Hi := u2 (u2 (u2 (u2 J 77 21 (nI st)) 77 23 (nI v)) 77 22 (nI k)) 77 20 (nI en)
theorem tM_ext {X Y : Hi} (h20 : X 77 20 = Y 77 20) (h21 : X 77 21 = Y 77 21) (h22 : X 77 22 = Y 77 22) (h23 : X 77 23 = Y 77 23) (hF : ∀ a b, ¬ (a = 77 ∧ 20 ≤ b ∧ b ≤ 23) → X a b = Y a b) : X = Y := by
  funext a b
  by_cases h : a = 77 ∧ 20 ≤ b ∧ b ≤ 23
  · obtain ⟨rfl, h1, h2⟩ := h
    have : b = 20 ∨ b = 21 ∨ b = 22 ∨ b = 23 := by omega
    rcases this with rfl | rfl | rfl | rfl <;> assumption
  · exact hF a b h
def tkV (tx : Nat → Nat) (tl st : Nat) : Nat := if st < tl ∧ isL (tx st) = false ∧ isD (tx st) = true then cv tx (tl - st) st 0 else 0
theorem m_step22 (h : MT J tl tx) {st : Nat} (hst : st ≤ tl) : b_X7_step_22 (u2 J 77 20 (nI st)) = some (tM J (tkK tx tl st) st (tkE tx tl st) (tkV tx tl st)) := by
  have h160 := h.1.2
  generalize hA : u2 (u2 (u2 J 77 20 (nI st)) 77 21 (nI st)) 77 23 0 = A
  have hAT : MT A tl tx := by rw [← hA]; exact ((h.u (by decide)).u (by decide)).u (by decide)
  have A20 : A 77 20 = nI st := by rw [← hA, u2_c (by decide), u2_c (by decide), u2_s]
  have A21 : A 77 21 = nI st := by rw [← hA, u2_c (by decide), u2_s]
  have A23 : A 77 23 = nI 0 := by rw [← hA, u2_s]; rfl
  have AF : ∀ a b, ¬ (a = 77 ∧ 20 ≤ b ∧ b ≤ 23) → A a b = J a b := fun a b k => by
    rw [← hA]
    simp only [u2]
    rw [if_neg (by omega), if_neg (by omega), if_neg (by omega)]
  have TF : ∀ k en v a b, ¬ (a = 77 ∧ 20 ≤ b ∧ b ≤ 23) → tM J k st en v a b = J a b := fun k en v a b h => by
    simp only [tM, u2]
    rw [if_neg (by omega), if_neg (by omega), if_neg (by omega), if_neg (by omega)]
  have self : ∀ (X : Hi) (j : Nat) (v : Int32), X 77 j = v → u2 X 77 j v = X := fun X j v hv => by
    funext a b
    simp only [u2]
    by_cases h : a = 77 ∧ b = j
    · rw [if_pos h, h.1, h.2, hv]
    · rw [if_neg h]
  rw [b_X7_step_22, u2_s, obs, obs, hA, A20, hAT.1.1]
  by_cases hlt : st < tl
  · have hE : tkE tx tl st = if isL (tx st) = true then ad isL tx (tl - st) st else if isD (tx st) = true then ad isD tx (tl - st) st else st + 1 := if_pos hlt
    have hK : tkK tx tl st = if isL (tx st) = true then 1 else if isD (tx st) = true then nkd tx st (tkE tx tl st) else if tx st = 59 then 3 else 4 := if_pos hlt
    have h256 := (h.2 st hlt).2
    rw [if_neg (by rw [nIeq (by omega) (by omega)]; omega), m_isL hAT A20 hst, obs, if_pos hlt]
    cases hl : isL (tx st) with
    | true =>
      rw [hl, if_pos rfl] at hE hK
      have hV : tkV tx tl st = 0 := if_neg (fun k => by rw [hl] at k; cases k.2.1)
      have lw := l_mword (B := u2 A 77 22 1) (hAT.u (by decide)) (tl - st) st 2000 (by omega) (by omega)
      rw [self (u2 A 77 22 1) 20 (nI st) (by rw [u2_c (by decide)]; exact A20)] at lw
      rw [if_pos rfl, obs, lw, hE, hK, hV]
      congr 1
      refine tM_ext rfl ?_ rfl ?_ (fun a b k => ?_)
      · rw [u2_c (by decide), u2_c (by decide), A21]; rfl
      · rw [u2_c (by decide), u2_c (by decide), A23]; rfl
      · rw [TF _ _ _ _ _ k]
        simp only [u2]
        rw [if_neg (by omega), if_neg (by omega), AF _ _ k]
    | false =>
      rw [hl, if_neg (by decide)] at hE hK
      rw [if_neg (by decide), m_isD hAT A20 hst, obs, if_pos hlt]
      cases hd : isD (tx st) with
      | true =>
        rw [hd, if_pos rfl] at hE hK
        have hV : tkV tx tl st = cv tx (tl - st) st 0 := if_pos ⟨hlt, hl, hd⟩
        have hgt := ad_gt (p := isD) (tx := tx) (m := tl - st) (by omega) hd
        have hle := (ad_ge (p := isD) (tx := tx) (tl - st) st).2
        obtain ⟨f1, f2⟩ := cv_facts (tx := tx) (m := tl - st) (by omega) hd
        have hcl := cv_le (tx := tx) (tl - st) st 0 (by omega)
        have lf := fun b1 => l_mfig (B := A) hAT b1 (tl - st) st 2000 0 (by omega) (by omega) (by omega)
        rw [self A 23 (nI 0) A23, self A 20 (nI st) A20] at lf
        rw [if_pos rfl, f_X7_readsFigures, m_here hAT A20 hst, obs, if_pos hlt, nIl 48, hK, hE, hV]
        generalize cv tx (tl - st) st 0 = V at *
        generalize ad isD tx (tl - st) st = E at *
        have q20 : u2 (u2 A 77 23 (nI V)) 77 20 (nI E) 77 20 = nI E := u2_s
        have q21 : u2 (u2 A 77 23 (nI V)) 77 20 (nI E) 77 21 = nI st := by rw [u2_c (by decide), u2_c (by decide)]; exact A21
        have q23 : u2 (u2 A 77 23 (nI V)) 77 20 (nI E) 77 23 = nI V := by rw [u2_c (by decide), u2_s]
        have fin : ∀ k, u2 (u2 (u2 A 77 23 (nI V)) 77 20 (nI E)) 77 22 (nI k) = tM J k st E V := fun k => by
          refine tM_ext rfl ?_ rfl ?_ (fun a b kk => ?_)
          · rw [u2_c (by decide), q21]; rfl
          · rw [u2_c (by decide), q23]; rfl
          · rw [TF _ _ _ _ _ kk]
            simp only [u2]
            rw [if_neg (by omega), if_neg (by omega), if_neg (by omega), AF _ _ kk]
        have k70 : ∀ b1 : Bool, (b1 = true ↔ tx st = 48) → b_X7_readsFigures_70 (u2 (u2 A 77 23 (nI V)) 77 20 (nI E)) b1 = some (tM J (nkd tx st E) st E V) := by
          intro b1 hb1
          rw [b_X7_readsFigures_70, q23, q20, q21, nIl 99, pk_sub (by omega), nIl 1]
          by_cases h99 : 99 < V
          · have : nkd tx st E = 4 := by
              unfold nkd
              by_cases hz : tx st = 48 ∧ 1 < E - st
              · rw [if_pos hz]
              · rw [if_neg hz, if_neg (fun k => by have := (f1 k).1; omega)]
            rw [if_pos ((nIlt (by omega) (by omega)).mpr h99), b_X7_readsFigures_97, b_X7_readsFigures_102, obs, this, ← fin 4]
            rfl
          · rw [if_neg (by rw [nIlt (by omega) (by omega)]; exact h99)]
            cases b1 with
            | true =>
              have h48 := hb1.mp rfl
              rw [if_pos rfl]
              by_cases h1 : E - st ≤ 1
              · have : nkd tx st E = 2 := by rw [nkd, if_neg (by omega), if_pos (by omega)]
                rw [if_pos ((nIle (by omega) (by omega)).mpr h1), b_X7_readsFigures_101, b_X7_readsFigures_102, obs, this, ← fin 2]
                rfl
              · have : nkd tx st E = 4 := by rw [nkd, if_pos ⟨h48, by omega⟩]
                rw [if_neg (by rw [nIle (by omega) (by omega)]; exact h1), b_X7_readsFigures_97, b_X7_readsFigures_102, obs, this, ← fin 4]
                rfl
            | false =>
              have h48 : ¬ tx st = 48 := fun k => by have := hb1.mpr k; cases this
              have : nkd tx st E = 2 := by
                rw [nkd, if_neg (fun k => h48 k.1), if_pos]
                apply Nat.le_of_not_lt
                intro k
                have := f2 (by omega) h48
                omega
              rw [if_neg (by decide), b_X7_readsFigures_101, b_X7_readsFigures_102, obs, this, ← fin 2]
              rfl
        by_cases h48 : tx st = 48
        · rw [if_pos (by rw [h48]), b_X7_readsFigures_14, lf, k70 true ⟨fun _ => h48, fun _ => rfl⟩, obs]
        · rw [if_neg (by rw [nIeq (by omega) (by omega)]; exact h48), b_X7_readsFigures_14, lf, k70 false ⟨(fun k => absurd k (by decide)), fun k => absurd k h48⟩, obs]
      | false =>
        rw [hd, if_neg (by decide)] at hE hK
        have hV : tkV tx tl st = 0 := if_neg (fun k => by rw [hd] at k; cases k.2.2)
        have fin : ∀ k, u2 (u2 A 77 22 (nI k)) 77 20 (nI (st + 1)) = tM J k st (st + 1) 0 := fun k => by
          refine tM_ext rfl ?_ rfl ?_ (fun a b kk => ?_)
          · rw [u2_c (by decide), u2_c (by decide), A21]; rfl
          · rw [u2_c (by decide), u2_c (by decide), A23]; rfl
          · rw [TF _ _ _ _ _ kk]
            simp only [u2]
            rw [if_neg (by omega), if_neg (by omega), AF _ _ kk]
        rw [if_neg (by decide), m_here hAT A20 hst, obs, if_pos hlt, nIl 59, hK, hE, hV]
        by_cases h59 : tx st = 59
        · rw [if_pos (by rw [h59]), if_pos h59, b_X7_step_115, obs, u2_c (by decide), A20, nI_1, obs, ← fin 3]; rfl
        · rw [if_neg (by rw [nIeq (by omega) (by omega)]; exact h59), if_neg h59, b_X7_step_115, obs, u2_c (by decide), A20, nI_1, obs, ← fin 4]; rfl
  · have hV : tkV tx tl st = 0 := if_neg (fun k => hlt k.1)
    rw [if_pos (by rw [nIeq (by omega) (by omega)]; omega), obs, tkK, tkE, if_neg hlt, if_neg hlt, hV]
    congr 1
    refine tM_ext ?_ ?_ rfl ?_ (fun a b kk => ?_)
    · rw [u2_c (by decide), A20]; rfl
    · rw [u2_c (by decide), A21]; rfl
    · rw [u2_c (by decide), A23]; rfl
    · rw [TF _ _ _ _ _ kk]
      simp only [u2]
      rw [if_neg (by omega), AF _ _ kk]
theorem l_mskip (h : MT J tl tx) : ∀ m s f, s + m = tl → m < f → b_X7_step_0 f (u2 J 77 20 (nI s)) = b_X7_step_22 (u2 J 77 20 (nI (sk tx m s)))
  | 0, s, f + 1, hs, hf => by
    rw [b_X7_step_0, m_here (h.u (by decide)) u2_s (by omega), obs, if_neg (show ¬ s < tl by omega), if_neg (by decide), sk]
  | m + 1, s, f + 1, hs, hf => by
    have h256 := (h.2 s (by omega)).2
    rw [b_X7_step_0, m_here (h.u (by decide)) u2_s (by omega), obs, if_pos (show s < tl by omega), nIl 32, sk]
    by_cases h3 : tx s = 32
    · rw [if_pos (by rw [h3]), if_pos h3, obs, u2_s, nI_1, u2_u2, l_mskip h m (s + 1) f (by omega) (by omega)]
    · rw [if_neg (by rw [nIeq (by omega) (by omega)]; exact h3), if_neg h3]
theorem m_step (h : MT J tl tx) {e : Nat} (h4 : J 77 20 = nI e) (he : e ≤ tl) : f_X7_step J = some (tM J (tkK tx tl (sk tx (tl - e) e)) (sk tx (tl - e) e) (tkE tx tl (sk tx (tl - e) e)) (tkV tx tl (sk tx (tl - e) e))) := by
  have h160 := h.1.2
  have := sk_ge (tx := tx) (tl - e) e
  have self : u2 J 77 20 (nI e) = J := by
    funext a b
    simp only [u2]
    by_cases h : a = 77 ∧ b = 20
    · rw [if_pos h, h.1, h.2, h4]
    · rw [if_neg h]
  have l := l_mskip h (tl - e) e 2001 (by omega) (by omega)
  rw [self] at l
  rw [show f_X7_step J = b_X7_step_0 (2000 + 1) J by rw [f_X7_step, b_X7_step_0], l, m_step22 h (by omega)]
end TXB
