def b_X6_first_52 (c : Nat) (d : Nat) (I : Hi) (k24 : Int32 → Int32 → Int32 → Int32 → Option (Int32)) (x1 : Int32) (x2 : Int32) (x3 : Int32) (x4 : Int32) : Option (Int32) := k24 x1 x2 x3 (x4 + 1)
set_option maxRecDepth 100000 in
set_option maxHeartbeats 4000000 in
theorem t_X6_first_52 {G : GP} {X : CX} (hX : XOK G X mi_X6_first) {c d : Nat} (hc : isC c) (hd : isC d) {I : Hi} {L : Hl} {p : Int32} (hZ : XZ G X mi_X6_first (some (.int p)) S0 I (R0 c d) L) {k24 : Int32 → Int32 → Int32 → Int32 → Option (Int32)} (hk24 : ∀ (x1 : Int32) (x2 : Int32) (x3 : Int32) (x4 : Int32), k24 x1 x2 x3 x4 = some p → AW G X 0 0 S0 I (R0 c d) L 24 [.ref 0, .int x1, .int x2, .int x3, .int x4] []) (x1 : Int32) (x2 : Int32) (x3 : Int32) (x4 : Int32) (h : b_X6_first_52 c d I k24 x1 x2 x3 x4 = some p) : AW G X 0 0 S0 I (R0 c d) L 52 [.ref 0, .int x1, .int x2, .int x3, .int x4] [] := by
  rw [b_X6_first_52] at h
  refine aw_iincE (pc := 52) hX (x4 + 1) [.ref 0, .int x1, .int x2, .int x3, .int (x4 + 1)] dX6_first_52 rfl rfl (by decide) rfl rfl ?_
  refine aw_goto (pc := 55) hX 24 dX6_first_55 rfl ?_
  exact AW.lo (hk24 x1 x2 x3 (x4 + 1)  h) (And.intro (Or.inr rfl) (And.intro (Or.inr rfl) (And.intro (Or.inr rfl) (And.intro (Or.inr rfl) (And.intro (Or.inr rfl) trivial)))))
def b_X6_first_24 (c : Nat) (d : Nat) (I : Hi)  : Nat → Int32 → Int32 → Int32 → Int32 → Option (Int32)
  | 0, _, _, _, _ => none
  | n + 1, x1, x2, x3, x4 => if (6 : Int32) ≤ x4 then (some (x3)) else ((f_X0_passedOn (c) I x4 x2).bind fun r38 => if r38 = x1 then (b_X6_first_52 c d I (b_X6_first_24 c d I n) x1 x2 (x3 ||| ((1 : Int32) <<< (x4 &&& 31))) x4) else (b_X6_first_52 c d I (b_X6_first_24 c d I n) x1 x2 x3 x4))
set_option maxRecDepth 100000 in
set_option maxHeartbeats 4000000 in
theorem t_X6_first_24 {G : GP} {X : CX} (hX : XOK G X mi_X6_first) {c d : Nat} (hc : isC c) (hd : isC d) {I : Hi} {L : Hl} {p : Int32} (hZ : XZ G X mi_X6_first (some (.int p)) S0 I (R0 c d) L) : ∀ (n : Nat) (x1 : Int32) (x2 : Int32) (x3 : Int32) (x4 : Int32), b_X6_first_24 c d I n x1 x2 x3 x4 = some p → AW G X 0 0 S0 I (R0 c d) L 24 [.ref 0, .int x1, .int x2, .int x3, .int x4] [] := by
  intro n
  induction n with
  | zero => intro x1 x2 x3 x4 h; cases h
  | succ n ih =>
    intro x1 x2 x3 x4 h
    rw [b_X6_first_24] at h
    refine aw_iload (pc := 24) hX dX6_first_24 rfl ?_
    refine aw_bipush (pc := 26) hX (6 : Int32) dX6_first_26 (by decide) ?_
    refine aw_icmp_ge (pc := 28) hX 58 dX6_first_28 rfl (fun hc28 => ?_) (fun hc28 => ?_)
    · have h := ite_t h hc28
      refine aw_iload_n (pc := 58) hX 3 dX6_first_58 rfl rfl ?_
      have e := Option.some.inj h
      subst e
      exact aw_iret hX hZ dX6_first_59 rfl rfl rfl rfl rfl rfl rfl (Nat.le_refl _)
    · have h := ite_f h hc28
      refine aw_aload_n (pc := 31) hX 0 dX6_first_31 rfl rfl ?_
      refine aw_getR (pc := 32) hX dX6_first_32 f_X6_19 rfl (by rfl) (q := c) (by rfl) ?_
      refine aw_iload (pc := 35) hX dX6_first_35 rfl ?_
      refine aw_iload_n (pc := 37) hX 2 dX6_first_37 rfl rfl ?_
      obtain ⟨r38, hq38, h⟩ := bind_s h
      refine aw_V2i (pc := 38) hX h_X0_passedOn l_X6_217 dX6_first_38 (csh0 hc) (by decide) (by rfl) rfl rfl rfl (Nat.le_of_ble_eq_true rfl) (s_X0_passedOn hc hq38) ?_
      refine aw_iload_n (pc := 41) hX 1 dX6_first_41 rfl rfl ?_
      refine aw_icmp_ne (pc := 42) hX 52 dX6_first_42 rfl (fun hc42 => ?_) (fun hc42 => ?_)
      · have h := ite_f h hc42
        exact AW.lo (t_X6_first_52 hX hc hd hZ (ih) x1 x2 x3 x4 h) (And.intro (Or.inr rfl) (And.intro (Or.inr rfl) (And.intro (Or.inr rfl) (And.intro (Or.inr rfl) (And.intro (Or.inr rfl) trivial)))))
      · have h := ite_t h hc42
        refine aw_iload_n (pc := 45) hX 3 dX6_first_45 rfl rfl ?_
        refine aw_iconst (pc := 46) hX (1 : Int32) dX6_first_46 (by decide) ?_
        refine aw_iload (pc := 47) hX dX6_first_47 rfl ?_
        refine aw_ishl (pc := 49) hX dX6_first_49 ?_
        refine aw_ior (pc := 50) hX dX6_first_50 ?_
        refine aw_istore_nE (pc := 51) hX 3 [.ref 0, .int x1, .int x2, .int (x3 ||| ((1 : Int32) <<< (x4 &&& 31))), .int x4] dX6_first_51 rfl (by decide) rfl rfl ?_
        exact AW.lo (t_X6_first_52 hX hc hd hZ (ih) x1 x2 (x3 ||| ((1 : Int32) <<< (x4 &&& 31))) x4 h) (And.intro (Or.inr rfl) (And.intro (Or.inr rfl) (And.intro (Or.inr rfl) (And.intro (Or.inr rfl) (And.intro (Or.inr rfl) trivial)))))
def f_X6_first (c : Nat) (d : Nat) (I : Hi) (x1 : Int32) (x2 : Int32) : Option (Int32) := (f_X6_isTaste x1).bind fun r1 => if r1 = true then (if x2 < (0 : Int32) then (some ((-1 : Int32))) else (if x2 ≤ (99 : Int32) then (b_X6_first_24 c d I 2000 x1 x2 (0 : Int32) (0 : Int32)) else (some ((-1 : Int32))))) else (some ((-1 : Int32)))
set_option maxRecDepth 100000 in
set_option maxHeartbeats 4000000 in
theorem s_X6_first {G : GP} {c d : Nat} (hc : isC c) (hd : isC d) {I : Hi} {L : Hl} {x1 : Int32} {x2 : Int32} {p : Int32} (h : f_X6_first c d I x1 x2 = some p) : CD G mi_X6_first [.ref 0, .int x1, .int x2] S0 I (R0 c d) L (some (.int p)) S0 I (R0 c d) L := by
  refine CD.intro 2 rfl (by decide) rfl fun X hX hZ => ?_
  rw [f_X6_first] at h
  show AW G X 0 0 S0 I (R0 c d) L 0 [.ref 0, .int x1, .int x2, .null, .null] []
  refine aw_iload_n (pc := 0) hX 1 dX6_first_0 rfl rfl ?_
  obtain ⟨r1, hq1, h⟩ := bind_s h
  refine aw_S1i (pc := 1) hX h_X6_isTaste l_X6_122 dX6_first_1 rfl rfl rfl (Nat.le_of_ble_eq_true rfl) (s_X6_isTaste  hq1) ?_
  refine aw_if_eq (pc := 4) hX 17 dX6_first_4 rfl (fun hc4 => ?_) (fun hc4 => ?_)
  · have h := ite_f h (bI0 hc4)
    refine aw_iconst (pc := 17) hX (-1 : Int32) dX6_first_17 (by decide) ?_
    have e := Option.some.inj h
    subst e
    exact aw_iret hX hZ dX6_first_18 rfl rfl rfl rfl rfl rfl rfl (Nat.le_refl _)
  · have h := ite_t h (bI1 hc4)
    refine aw_iload_n (pc := 7) hX 2 dX6_first_7 rfl rfl ?_
    refine aw_if_lt (pc := 8) hX 17 dX6_first_8 rfl (fun hc8 => ?_) (fun hc8 => ?_)
    · have h := ite_t h hc8
      refine aw_iconst (pc := 17) hX (-1 : Int32) dX6_first_17 (by decide) ?_
      have e := Option.some.inj h
      subst e
      exact aw_iret hX hZ dX6_first_18 rfl rfl rfl rfl rfl rfl rfl (Nat.le_refl _)
    · have h := ite_f h hc8
      refine aw_iload_n (pc := 11) hX 2 dX6_first_11 rfl rfl ?_
      refine aw_bipush (pc := 12) hX (99 : Int32) dX6_first_12 (by decide) ?_
      refine aw_icmp_le (pc := 14) hX 19 dX6_first_14 rfl (fun hc14 => ?_) (fun hc14 => ?_)
      · have h := ite_t h hc14
        refine aw_iconst (pc := 19) hX (0 : Int32) dX6_first_19 (by decide) ?_
        refine aw_istore_nE (pc := 20) hX 3 [.ref 0, .int x1, .int x2, .int (0 : Int32), .null] dX6_first_20 rfl (by decide) rfl rfl ?_
        refine aw_iconst (pc := 21) hX (0 : Int32) dX6_first_21 (by decide) ?_
        refine aw_istoreE (pc := 22) hX [.ref 0, .int x1, .int x2, .int (0 : Int32), .int (0 : Int32)] dX6_first_22 (by decide) rfl rfl ?_
        exact AW.lo (t_X6_first_24 hX hc hd hZ 2000 x1 x2 (0 : Int32) (0 : Int32) h) (And.intro (Or.inr rfl) (And.intro (Or.inr rfl) (And.intro (Or.inr rfl) (And.intro (Or.inr rfl) (And.intro (Or.inr rfl) trivial)))))
      · have h := ite_f h hc14
        refine aw_iconst (pc := 17) hX (-1 : Int32) dX6_first_17 (by decide) ?_
        have e := Option.some.inj h
        subst e
        exact aw_iret hX hZ dX6_first_18 rfl rfl rfl rfl rfl rfl rfl (Nat.le_refl _)
def f_X6_when (c : Nat) (d : Nat) (I : Hi) (x1 : Int32) : Option (Int32) := if x1 < (0 : Int32) then (some ((-1 : Int32))) else (if x1 ≤ (30000 : Int32) then ((f_X0_dayOfAllFridays (c) I x1).bind fun r18 => some (r18)) else (some ((-1 : Int32))))
set_option maxRecDepth 100000 in
set_option maxHeartbeats 4000000 in
theorem s_X6_when {G : GP} {c d : Nat} (hc : isC c) (hd : isC d) {I : Hi} {L : Hl} {x1 : Int32} {p : Int32} (h : f_X6_when c d I x1 = some p) : CD G mi_X6_when [.ref 0, .int x1] S0 I (R0 c d) L (some (.int p)) S0 I (R0 c d) L := by
  refine CD.intro 0 rfl (by decide) rfl fun X hX hZ => ?_
  rw [f_X6_when] at h
  show AW G X 0 0 S0 I (R0 c d) L 0 [.ref 0, .int x1] []
  refine aw_iload_n (pc := 0) hX 1 dX6_when_0 rfl rfl ?_
  refine aw_if_lt (pc := 1) hX 11 dX6_when_1 rfl (fun hc1 => ?_) (fun hc1 => ?_)
  · have h := ite_t h hc1
    refine aw_iconst (pc := 11) hX (-1 : Int32) dX6_when_11 (by decide) ?_
    have e := Option.some.inj h
    subst e
    exact aw_iret hX hZ dX6_when_12 rfl rfl rfl rfl rfl rfl rfl (Nat.le_refl _)
  · have h := ite_f h hc1
    refine aw_iload_n (pc := 4) hX 1 dX6_when_4 rfl rfl ?_
    refine aw_sipush (pc := 5) hX (30000 : Int32) dX6_when_5 (by decide) ?_
    refine aw_icmp_le (pc := 8) hX 13 dX6_when_8 rfl (fun hc8 => ?_) (fun hc8 => ?_)
    · have h := ite_t h hc8
      refine aw_aload_n (pc := 13) hX 0 dX6_when_13 rfl rfl ?_
      refine aw_getR (pc := 14) hX dX6_when_14 f_X6_19 rfl (by rfl) (q := c) (by rfl) ?_
      refine aw_iload_n (pc := 17) hX 1 dX6_when_17 rfl rfl ?_
      obtain ⟨r18, hq18, h⟩ := bind_s h
      refine aw_V1i (pc := 18) hX h_X0_dayOfAllFridays l_X6_220 dX6_when_18 (csh0 hc) (by decide) (by rfl) rfl rfl rfl (Nat.le_of_ble_eq_true rfl) (s_X0_dayOfAllFridays hc hq18) ?_
      have e := Option.some.inj h
      subst e
      exact aw_iret hX hZ dX6_when_21 rfl rfl rfl rfl rfl rfl rfl (Nat.le_refl _)
    · have h := ite_f h hc8
      refine aw_iconst (pc := 11) hX (-1 : Int32) dX6_when_11 (by decide) ?_
      have e := Option.some.inj h
      subst e
      exact aw_iret hX hZ dX6_when_12 rfl rfl rfl rfl rfl rfl rfl (Nat.le_refl _)
def b_X6_choices_4   : Nat → Int32 → Int32 → Int32 → Int32 → Option (Int32)
  | 0, _, _, _, _ => none
  | n + 1, x0, x1, x2, x3 => if x1 < x3 then (some (x2)) else (if x3 = (0 : Int32) then none else b_X6_choices_4 n x0 x1 ((x2 * ((x0 - x3) + (1 : Int32))) / x3) (x3 + 1))
set_option maxRecDepth 100000 in
set_option maxHeartbeats 4000000 in
theorem t_X6_choices_4 {G : GP} {X : CX} (hX : XOK G X mi_X6_choices) {c d : Nat} {I : Hi} {L : Hl} {p : Int32} (hZ : XZ G X mi_X6_choices (some (.int p)) S0 I (R0 c d) L) : ∀ (n : Nat) (x0 : Int32) (x1 : Int32) (x2 : Int32) (x3 : Int32), b_X6_choices_4 n x0 x1 x2 x3 = some p → AW G X 0 0 S0 I (R0 c d) L 4 [.int x0, .int x1, .int x2, .int x3] [] := by
  intro n
  induction n with
  | zero => intro x0 x1 x2 x3 h; cases h
  | succ n ih =>
    intro x0 x1 x2 x3 h
    rw [b_X6_choices_4] at h
    refine aw_iload_n (pc := 4) hX 3 dX6_choices_4 rfl rfl ?_
    refine aw_iload_n (pc := 5) hX 1 dX6_choices_5 rfl rfl ?_
    refine aw_icmp_gt (pc := 6) hX 25 dX6_choices_6 rfl (fun hc6 => ?_) (fun hc6 => ?_)
    · have h := ite_t h hc6
      refine aw_iload_n (pc := 25) hX 2 dX6_choices_25 rfl rfl ?_
      have e := Option.some.inj h
      subst e
      exact aw_iret hX hZ dX6_choices_26 rfl rfl rfl rfl rfl rfl rfl (Nat.le_refl _)
    · have h := ite_f h hc6
      refine aw_iload_n (pc := 9) hX 2 dX6_choices_9 rfl rfl ?_
      refine aw_iload_n (pc := 10) hX 0 dX6_choices_10 rfl rfl ?_
      refine aw_iload_n (pc := 11) hX 3 dX6_choices_11 rfl rfl ?_
      refine aw_isub (pc := 12) hX dX6_choices_12 ?_
      refine aw_iconst (pc := 13) hX (1 : Int32) dX6_choices_13 (by decide) ?_
      refine aw_iadd (pc := 14) hX dX6_choices_14 ?_
      refine aw_imul (pc := 15) hX dX6_choices_15 ?_
      refine aw_iload_n (pc := 16) hX 3 dX6_choices_16 rfl rfl ?_
      obtain ⟨hne17, h⟩ := ite_n h
      refine aw_idiv (pc := 17) hX dX6_choices_17 hne17 ?_
      refine aw_istore_nE (pc := 18) hX 2 [.int x0, .int x1, .int ((x2 * ((x0 - x3) + (1 : Int32))) / x3), .int x3] dX6_choices_18 rfl (by decide) rfl rfl ?_
      refine aw_iincE (pc := 19) hX (x3 + 1) [.int x0, .int x1, .int ((x2 * ((x0 - x3) + (1 : Int32))) / x3), .int (x3 + 1)] dX6_choices_19 rfl rfl (by decide) rfl rfl ?_
      refine aw_goto (pc := 22) hX 4 dX6_choices_22 rfl ?_
      exact AW.lo (ih x0 x1 ((x2 * ((x0 - x3) + (1 : Int32))) / x3) (x3 + 1)  h) (And.intro (Or.inr rfl) (And.intro (Or.inr rfl) (And.intro (Or.inr rfl) (And.intro (Or.inr rfl) trivial))))
def f_X6_choices  (x0 : Int32) (x1 : Int32) : Option (Int32) := b_X6_choices_4 2000 x0 x1 (1 : Int32) (1 : Int32)
set_option maxRecDepth 100000 in
set_option maxHeartbeats 4000000 in
theorem s_X6_choices {G : GP} {c d : Nat} {I : Hi} {L : Hl} {x0 : Int32} {x1 : Int32} {p : Int32} (h : f_X6_choices x0 x1 = some p) : CD G mi_X6_choices [.int x0, .int x1] S0 I (R0 c d) L (some (.int p)) S0 I (R0 c d) L := by
  refine CD.intro 2 rfl (by decide) rfl fun X hX hZ => ?_
  rw [f_X6_choices] at h
  show AW G X 0 0 S0 I (R0 c d) L 0 [.int x0, .int x1, .null, .null] []
  refine aw_iconst (pc := 0) hX (1 : Int32) dX6_choices_0 (by decide) ?_
  refine aw_istore_nE (pc := 1) hX 2 [.int x0, .int x1, .int (1 : Int32), .null] dX6_choices_1 rfl (by decide) rfl rfl ?_
  refine aw_iconst (pc := 2) hX (1 : Int32) dX6_choices_2 (by decide) ?_
  refine aw_istore_nE (pc := 3) hX 3 [.int x0, .int x1, .int (1 : Int32), .int (1 : Int32)] dX6_choices_3 rfl (by decide) rfl rfl ?_
  exact AW.lo (t_X6_choices_4 hX hZ 2000 x0 x1 (1 : Int32) (1 : Int32) h) (And.intro (Or.inr rfl) (And.intro (Or.inr rfl) (And.intro (Or.inr rfl) (And.intro (Or.inr rfl) trivial))))
def b_X6_power_4   : Nat → Int32 → Int32 → Int32 → Int32 → Option (Int32)
  | 0, _, _, _, _ => none
  | n + 1, x0, x1, x2, x3 => if x1 ≤ x3 then (some (x2)) else (b_X6_power_4 n x0 x1 (x2 * x0) (x3 + 1))
set_option maxRecDepth 100000 in
set_option maxHeartbeats 4000000 in
theorem t_X6_power_4 {G : GP} {X : CX} (hX : XOK G X mi_X6_power) {c d : Nat} {I : Hi} {L : Hl} {p : Int32} (hZ : XZ G X mi_X6_power (some (.int p)) S0 I (R0 c d) L) : ∀ (n : Nat) (x0 : Int32) (x1 : Int32) (x2 : Int32) (x3 : Int32), b_X6_power_4 n x0 x1 x2 x3 = some p → AW G X 0 0 S0 I (R0 c d) L 4 [.int x0, .int x1, .int x2, .int x3] [] := by
  intro n
  induction n with
  | zero => intro x0 x1 x2 x3 h; cases h
  | succ n ih =>
    intro x0 x1 x2 x3 h
    rw [b_X6_power_4] at h
    refine aw_iload_n (pc := 4) hX 3 dX6_power_4 rfl rfl ?_
    refine aw_iload_n (pc := 5) hX 1 dX6_power_5 rfl rfl ?_
    refine aw_icmp_ge (pc := 6) hX 19 dX6_power_6 rfl (fun hc6 => ?_) (fun hc6 => ?_)
    · have h := ite_t h hc6
      refine aw_iload_n (pc := 19) hX 2 dX6_power_19 rfl rfl ?_
      have e := Option.some.inj h
      subst e
      exact aw_iret hX hZ dX6_power_20 rfl rfl rfl rfl rfl rfl rfl (Nat.le_refl _)
    · have h := ite_f h hc6
      refine aw_iload_n (pc := 9) hX 2 dX6_power_9 rfl rfl ?_
      refine aw_iload_n (pc := 10) hX 0 dX6_power_10 rfl rfl ?_
      refine aw_imul (pc := 11) hX dX6_power_11 ?_
      refine aw_istore_nE (pc := 12) hX 2 [.int x0, .int x1, .int (x2 * x0), .int x3] dX6_power_12 rfl (by decide) rfl rfl ?_
      refine aw_iincE (pc := 13) hX (x3 + 1) [.int x0, .int x1, .int (x2 * x0), .int (x3 + 1)] dX6_power_13 rfl rfl (by decide) rfl rfl ?_
      refine aw_goto (pc := 16) hX 4 dX6_power_16 rfl ?_
      exact AW.lo (ih x0 x1 (x2 * x0) (x3 + 1)  h) (And.intro (Or.inr rfl) (And.intro (Or.inr rfl) (And.intro (Or.inr rfl) (And.intro (Or.inr rfl) trivial))))
def f_X6_power  (x0 : Int32) (x1 : Int32) : Option (Int32) := b_X6_power_4 2000 x0 x1 (1 : Int32) (0 : Int32)
set_option maxRecDepth 100000 in
set_option maxHeartbeats 4000000 in
theorem s_X6_power {G : GP} {c d : Nat} {I : Hi} {L : Hl} {x0 : Int32} {x1 : Int32} {p : Int32} (h : f_X6_power x0 x1 = some p) : CD G mi_X6_power [.int x0, .int x1] S0 I (R0 c d) L (some (.int p)) S0 I (R0 c d) L := by
  refine CD.intro 2 rfl (by decide) rfl fun X hX hZ => ?_
  rw [f_X6_power] at h
  show AW G X 0 0 S0 I (R0 c d) L 0 [.int x0, .int x1, .null, .null] []
  refine aw_iconst (pc := 0) hX (1 : Int32) dX6_power_0 (by decide) ?_
  refine aw_istore_nE (pc := 1) hX 2 [.int x0, .int x1, .int (1 : Int32), .null] dX6_power_1 rfl (by decide) rfl rfl ?_
  refine aw_iconst (pc := 2) hX (0 : Int32) dX6_power_2 (by decide) ?_
  refine aw_istore_nE (pc := 3) hX 3 [.int x0, .int x1, .int (1 : Int32), .int (0 : Int32)] dX6_power_3 rfl (by decide) rfl rfl ?_
  exact AW.lo (t_X6_power_4 hX hZ 2000 x0 x1 (1 : Int32) (0 : Int32) h) (And.intro (Or.inr rfl) (And.intro (Or.inr rfl) (And.intro (Or.inr rfl) (And.intro (Or.inr rfl) trivial))))
def b_X6_odds_120   (x7 : Int32) (xs0 : Int32) : Option (Int32) := if x7 = (0 : Int32) then none else some ((xs0 / x7))
set_option maxRecDepth 100000 in
set_option maxHeartbeats 4000000 in
theorem t_X6_odds_120 {G : GP} {X : CX} (hX : XOK G X mi_X6_odds) {c d : Nat} {I : Hi} {L : Hl} {p : Int32} (hZ : XZ G X mi_X6_odds (some (.int p)) S0 I (R0 c d) L) (x7 : Int32) (xs0 : Int32) (h : b_X6_odds_120 x7 xs0 = some p) : AW G X 0 0 S0 I (R0 c d) L 120 [.null, .null, .null, .null, .null, .null, .null, .int x7] [.int xs0] := by
  rw [b_X6_odds_120] at h
  refine aw_iload (pc := 120) hX dX6_odds_120 rfl ?_
  obtain ⟨hne122, h⟩ := ite_n h
  refine aw_idiv (pc := 122) hX dX6_odds_122 hne122 ?_
  have e := Option.some.inj h
  subst e
  exact aw_iret hX hZ dX6_odds_123 rfl rfl rfl rfl rfl rfl rfl (Nat.le_refl _)
def b_X6_odds_91   (x2 : Int32) (x4 : Int32) (x5 : Int32) : Option (Int32) := (f_X6_power (10 : Int32) x2).bind fun r94 => (f_X6_greatestDivisor x5 r94).bind fun r103 => if x4 = (0 : Int32) then (b_X6_odds_120 r103 x5) else (b_X6_odds_120 r103 r94)
set_option maxRecDepth 100000 in
set_option maxHeartbeats 4000000 in
theorem t_X6_odds_91 {G : GP} {X : CX} (hX : XOK G X mi_X6_odds) {c d : Nat} {I : Hi} {L : Hl} {p : Int32} (hZ : XZ G X mi_X6_odds (some (.int p)) S0 I (R0 c d) L) (x2 : Int32) (x4 : Int32) (x5 : Int32) (h : b_X6_odds_91 x2 x4 x5 = some p) : AW G X 0 0 S0 I (R0 c d) L 91 [.null, .null, .int x2, .null, .int x4, .int x5, .null, .null] [] := by
  rw [b_X6_odds_91] at h
  refine aw_bipush (pc := 91) hX (10 : Int32) dX6_odds_91 (by decide) ?_
  refine aw_iload_n (pc := 93) hX 2 dX6_odds_93 rfl rfl ?_
  obtain ⟨r94, hq94, h⟩ := bind_s h
  refine aw_S2i (pc := 94) hX h_X6_power l_X6_226 dX6_odds_94 rfl rfl rfl (Nat.le_of_ble_eq_true rfl) (s_X6_power  hq94) ?_
  refine aw_istoreE (pc := 97) hX [.null, .null, .int x2, .null, .int x4, .int x5, .int r94, .null] dX6_odds_97 (by decide) rfl rfl ?_
  refine aw_iload (pc := 99) hX dX6_odds_99 rfl ?_
  refine aw_iload (pc := 101) hX dX6_odds_101 rfl ?_
  obtain ⟨r103, hq103, h⟩ := bind_s h
  refine aw_S2i (pc := 103) hX h_X6_greatestDivisor l_X6_229 dX6_odds_103 rfl rfl rfl (Nat.le_of_ble_eq_true rfl) (s_X6_greatestDivisor  hq103) ?_
  refine aw_istoreE (pc := 106) hX [.null, .null, .int x2, .null, .int x4, .int x5, .int r94, .int r103] dX6_odds_106 (by decide) rfl rfl ?_
  refine aw_iload (pc := 108) hX dX6_odds_108 rfl ?_
  refine aw_if_ne (pc := 110) hX 118 dX6_odds_110 rfl (fun hc110 => ?_) (fun hc110 => ?_)
  · have h := ite_f h hc110
    refine aw_iload (pc := 118) hX dX6_odds_118 rfl ?_
    exact AW.lo (t_X6_odds_120 hX hZ r103 r94 h) (And.intro (Or.inl rfl) (And.intro (Or.inl rfl) (And.intro (Or.inl rfl) (And.intro (Or.inl rfl) (And.intro (Or.inl rfl) (And.intro (Or.inl rfl) (And.intro (Or.inl rfl) (And.intro (Or.inr rfl) trivial))))))))
  · have h := ite_t h hc110
    refine aw_iload (pc := 113) hX dX6_odds_113 rfl ?_
    refine aw_goto (pc := 115) hX 120 dX6_odds_115 rfl ?_
    exact AW.lo (t_X6_odds_120 hX hZ r103 x5 h) (And.intro (Or.inl rfl) (And.intro (Or.inl rfl) (And.intro (Or.inl rfl) (And.intro (Or.inl rfl) (And.intro (Or.inl rfl) (And.intro (Or.inl rfl) (And.intro (Or.inl rfl) (And.intro (Or.inr rfl) trivial))))))))
def b_X6_odds_49   : Nat → Int32 → Int32 → Int32 → Int32 → Int32 → Option (Int32)
  | 0, _, _, _, _, _ => none
  | n + 1, x1, x2, x4, x5, x6 => if x2 < x6 then (b_X6_odds_91 x2 x4 x5) else ((f_X6_choices x2 x6).bind fun r60 => (f_X6_power x1 x6).bind fun r66 => (f_X6_power ((10 : Int32) - x1) (x2 - x6)).bind fun r78 => b_X6_odds_49 n x1 x2 x4 (x5 + ((r60 * r66) * r78)) (x6 + 1))
set_option maxRecDepth 100000 in
set_option maxHeartbeats 4000000 in
theorem t_X6_odds_49 {G : GP} {X : CX} (hX : XOK G X mi_X6_odds) {c d : Nat} {I : Hi} {L : Hl} {p : Int32} (hZ : XZ G X mi_X6_odds (some (.int p)) S0 I (R0 c d) L) : ∀ (n : Nat) (x1 : Int32) (x2 : Int32) (x4 : Int32) (x5 : Int32) (x6 : Int32), b_X6_odds_49 n x1 x2 x4 x5 x6 = some p → AW G X 0 0 S0 I (R0 c d) L 49 [.null, .int x1, .int x2, .null, .int x4, .int x5, .int x6, .null] [] := by
  intro n
  induction n with
  | zero => intro x1 x2 x4 x5 x6 h; cases h
  | succ n ih =>
    intro x1 x2 x4 x5 x6 h
    rw [b_X6_odds_49] at h
    refine aw_iload (pc := 49) hX dX6_odds_49 rfl ?_
    refine aw_iload_n (pc := 51) hX 2 dX6_odds_51 rfl rfl ?_
    refine aw_icmp_gt (pc := 52) hX 91 dX6_odds_52 rfl (fun hc52 => ?_) (fun hc52 => ?_)
    · have h := ite_t h hc52
      exact AW.lo (t_X6_odds_91 hX hZ x2 x4 x5 h) (And.intro (Or.inl rfl) (And.intro (Or.inl rfl) (And.intro (Or.inr rfl) (And.intro (Or.inl rfl) (And.intro (Or.inr rfl) (And.intro (Or.inr rfl) (And.intro (Or.inl rfl) (And.intro (Or.inl rfl) trivial))))))))
    · have h := ite_f h hc52
      refine aw_iload (pc := 55) hX dX6_odds_55 rfl ?_
      refine aw_iload_n (pc := 57) hX 2 dX6_odds_57 rfl rfl ?_
      refine aw_iload (pc := 58) hX dX6_odds_58 rfl ?_
      obtain ⟨r60, hq60, h⟩ := bind_s h
      refine aw_S2i (pc := 60) hX h_X6_choices l_X6_223 dX6_odds_60 rfl rfl rfl (Nat.le_of_ble_eq_true rfl) (s_X6_choices  hq60) ?_
      refine aw_iload_n (pc := 63) hX 1 dX6_odds_63 rfl rfl ?_
      refine aw_iload (pc := 64) hX dX6_odds_64 rfl ?_
      obtain ⟨r66, hq66, h⟩ := bind_s h
      refine aw_S2i (pc := 66) hX h_X6_power l_X6_226 dX6_odds_66 rfl rfl rfl (Nat.le_of_ble_eq_true rfl) (s_X6_power  hq66) ?_
      refine aw_imul (pc := 69) hX dX6_odds_69 ?_
      refine aw_bipush (pc := 70) hX (10 : Int32) dX6_odds_70 (by decide) ?_
      refine aw_iload_n (pc := 72) hX 1 dX6_odds_72 rfl rfl ?_
      refine aw_isub (pc := 73) hX dX6_odds_73 ?_
      refine aw_iload_n (pc := 74) hX 2 dX6_odds_74 rfl rfl ?_
      refine aw_iload (pc := 75) hX dX6_odds_75 rfl ?_
      refine aw_isub (pc := 77) hX dX6_odds_77 ?_
      obtain ⟨r78, hq78, h⟩ := bind_s h
      refine aw_S2i (pc := 78) hX h_X6_power l_X6_226 dX6_odds_78 rfl rfl rfl (Nat.le_of_ble_eq_true rfl) (s_X6_power  hq78) ?_
      refine aw_imul (pc := 81) hX dX6_odds_81 ?_
      refine aw_iadd (pc := 82) hX dX6_odds_82 ?_
      refine aw_istoreE (pc := 83) hX [.null, .int x1, .int x2, .null, .int x4, .int (x5 + ((r60 * r66) * r78)), .int x6, .null] dX6_odds_83 (by decide) rfl rfl ?_
      refine aw_iincE (pc := 85) hX (x6 + 1) [.null, .int x1, .int x2, .null, .int x4, .int (x5 + ((r60 * r66) * r78)), .int (x6 + 1), .null] dX6_odds_85 rfl rfl (by decide) rfl rfl ?_
      refine aw_goto (pc := 88) hX 49 dX6_odds_88 rfl ?_
      exact AW.lo (ih x1 x2 x4 (x5 + ((r60 * r66) * r78)) (x6 + 1)  h) (And.intro (Or.inl rfl) (And.intro (Or.inr rfl) (And.intro (Or.inr rfl) (And.intro (Or.inl rfl) (And.intro (Or.inr rfl) (And.intro (Or.inr rfl) (And.intro (Or.inr rfl) (And.intro (Or.inl rfl) trivial))))))))
def f_X6_odds  (x1 : Int32) (x2 : Int32) (x3 : Int32) (x4 : Int32) : Option (Int32) := if x1 < (0 : Int32) then (some ((-1 : Int32))) else (if (10 : Int32) < x1 then (some ((-1 : Int32))) else (if x2 < (0 : Int32) then (some ((-1 : Int32))) else (if (6 : Int32) < x2 then (some ((-1 : Int32))) else (if x3 < (0 : Int32) then (some ((-1 : Int32))) else (if (6 : Int32) < x3 then (some ((-1 : Int32))) else (if x4 < (0 : Int32) then (some ((-1 : Int32))) else (if x4 ≤ (1 : Int32) then (b_X6_odds_49 2000 x1 x2 x4 (0 : Int32) x3) else (some ((-1 : Int32))))))))))
set_option maxRecDepth 100000 in
set_option maxHeartbeats 4000000 in
theorem s_X6_odds {G : GP} {c d : Nat} {I : Hi} {L : Hl} {x1 : Int32} {x2 : Int32} {x3 : Int32} {x4 : Int32} {p : Int32} (h : f_X6_odds x1 x2 x3 x4 = some p) : CD G mi_X6_odds [.ref 0, .int x1, .int x2, .int x3, .int x4] S0 I (R0 c d) L (some (.int p)) S0 I (R0 c d) L := by
  refine CD.intro 3 rfl (by decide) rfl fun X hX hZ => ?_
  rw [f_X6_odds] at h
  show AW G X 0 0 S0 I (R0 c d) L 0 [.ref 0, .int x1, .int x2, .int x3, .int x4, .null, .null, .null] []
  refine aw_iload_n (pc := 0) hX 1 dX6_odds_0 rfl rfl ?_
  refine aw_if_lt (pc := 1) hX 41 dX6_odds_1 rfl (fun hc1 => ?_) (fun hc1 => ?_)
  · have h := ite_t h hc1
    refine aw_iconst (pc := 41) hX (-1 : Int32) dX6_odds_41 (by decide) ?_
    have e := Option.some.inj h
    subst e
    exact aw_iret hX hZ dX6_odds_42 rfl rfl rfl rfl rfl rfl rfl (Nat.le_refl _)
  · have h := ite_f h hc1
    refine aw_iload_n (pc := 4) hX 1 dX6_odds_4 rfl rfl ?_
    refine aw_bipush (pc := 5) hX (10 : Int32) dX6_odds_5 (by decide) ?_
    refine aw_icmp_gt (pc := 7) hX 41 dX6_odds_7 rfl (fun hc7 => ?_) (fun hc7 => ?_)
    · have h := ite_t h hc7
      refine aw_iconst (pc := 41) hX (-1 : Int32) dX6_odds_41 (by decide) ?_
      have e := Option.some.inj h
      subst e
      exact aw_iret hX hZ dX6_odds_42 rfl rfl rfl rfl rfl rfl rfl (Nat.le_refl _)
    · have h := ite_f h hc7
      refine aw_iload_n (pc := 10) hX 2 dX6_odds_10 rfl rfl ?_
      refine aw_if_lt (pc := 11) hX 41 dX6_odds_11 rfl (fun hc11 => ?_) (fun hc11 => ?_)
      · have h := ite_t h hc11
        refine aw_iconst (pc := 41) hX (-1 : Int32) dX6_odds_41 (by decide) ?_
        have e := Option.some.inj h
        subst e
        exact aw_iret hX hZ dX6_odds_42 rfl rfl rfl rfl rfl rfl rfl (Nat.le_refl _)
      · have h := ite_f h hc11
        refine aw_iload_n (pc := 14) hX 2 dX6_odds_14 rfl rfl ?_
        refine aw_bipush (pc := 15) hX (6 : Int32) dX6_odds_15 (by decide) ?_
        refine aw_icmp_gt (pc := 17) hX 41 dX6_odds_17 rfl (fun hc17 => ?_) (fun hc17 => ?_)
        · have h := ite_t h hc17
          refine aw_iconst (pc := 41) hX (-1 : Int32) dX6_odds_41 (by decide) ?_
          have e := Option.some.inj h
          subst e
          exact aw_iret hX hZ dX6_odds_42 rfl rfl rfl rfl rfl rfl rfl (Nat.le_refl _)
        · have h := ite_f h hc17
          refine aw_iload_n (pc := 20) hX 3 dX6_odds_20 rfl rfl ?_
          refine aw_if_lt (pc := 21) hX 41 dX6_odds_21 rfl (fun hc21 => ?_) (fun hc21 => ?_)
          · have h := ite_t h hc21
            refine aw_iconst (pc := 41) hX (-1 : Int32) dX6_odds_41 (by decide) ?_
            have e := Option.some.inj h
            subst e
            exact aw_iret hX hZ dX6_odds_42 rfl rfl rfl rfl rfl rfl rfl (Nat.le_refl _)
          · have h := ite_f h hc21
            refine aw_iload_n (pc := 24) hX 3 dX6_odds_24 rfl rfl ?_
            refine aw_bipush (pc := 25) hX (6 : Int32) dX6_odds_25 (by decide) ?_
            refine aw_icmp_gt (pc := 27) hX 41 dX6_odds_27 rfl (fun hc27 => ?_) (fun hc27 => ?_)
            · have h := ite_t h hc27
              refine aw_iconst (pc := 41) hX (-1 : Int32) dX6_odds_41 (by decide) ?_
              have e := Option.some.inj h
              subst e
              exact aw_iret hX hZ dX6_odds_42 rfl rfl rfl rfl rfl rfl rfl (Nat.le_refl _)
            · have h := ite_f h hc27
              refine aw_iload (pc := 30) hX dX6_odds_30 rfl ?_
              refine aw_if_lt (pc := 32) hX 41 dX6_odds_32 rfl (fun hc32 => ?_) (fun hc32 => ?_)
              · have h := ite_t h hc32
                refine aw_iconst (pc := 41) hX (-1 : Int32) dX6_odds_41 (by decide) ?_
                have e := Option.some.inj h
                subst e
                exact aw_iret hX hZ dX6_odds_42 rfl rfl rfl rfl rfl rfl rfl (Nat.le_refl _)
              · have h := ite_f h hc32
                refine aw_iload (pc := 35) hX dX6_odds_35 rfl ?_
                refine aw_iconst (pc := 37) hX (1 : Int32) dX6_odds_37 (by decide) ?_
                refine aw_icmp_le (pc := 38) hX 43 dX6_odds_38 rfl (fun hc38 => ?_) (fun hc38 => ?_)
                · have h := ite_t h hc38
                  refine aw_iconst (pc := 43) hX (0 : Int32) dX6_odds_43 (by decide) ?_
                  refine aw_istoreE (pc := 44) hX [.ref 0, .int x1, .int x2, .int x3, .int x4, .int (0 : Int32), .null, .null] dX6_odds_44 (by decide) rfl rfl ?_
                  refine aw_iload_n (pc := 46) hX 3 dX6_odds_46 rfl rfl ?_
                  refine aw_istoreE (pc := 47) hX [.ref 0, .int x1, .int x2, .int x3, .int x4, .int (0 : Int32), .int x3, .null] dX6_odds_47 (by decide) rfl rfl ?_
                  exact AW.lo (t_X6_odds_49 hX hZ 2000 x1 x2 x4 (0 : Int32) x3 h) (And.intro (Or.inl rfl) (And.intro (Or.inr rfl) (And.intro (Or.inr rfl) (And.intro (Or.inl rfl) (And.intro (Or.inr rfl) (And.intro (Or.inr rfl) (And.intro (Or.inr rfl) (And.intro (Or.inl rfl) trivial))))))))
                · have h := ite_f h hc38
                  refine aw_iconst (pc := 41) hX (-1 : Int32) dX6_odds_41 (by decide) ?_
                  have e := Option.some.inj h
                  subst e
                  exact aw_iret hX hZ dX6_odds_42 rfl rfl rfl rfl rfl rfl rfl (Nat.le_refl _)
def f_X6_rateAsGoer (c : Nat) (d : Nat) (I : Hi) (L : Hl) (x1 : Int32) : Option (Int32 × Hl) := (some (u2 L (0) 9 ((L (0) 9) + (1 : Int64)))).bind fun L7 => if vinb x1 6 then (f_J6_bitCount_0f7a4 (I (c + 2) (x1).toNatClampNeg)).bind fun r19 => some (r19, L7) else none
set_option maxRecDepth 100000 in
set_option maxHeartbeats 4000000 in
theorem s_X6_rateAsGoer {G : GP} {c d : Nat} (hc : isC c) (hd : isC d) {I : Hi} {L : Hl} {x1 : Int32} {p : Int32 × Hl} (h : f_X6_rateAsGoer c d I L x1 = some p) : CD G mi_X6_rateAsGoer [.ref 0, .int x1] S0 I (R0 c d) L (some (.int p.1)) S0 I (R0 c d) p.2 := by
  refine CD.intro 0 rfl (by decide) rfl fun X hX hZ => ?_
  rw [f_X6_rateAsGoer] at h
  show AW G X 0 0 S0 I (R0 c d) L 0 [.ref 0, .int x1] []
  refine aw_aload_n (pc := 0) hX 0 dX6_rateAsGoer_0 rfl rfl ?_
  refine aw_dup (pc := 1) hX dX6_rateAsGoer_1 rfl ?_
  refine aw_getL (pc := 2) hX dX6_rateAsGoer_2 f_X6_62 rfl (by rfl) ?_
  refine aw_lconst (pc := 5) hX (1 : Int64) dX6_rateAsGoer_5 (by decide) ?_
  refine aw_ladd (pc := 6) hX dX6_rateAsGoer_6 ?_
  refine aw_putL (pc := 7) hX dX6_rateAsGoer_7 f_X6_62 rfl rfl rfl rfl (by rfl) ?_
  obtain ⟨L7, hl7, h⟩ := bind_s h
  refine AW.lEq hl7 ?_
  refine aw_aload_n (pc := 10) hX 0 dX6_rateAsGoer_10 rfl rfl ?_
  refine aw_getR (pc := 11) hX dX6_rateAsGoer_11 f_X6_19 rfl (by rfl) (q := c) (by rfl) ?_
  refine aw_getR (pc := 14) hX dX6_rateAsGoer_14 f_X6_101 rfl (csh0 hc) (q := c + 2) (crf1 hc) ?_
  refine aw_iload_n (pc := 17) hX 1 dX6_rateAsGoer_17 rfl rfl ?_
  obtain ⟨hv18, h⟩ := ite_g h
  refine aw_iaload (pc := 18) hX dX6_rateAsGoer_18 (csh2 hc) (vinb_in hv18) ?_
  obtain ⟨r19, hq19, h⟩ := bind_s h
  refine aw_S1i (pc := 19) hX h_J6_bitCount_0f7a4 l_X6_146 dX6_rateAsGoer_19 rfl rfl rfl (Nat.le_of_ble_eq_true rfl) (s_J6_bitCount_0f7a4  hq19) ?_
  have e := Option.some.inj h
  subst e
  exact aw_iret hX hZ dX6_rateAsGoer_22 rfl rfl rfl rfl rfl rfl rfl (Nat.le_refl _)
def f_X6_rateAsGent (c : Nat) (d : Nat) (I : Hi) (L : Hl) (x1 : Int32) : Option (Int32 × Hl) := (some (u2 L (0) 9 ((L (0) 9) + (10 : Int64)))).bind fun L9 => (f_X6_rateAsGoer c d I L9 x1).bind fun r14 => if vinb x1 6 then some ((r14.1 + (I (18) (x1).toNatClampNeg)), r14.2) else none
set_option maxRecDepth 100000 in
set_option maxHeartbeats 4000000 in
theorem s_X6_rateAsGent {G : GP} {c d : Nat} (hc : isC c) (hd : isC d) {I : Hi} {L : Hl} {x1 : Int32} {p : Int32 × Hl} (h : f_X6_rateAsGent c d I L x1 = some p) : CD G mi_X6_rateAsGent [.ref 0, .int x1] S0 I (R0 c d) L (some (.int p.1)) S0 I (R0 c d) p.2 := by
  refine CD.intro 0 rfl (by decide) rfl fun X hX hZ => ?_
  rw [f_X6_rateAsGent] at h
  show AW G X 0 0 S0 I (R0 c d) L 0 [.ref 0, .int x1] []
  refine aw_aload_n (pc := 0) hX 0 dX6_rateAsGent_0 rfl rfl ?_
  refine aw_dup (pc := 1) hX dX6_rateAsGent_1 rfl ?_
  refine aw_getL (pc := 2) hX dX6_rateAsGent_2 f_X6_62 rfl (by rfl) ?_
  refine aw_ldc2 (pc := 5) hX dX6_rateAsGent_5 v_X6_251 ?_
  refine aw_ladd (pc := 8) hX dX6_rateAsGent_8 ?_
  refine aw_putL (pc := 9) hX dX6_rateAsGent_9 f_X6_62 rfl rfl rfl rfl (by rfl) ?_
  obtain ⟨L9, hl9, h⟩ := bind_s h
  refine AW.lEq hl9 ?_
  refine aw_aload_n (pc := 12) hX 0 dX6_rateAsGent_12 rfl rfl ?_
  refine aw_iload_n (pc := 13) hX 1 dX6_rateAsGent_13 rfl rfl ?_
  obtain ⟨r14, hq14, h⟩ := bind_s h
  refine aw_V1i (pc := 14) hX h_X6_rateAsGoer l_X6_233 dX6_rateAsGent_14 (by rfl) (by decide) (by rfl) rfl rfl rfl (Nat.le_of_ble_eq_true rfl) (s_X6_rateAsGoer hc hd hq14) ?_
  refine aw_aload_n (pc := 17) hX 0 dX6_rateAsGent_17 rfl rfl ?_
  refine aw_getR (pc := 18) hX dX6_rateAsGent_18 f_X6_29 rfl (by rfl) (q := 15) (by rfl) ?_
  refine aw_getR (pc := 21) hX dX6_rateAsGent_21 f_X6_113 rfl (by rfl) (q := 18) (by rfl) ?_
  refine aw_iload_n (pc := 24) hX 1 dX6_rateAsGent_24 rfl rfl ?_
  obtain ⟨hv25, h⟩ := ite_g h
  refine aw_iaload (pc := 25) hX dX6_rateAsGent_25 (by rfl) (vinb_in hv25) ?_
  refine aw_iadd (pc := 26) hX dX6_rateAsGent_26 ?_
  have e := Option.some.inj h
  subst e
  exact aw_iret hX hZ dX6_rateAsGent_27 rfl rfl rfl rfl rfl rfl rfl (Nat.le_refl _)
def f_X6_rateAsDoctor (c : Nat) (d : Nat) (I : Hi) (L : Hl) (x1 : Int32) : Option (Int32 × Hl) := (some (u2 L (0) 9 ((L (0) 9) + (100 : Int64)))).bind fun L9 => (f_X6_rateAsGoer c d I L9 x1).bind fun r14 => (f_X0_leavesThatLet (c) I x1).bind fun r22 => (f_J6_bitCount_0f7a4 r22).bind fun r25 => some ((r14.1 - r25), r14.2)
set_option maxRecDepth 100000 in
set_option maxHeartbeats 4000000 in
theorem s_X6_rateAsDoctor {G : GP} {c d : Nat} (hc : isC c) (hd : isC d) {I : Hi} {L : Hl} {x1 : Int32} {p : Int32 × Hl} (h : f_X6_rateAsDoctor c d I L x1 = some p) : CD G mi_X6_rateAsDoctor [.ref 0, .int x1] S0 I (R0 c d) L (some (.int p.1)) S0 I (R0 c d) p.2 := by
  refine CD.intro 0 rfl (by decide) rfl fun X hX hZ => ?_
  rw [f_X6_rateAsDoctor] at h
  show AW G X 0 0 S0 I (R0 c d) L 0 [.ref 0, .int x1] []
  refine aw_aload_n (pc := 0) hX 0 dX6_rateAsDoctor_0 rfl rfl ?_
  refine aw_dup (pc := 1) hX dX6_rateAsDoctor_1 rfl ?_
  refine aw_getL (pc := 2) hX dX6_rateAsDoctor_2 f_X6_62 rfl (by rfl) ?_
  refine aw_ldc2 (pc := 5) hX dX6_rateAsDoctor_5 v_X6_253 ?_
  refine aw_ladd (pc := 8) hX dX6_rateAsDoctor_8 ?_
  refine aw_putL (pc := 9) hX dX6_rateAsDoctor_9 f_X6_62 rfl rfl rfl rfl (by rfl) ?_
  obtain ⟨L9, hl9, h⟩ := bind_s h
  refine AW.lEq hl9 ?_
  refine aw_aload_n (pc := 12) hX 0 dX6_rateAsDoctor_12 rfl rfl ?_
  refine aw_iload_n (pc := 13) hX 1 dX6_rateAsDoctor_13 rfl rfl ?_
  obtain ⟨r14, hq14, h⟩ := bind_s h
  refine aw_V1i (pc := 14) hX h_X6_rateAsGoer l_X6_233 dX6_rateAsDoctor_14 (by rfl) (by decide) (by rfl) rfl rfl rfl (Nat.le_of_ble_eq_true rfl) (s_X6_rateAsGoer hc hd hq14) ?_
  refine aw_aload_n (pc := 17) hX 0 dX6_rateAsDoctor_17 rfl rfl ?_
  refine aw_getR (pc := 18) hX dX6_rateAsDoctor_18 f_X6_19 rfl (by rfl) (q := c) (by rfl) ?_
  refine aw_iload_n (pc := 21) hX 1 dX6_rateAsDoctor_21 rfl rfl ?_
  obtain ⟨r22, hq22, h⟩ := bind_s h
  refine aw_V1i (pc := 22) hX h_X0_leavesThatLet l_X6_116 dX6_rateAsDoctor_22 (csh0 hc) (by decide) (by rfl) rfl rfl rfl (Nat.le_of_ble_eq_true rfl) (s_X0_leavesThatLet hc hq22) ?_
  obtain ⟨r25, hq25, h⟩ := bind_s h
  refine aw_S1i (pc := 25) hX h_J6_bitCount_0f7a4 l_X6_146 dX6_rateAsDoctor_25 rfl rfl rfl (Nat.le_of_ble_eq_true rfl) (s_J6_bitCount_0f7a4  hq25) ?_
  refine aw_isub (pc := 28) hX dX6_rateAsDoctor_28 ?_
  have e := Option.some.inj h
  subst e
  exact aw_iret hX hZ dX6_rateAsDoctor_29 rfl rfl rfl rfl rfl rfl rfl (Nat.le_refl _)
def f_X6_rateAsSamples (c : Nat) (d : Nat) (I : Hi) (L : Hl) (x1 : Int32) : Option (Int32 × Hl) := (some (u2 L (0) 9 ((L (0) 9) + (1000 : Int64)))).bind fun L9 => (f_X6_rateAsGent c d I L9 x1).bind fun r15 => some (((2 : Int32) * r15.1), r15.2)
set_option maxRecDepth 100000 in
set_option maxHeartbeats 4000000 in
theorem s_X6_rateAsSamples {G : GP} {c d : Nat} (hc : isC c) (hd : isC d) {I : Hi} {L : Hl} {x1 : Int32} {p : Int32 × Hl} (h : f_X6_rateAsSamples c d I L x1 = some p) : CD G mi_X6_rateAsSamples [.ref 0, .int x1] S0 I (R0 c d) L (some (.int p.1)) S0 I (R0 c d) p.2 := by
  refine CD.intro 0 rfl (by decide) rfl fun X hX hZ => ?_
  rw [f_X6_rateAsSamples] at h
  show AW G X 0 0 S0 I (R0 c d) L 0 [.ref 0, .int x1] []
  refine aw_aload_n (pc := 0) hX 0 dX6_rateAsSamples_0 rfl rfl ?_
  refine aw_dup (pc := 1) hX dX6_rateAsSamples_1 rfl ?_
  refine aw_getL (pc := 2) hX dX6_rateAsSamples_2 f_X6_62 rfl (by rfl) ?_
  refine aw_ldc2 (pc := 5) hX dX6_rateAsSamples_5 v_X6_255 ?_
  refine aw_ladd (pc := 8) hX dX6_rateAsSamples_8 ?_
  refine aw_putL (pc := 9) hX dX6_rateAsSamples_9 f_X6_62 rfl rfl rfl rfl (by rfl) ?_
  obtain ⟨L9, hl9, h⟩ := bind_s h
  refine AW.lEq hl9 ?_
  refine aw_iconst (pc := 12) hX (2 : Int32) dX6_rateAsSamples_12 (by decide) ?_
  refine aw_aload_n (pc := 13) hX 0 dX6_rateAsSamples_13 rfl rfl ?_
  refine aw_iload_n (pc := 14) hX 1 dX6_rateAsSamples_14 rfl rfl ?_
  obtain ⟨r15, hq15, h⟩ := bind_s h
  refine aw_V1i (pc := 15) hX h_X6_rateAsGent l_X6_236 dX6_rateAsSamples_15 (by rfl) (by decide) (by rfl) rfl rfl rfl (Nat.le_of_ble_eq_true rfl) (s_X6_rateAsGent hc hd hq15) ?_
  refine aw_imul (pc := 18) hX dX6_rateAsSamples_18 ?_
  have e := Option.some.inj h
  subst e
  exact aw_iret hX hZ dX6_rateAsSamples_19 rfl rfl rfl rfl rfl rfl rfl (Nat.le_refl _)
def f_X6_rateAsWife (c : Nat) (d : Nat) (I : Hi) (L : Hl) (x1 : Int32) : Option (Int32 × Hl) := (some (u2 L (0) 9 ((L (0) 9) + (10000 : Int64)))).bind fun L9 => (f_X6_rateAsDoctor c d I L9 x1).bind fun r14 => some ((r14.1 + x1), r14.2)
set_option maxRecDepth 100000 in
set_option maxHeartbeats 4000000 in
theorem s_X6_rateAsWife {G : GP} {c d : Nat} (hc : isC c) (hd : isC d) {I : Hi} {L : Hl} {x1 : Int32} {p : Int32 × Hl} (h : f_X6_rateAsWife c d I L x1 = some p) : CD G mi_X6_rateAsWife [.ref 0, .int x1] S0 I (R0 c d) L (some (.int p.1)) S0 I (R0 c d) p.2 := by
  refine CD.intro 0 rfl (by decide) rfl fun X hX hZ => ?_
  rw [f_X6_rateAsWife] at h
  show AW G X 0 0 S0 I (R0 c d) L 0 [.ref 0, .int x1] []
  refine aw_aload_n (pc := 0) hX 0 dX6_rateAsWife_0 rfl rfl ?_
  refine aw_dup (pc := 1) hX dX6_rateAsWife_1 rfl ?_
  refine aw_getL (pc := 2) hX dX6_rateAsWife_2 f_X6_62 rfl (by rfl) ?_
  refine aw_ldc2 (pc := 5) hX dX6_rateAsWife_5 v_X6_257 ?_
  refine aw_ladd (pc := 8) hX dX6_rateAsWife_8 ?_
  refine aw_putL (pc := 9) hX dX6_rateAsWife_9 f_X6_62 rfl rfl rfl rfl (by rfl) ?_
  obtain ⟨L9, hl9, h⟩ := bind_s h
  refine AW.lEq hl9 ?_
  refine aw_aload_n (pc := 12) hX 0 dX6_rateAsWife_12 rfl rfl ?_
  refine aw_iload_n (pc := 13) hX 1 dX6_rateAsWife_13 rfl rfl ?_
  obtain ⟨r14, hq14, h⟩ := bind_s h
  refine aw_V1i (pc := 14) hX h_X6_rateAsDoctor l_X6_239 dX6_rateAsWife_14 (by rfl) (by decide) (by rfl) rfl rfl rfl (Nat.le_of_ble_eq_true rfl) (s_X6_rateAsDoctor hc hd hq14) ?_
  refine aw_iload_n (pc := 17) hX 1 dX6_rateAsWife_17 rfl rfl ?_
  refine aw_iadd (pc := 18) hX dX6_rateAsWife_18 ?_
  have e := Option.some.inj h
  subst e
  exact aw_iret hX hZ dX6_rateAsWife_19 rfl rfl rfl rfl rfl rfl rfl (Nat.le_refl _)
def f_X6_rateAsTall (c : Nat) (d : Nat) (I : Hi) (L : Hl) (x1 : Int32) : Option (Int32 × Hl) := (some (u2 L (0) 9 ((L (0) 9) + (100000 : Int64)))).bind fun L9 => (f_X6_rateAsGoer c d I L9 x1).bind fun r14 => some ((r14.1 + (I (15) 2)), r14.2)
set_option maxRecDepth 100000 in
set_option maxHeartbeats 4000000 in
theorem s_X6_rateAsTall {G : GP} {c d : Nat} (hc : isC c) (hd : isC d) {I : Hi} {L : Hl} {x1 : Int32} {p : Int32 × Hl} (h : f_X6_rateAsTall c d I L x1 = some p) : CD G mi_X6_rateAsTall [.ref 0, .int x1] S0 I (R0 c d) L (some (.int p.1)) S0 I (R0 c d) p.2 := by
  refine CD.intro 0 rfl (by decide) rfl fun X hX hZ => ?_
  rw [f_X6_rateAsTall] at h
  show AW G X 0 0 S0 I (R0 c d) L 0 [.ref 0, .int x1] []
  refine aw_aload_n (pc := 0) hX 0 dX6_rateAsTall_0 rfl rfl ?_
  refine aw_dup (pc := 1) hX dX6_rateAsTall_1 rfl ?_
  refine aw_getL (pc := 2) hX dX6_rateAsTall_2 f_X6_62 rfl (by rfl) ?_
  refine aw_ldc2 (pc := 5) hX dX6_rateAsTall_5 v_X6_259 ?_
  refine aw_ladd (pc := 8) hX dX6_rateAsTall_8 ?_
  refine aw_putL (pc := 9) hX dX6_rateAsTall_9 f_X6_62 rfl rfl rfl rfl (by rfl) ?_
  obtain ⟨L9, hl9, h⟩ := bind_s h
  refine AW.lEq hl9 ?_
  refine aw_aload_n (pc := 12) hX 0 dX6_rateAsTall_12 rfl rfl ?_
  refine aw_iload_n (pc := 13) hX 1 dX6_rateAsTall_13 rfl rfl ?_
  obtain ⟨r14, hq14, h⟩ := bind_s h
  refine aw_V1i (pc := 14) hX h_X6_rateAsGoer l_X6_233 dX6_rateAsTall_14 (by rfl) (by decide) (by rfl) rfl rfl rfl (Nat.le_of_ble_eq_true rfl) (s_X6_rateAsGoer hc hd hq14) ?_
  refine aw_aload_n (pc := 17) hX 0 dX6_rateAsTall_17 rfl rfl ?_
  refine aw_getR (pc := 18) hX dX6_rateAsTall_18 f_X6_29 rfl (by rfl) (q := 15) (by rfl) ?_
  refine aw_getI (pc := 21) hX dX6_rateAsTall_21 f_X6_132 rfl (by rfl) ?_
  refine aw_iadd (pc := 24) hX dX6_rateAsTall_24 ?_
  have e := Option.some.inj h
  subst e
  exact aw_iret hX hZ dX6_rateAsTall_25 rfl rfl rfl rfl rfl rfl rfl (Nat.le_refl _)
def f_X6_rate (c : Nat) (d : Nat) (I : Hi) (L : Hl) (x1 : Int32) (x2 : Int32) : Option (Int32 × Hl) := (f_X0_hasGoer (c) I x2).bind fun r5 => if r5 = true then (if x1 = (0 : Int32) then ((f_X6_rateAsGoer c d I L x2).bind fun r54 => some (r54.1, r54.2)) else (if x1 = (1 : Int32) then ((f_X6_rateAsGent c d I L x2).bind fun r60 => some (r60.1, r60.2)) else (if x1 = (2 : Int32) then ((f_X6_rateAsDoctor c d I L x2).bind fun r66 => some (r66.1, r66.2)) else (if x1 = (3 : Int32) then ((f_X6_rateAsSamples c d I L x2).bind fun r72 => some (r72.1, r72.2)) else (if x1 = (4 : Int32) then ((f_X6_rateAsWife c d I L x2).bind fun r78 => some (r78.1, r78.2)) else (if x1 = (5 : Int32) then ((f_X6_rateAsTall c d I L x2).bind fun r84 => some (r84.1, r84.2)) else (some ((-1000000 : Int32), L)))))))) else (some ((-1000000 : Int32), L))
set_option maxRecDepth 100000 in
set_option maxHeartbeats 4000000 in
theorem s_X6_rate {G : GP} {c d : Nat} (hc : isC c) (hd : isC d) {I : Hi} {L : Hl} {x1 : Int32} {x2 : Int32} {p : Int32 × Hl} (h : f_X6_rate c d I L x1 x2 = some p) : CD G mi_X6_rate [.ref 0, .int x1, .int x2] S0 I (R0 c d) L (some (.int p.1)) S0 I (R0 c d) p.2 := by
  refine CD.intro 0 rfl (by decide) rfl fun X hX hZ => ?_
  rw [f_X6_rate] at h
  show AW G X 0 0 S0 I (R0 c d) L 0 [.ref 0, .int x1, .int x2] []
  refine aw_aload_n (pc := 0) hX 0 dX6_rate_0 rfl rfl ?_
  refine aw_getR (pc := 1) hX dX6_rate_1 f_X6_19 rfl (by rfl) (q := c) (by rfl) ?_
  refine aw_iload_n (pc := 4) hX 2 dX6_rate_4 rfl rfl ?_
  obtain ⟨r5, hq5, h⟩ := bind_s h
  refine aw_V1i (pc := 5) hX h_X0_hasGoer l_X6_98 dX6_rate_5 (csh0 hc) (by decide) (by rfl) rfl rfl rfl (Nat.le_of_ble_eq_true rfl) (s_X0_hasGoer hc hq5) ?_
  refine aw_if_ne (pc := 8) hX 14 dX6_rate_8 rfl (fun hc8 => ?_) (fun hc8 => ?_)
  · have h := ite_t h (bI1 hc8)
    refine aw_iload_n (pc := 14) hX 1 dX6_rate_14 rfl rfl ?_
    by_cases hs15_0 : x1 = (0 : Int32)
    · have h := ite_t h hs15_0
      refine aw_tcase (pc := 15) (off := 37) hX (0 : Int32) 52 dX6_rate_15 hs15_0 (by decide) (by decide) (by decide) rfl ?_
      refine aw_aload_n (pc := 52) hX 0 dX6_rate_52 rfl rfl ?_
      refine aw_iload_n (pc := 53) hX 2 dX6_rate_53 rfl rfl ?_
      obtain ⟨r54, hq54, h⟩ := bind_s h
      refine aw_V1i (pc := 54) hX h_X6_rateAsGoer l_X6_233 dX6_rate_54 (by rfl) (by decide) (by rfl) rfl rfl rfl (Nat.le_of_ble_eq_true rfl) (s_X6_rateAsGoer hc hd hq54) ?_
      have e := Option.some.inj h
      subst e
      exact aw_iret hX hZ dX6_rate_57 rfl rfl rfl rfl rfl rfl rfl (Nat.le_refl _)
    have h := ite_f h hs15_0
    by_cases hs15_1 : x1 = (1 : Int32)
    · have h := ite_t h hs15_1
      refine aw_tcase (pc := 15) (off := 43) hX (1 : Int32) 58 dX6_rate_15 hs15_1 (by decide) (by decide) (by decide) rfl ?_
      refine aw_aload_n (pc := 58) hX 0 dX6_rate_58 rfl rfl ?_
      refine aw_iload_n (pc := 59) hX 2 dX6_rate_59 rfl rfl ?_
      obtain ⟨r60, hq60, h⟩ := bind_s h
      refine aw_V1i (pc := 60) hX h_X6_rateAsGent l_X6_236 dX6_rate_60 (by rfl) (by decide) (by rfl) rfl rfl rfl (Nat.le_of_ble_eq_true rfl) (s_X6_rateAsGent hc hd hq60) ?_
      have e := Option.some.inj h
      subst e
      exact aw_iret hX hZ dX6_rate_63 rfl rfl rfl rfl rfl rfl rfl (Nat.le_refl _)
    have h := ite_f h hs15_1
    by_cases hs15_2 : x1 = (2 : Int32)
    · have h := ite_t h hs15_2
      refine aw_tcase (pc := 15) (off := 49) hX (2 : Int32) 64 dX6_rate_15 hs15_2 (by decide) (by decide) (by decide) rfl ?_
      refine aw_aload_n (pc := 64) hX 0 dX6_rate_64 rfl rfl ?_
      refine aw_iload_n (pc := 65) hX 2 dX6_rate_65 rfl rfl ?_
      obtain ⟨r66, hq66, h⟩ := bind_s h
      refine aw_V1i (pc := 66) hX h_X6_rateAsDoctor l_X6_239 dX6_rate_66 (by rfl) (by decide) (by rfl) rfl rfl rfl (Nat.le_of_ble_eq_true rfl) (s_X6_rateAsDoctor hc hd hq66) ?_
      have e := Option.some.inj h
      subst e
      exact aw_iret hX hZ dX6_rate_69 rfl rfl rfl rfl rfl rfl rfl (Nat.le_refl _)
    have h := ite_f h hs15_2
    by_cases hs15_3 : x1 = (3 : Int32)
    · have h := ite_t h hs15_3
      refine aw_tcase (pc := 15) (off := 55) hX (3 : Int32) 70 dX6_rate_15 hs15_3 (by decide) (by decide) (by decide) rfl ?_
      refine aw_aload_n (pc := 70) hX 0 dX6_rate_70 rfl rfl ?_
      refine aw_iload_n (pc := 71) hX 2 dX6_rate_71 rfl rfl ?_
      obtain ⟨r72, hq72, h⟩ := bind_s h
      refine aw_V1i (pc := 72) hX h_X6_rateAsSamples l_X6_242 dX6_rate_72 (by rfl) (by decide) (by rfl) rfl rfl rfl (Nat.le_of_ble_eq_true rfl) (s_X6_rateAsSamples hc hd hq72) ?_
      have e := Option.some.inj h
      subst e
      exact aw_iret hX hZ dX6_rate_75 rfl rfl rfl rfl rfl rfl rfl (Nat.le_refl _)
    have h := ite_f h hs15_3
    by_cases hs15_4 : x1 = (4 : Int32)
    · have h := ite_t h hs15_4
      refine aw_tcase (pc := 15) (off := 61) hX (4 : Int32) 76 dX6_rate_15 hs15_4 (by decide) (by decide) (by decide) rfl ?_
      refine aw_aload_n (pc := 76) hX 0 dX6_rate_76 rfl rfl ?_
      refine aw_iload_n (pc := 77) hX 2 dX6_rate_77 rfl rfl ?_
      obtain ⟨r78, hq78, h⟩ := bind_s h
      refine aw_V1i (pc := 78) hX h_X6_rateAsWife l_X6_245 dX6_rate_78 (by rfl) (by decide) (by rfl) rfl rfl rfl (Nat.le_of_ble_eq_true rfl) (s_X6_rateAsWife hc hd hq78) ?_
      have e := Option.some.inj h
      subst e
      exact aw_iret hX hZ dX6_rate_81 rfl rfl rfl rfl rfl rfl rfl (Nat.le_refl _)
    have h := ite_f h hs15_4
    by_cases hs15_5 : x1 = (5 : Int32)
    · have h := ite_t h hs15_5
      refine aw_tcase (pc := 15) (off := 67) hX (5 : Int32) 82 dX6_rate_15 hs15_5 (by decide) (by decide) (by decide) rfl ?_
      refine aw_aload_n (pc := 82) hX 0 dX6_rate_82 rfl rfl ?_
      refine aw_iload_n (pc := 83) hX 2 dX6_rate_83 rfl rfl ?_
      obtain ⟨r84, hq84, h⟩ := bind_s h
      refine aw_V1i (pc := 84) hX h_X6_rateAsTall l_X6_248 dX6_rate_84 (by rfl) (by decide) (by rfl) rfl rfl rfl (Nat.le_of_ble_eq_true rfl) (s_X6_rateAsTall hc hd hq84) ?_
      have e := Option.some.inj h
      subst e
      exact aw_iret hX hZ dX6_rate_87 rfl rfl rfl rfl rfl rfl rfl (Nat.le_refl _)
    have h := ite_f h hs15_5
    refine aw_tableOut (pc := 15) hX 88 dX6_rate_15 (by have g0 := lv_neT hs15_0 (show ((0 : Int32)).toInt = 0 by decide); have g1 := lv_neT hs15_1 (show ((1 : Int32)).toInt = 1 by decide); have g2 := lv_neT hs15_2 (show ((2 : Int32)).toInt = 2 by decide); have g3 := lv_neT hs15_3 (show ((3 : Int32)).toInt = 3 by decide); have g4 := lv_neT hs15_4 (show ((4 : Int32)).toInt = 4 by decide); have g5 := lv_neT hs15_5 (show ((5 : Int32)).toInt = 5 by decide); omega) rfl ?_
    refine aw_ldc (pc := 88) hX dX6_rate_88 v_X6_232 ?_
    have e := Option.some.inj h
    subst e
    exact aw_iret hX hZ dX6_rate_90 rfl rfl rfl rfl rfl rfl rfl (Nat.le_refl _)
  · have h := ite_f h (bI0 hc8)
    refine aw_ldc (pc := 11) hX dX6_rate_11 v_X6_232 ?_
    have e := Option.some.inj h
    subst e
    exact aw_iret hX hZ dX6_rate_13 rfl rfl rfl rfl rfl rfl rfl (Nat.le_refl _)
def f_X6_keep (I : Hi) (x1 : Int32) : Option (Int32 × Hi) := if x1 < (0 : Int32) then (some ((-1 : Int32), I)) else (if x1 < (2 : Int32) then (if vinb x1 2 then (f_X3_become (69 + 4 * (x1).toNatClampNeg) (15) I).bind fun r21 => if vinb x1 2 then (some (u2 r21 (62) (x1).toNatClampNeg (1 : Int32))).bind fun I30 => some ((I30 (15) 0), I30) else none else none) else (some ((-1 : Int32), I)))
set_option maxRecDepth 100000 in
set_option maxHeartbeats 4000000 in
theorem s_X6_keep {G : GP} {c d : Nat} {I : Hi} {L : Hl} {x1 : Int32} {p : Int32 × Hi} (h : f_X6_keep I x1 = some p) : CD G mi_X6_keep [.ref 0, .int x1] S0 I (R0 c d) L (some (.int p.1)) S0 p.2 (R0 c d) L := by
  refine CD.intro 0 rfl (by decide) rfl fun X hX hZ => ?_
  rw [f_X6_keep] at h
  show AW G X 0 0 S0 I (R0 c d) L 0 [.ref 0, .int x1] []
  refine aw_iload_n (pc := 0) hX 1 dX6_keep_0 rfl rfl ?_
  refine aw_if_lt (pc := 1) hX 9 dX6_keep_1 rfl (fun hc1 => ?_) (fun hc1 => ?_)
  · have h := ite_t h hc1
    refine aw_iconst (pc := 9) hX (-1 : Int32) dX6_keep_9 (by decide) ?_
    have e := Option.some.inj h
    subst e
    exact aw_iret hX hZ dX6_keep_10 rfl rfl rfl rfl rfl rfl rfl (Nat.le_refl _)
  · have h := ite_f h hc1
    refine aw_iload_n (pc := 4) hX 1 dX6_keep_4 rfl rfl ?_
    refine aw_iconst (pc := 5) hX (2 : Int32) dX6_keep_5 (by decide) ?_
    refine aw_icmp_lt (pc := 6) hX 11 dX6_keep_6 rfl (fun hc6 => ?_) (fun hc6 => ?_)
    · have h := ite_t h hc6
      refine aw_aload_n (pc := 11) hX 0 dX6_keep_11 rfl rfl ?_
      refine aw_getR (pc := 12) hX dX6_keep_12 f_X6_40 rfl (by rfl) (q := 61) (by rfl) ?_
      refine aw_iload_n (pc := 15) hX 1 dX6_keep_15 rfl rfl ?_
      obtain ⟨hv16, h⟩ := ite_g h
      refine aw_aaload (pc := 16) hX dX6_keep_16 (by rfl) (vinb_in hv16) (img_rf hv16) ?_
      refine aw_aload_n (pc := 17) hX 0 dX6_keep_17 rfl rfl ?_
      refine aw_getR (pc := 18) hX dX6_keep_18 f_X6_29 rfl (by rfl) (q := 15) (by rfl) ?_
      obtain ⟨r21, hq21, h⟩ := bind_s h
      refine aw_V1v (pc := 21) hX h_X3_become l_X6_261 dX6_keep_21 (nsh0 (img_N hv16)) (by decide) (by rfl) rfl rfl rfl (Nat.le_of_ble_eq_true rfl) (s_X3_become (img_N hv16) (isNb (by decide)) hq21) ?_
      refine aw_aload_n (pc := 24) hX 0 dX6_keep_24 rfl rfl ?_
      refine aw_getR (pc := 25) hX dX6_keep_25 f_X6_44 rfl (by rfl) (q := 62) (by rfl) ?_
      refine aw_iload_n (pc := 28) hX 1 dX6_keep_28 rfl rfl ?_
      refine aw_iconst (pc := 29) hX (1 : Int32) dX6_keep_29 (by decide) ?_
      obtain ⟨hv30, h⟩ := ite_g h
      refine aw_bastore (pc := 30) hX dX6_keep_30 (by rfl) (vinb_in hv30) (by decide) ?_
      obtain ⟨I30, hi30, h⟩ := bind_s h
      refine AW.iEq hi30 ?_
      refine aw_aload_n (pc := 31) hX 0 dX6_keep_31 rfl rfl ?_
      refine aw_getR (pc := 32) hX dX6_keep_32 f_X6_29 rfl (by rfl) (q := 15) (by rfl) ?_
      refine aw_getI (pc := 35) hX dX6_keep_35 f_X6_110 rfl (by rfl) ?_
      have e := Option.some.inj h
      subst e
      exact aw_iret hX hZ dX6_keep_38 rfl rfl rfl rfl rfl rfl rfl (Nat.le_refl _)
    · have h := ite_f h hc6
      refine aw_iconst (pc := 9) hX (-1 : Int32) dX6_keep_9 (by decide) ?_
      have e := Option.some.inj h
      subst e
      exact aw_iret hX hZ dX6_keep_10 rfl rfl rfl rfl rfl rfl rfl (Nat.le_refl _)
def f_X6_back (I : Hi) (x1 : Int32) : Option (Int32 × Hi) := if x1 < (0 : Int32) then (some ((-1 : Int32), I)) else (if x1 < (2 : Int32) then (if vinb x1 2 then if (I (62) (x1).toNatClampNeg) = (0 : Int32) then (some ((-2 : Int32), I)) else (if vinb x1 2 then (f_X3_become (15) (69 + 4 * (x1).toNatClampNeg) I).bind fun r33 => (some (u2 r33 (19) 1 (0 : Int32))).bind fun I41 => some ((I41 (15) 0), I41) else none) else none) else (some ((-1 : Int32), I)))
set_option maxRecDepth 100000 in
set_option maxHeartbeats 4000000 in
theorem s_X6_back {G : GP} {c d : Nat} {I : Hi} {L : Hl} {x1 : Int32} {p : Int32 × Hi} (h : f_X6_back I x1 = some p) : CD G mi_X6_back [.ref 0, .int x1] S0 I (R0 c d) L (some (.int p.1)) S0 p.2 (R0 c d) L := by
  refine CD.intro 0 rfl (by decide) rfl fun X hX hZ => ?_
  rw [f_X6_back] at h
  show AW G X 0 0 S0 I (R0 c d) L 0 [.ref 0, .int x1] []
  refine aw_iload_n (pc := 0) hX 1 dX6_back_0 rfl rfl ?_
  refine aw_if_lt (pc := 1) hX 9 dX6_back_1 rfl (fun hc1 => ?_) (fun hc1 => ?_)
  · have h := ite_t h hc1
    refine aw_iconst (pc := 9) hX (-1 : Int32) dX6_back_9 (by decide) ?_
    have e := Option.some.inj h
    subst e
    exact aw_iret hX hZ dX6_back_10 rfl rfl rfl rfl rfl rfl rfl (Nat.le_refl _)
  · have h := ite_f h hc1
    refine aw_iload_n (pc := 4) hX 1 dX6_back_4 rfl rfl ?_
    refine aw_iconst (pc := 5) hX (2 : Int32) dX6_back_5 (by decide) ?_
    refine aw_icmp_lt (pc := 6) hX 11 dX6_back_6 rfl (fun hc6 => ?_) (fun hc6 => ?_)
    · have h := ite_t h hc6
      refine aw_aload_n (pc := 11) hX 0 dX6_back_11 rfl rfl ?_
      refine aw_getR (pc := 12) hX dX6_back_12 f_X6_44 rfl (by rfl) (q := 62) (by rfl) ?_
      refine aw_iload_n (pc := 15) hX 1 dX6_back_15 rfl rfl ?_
      obtain ⟨hv16, h⟩ := ite_g h
      refine aw_baload (pc := 16) hX dX6_back_16 (by rfl) (vinb_in hv16) ?_
      refine aw_if_ne (pc := 17) hX 23 dX6_back_17 rfl (fun hc17 => ?_) (fun hc17 => ?_)
      · have h := ite_f h hc17
        refine aw_aload_n (pc := 23) hX 0 dX6_back_23 rfl rfl ?_
        refine aw_getR (pc := 24) hX dX6_back_24 f_X6_29 rfl (by rfl) (q := 15) (by rfl) ?_
        refine aw_aload_n (pc := 27) hX 0 dX6_back_27 rfl rfl ?_
        refine aw_getR (pc := 28) hX dX6_back_28 f_X6_40 rfl (by rfl) (q := 61) (by rfl) ?_
        refine aw_iload_n (pc := 31) hX 1 dX6_back_31 rfl rfl ?_
        obtain ⟨hv32, h⟩ := ite_g h
        refine aw_aaload (pc := 32) hX dX6_back_32 (by rfl) (vinb_in hv32) (img_rf hv32) ?_
        obtain ⟨r33, hq33, h⟩ := bind_s h
        refine aw_V1v (pc := 33) hX h_X3_become l_X6_261 dX6_back_33 (by rfl) (by decide) (by rfl) rfl rfl rfl (Nat.le_of_ble_eq_true rfl) (s_X3_become (isNb (by decide)) (img_N hv32) hq33) ?_
        refine aw_aload_n (pc := 36) hX 0 dX6_back_36 rfl rfl ?_
        refine aw_getR (pc := 37) hX dX6_back_37 f_X6_36 rfl (by rfl) (q := 19) (by rfl) ?_
        refine aw_iconst (pc := 40) hX (0 : Int32) dX6_back_40 (by decide) ?_
        refine aw_putI (pc := 41) hX dX6_back_41 f_X6_81 rfl rfl (by first | rfl | decide) (by first | rfl | decide) (by rfl) ?_
        obtain ⟨I41, hi41, h⟩ := bind_s h
        refine AW.iEq hi41 ?_
        refine aw_aload_n (pc := 44) hX 0 dX6_back_44 rfl rfl ?_
        refine aw_getR (pc := 45) hX dX6_back_45 f_X6_29 rfl (by rfl) (q := 15) (by rfl) ?_
        refine aw_getI (pc := 48) hX dX6_back_48 f_X6_110 rfl (by rfl) ?_
        have e := Option.some.inj h
        subst e
        exact aw_iret hX hZ dX6_back_51 rfl rfl rfl rfl rfl rfl rfl (Nat.le_refl _)
      · have h := ite_t h hc17
        refine aw_bipush (pc := 20) hX (-2 : Int32) dX6_back_20 (by decide) ?_
        have e := Option.some.inj h
        subst e
        exact aw_iret hX hZ dX6_back_22 rfl rfl rfl rfl rfl rfl rfl (Nat.le_refl _)
    · have h := ite_f h hc6
      refine aw_iconst (pc := 9) hX (-1 : Int32) dX6_back_9 (by decide) ?_
      have e := Option.some.inj h
      subst e
      exact aw_iret hX hZ dX6_back_10 rfl rfl rfl rfl rfl rfl rfl (Nat.le_refl _)
def f_X6_count (c : Nat) (d : Nat) (I : Hi) (x1 : Int32) : Option (Int32) := if x1 = (0 : Int32) then (some ((I (c) 5))) else (if x1 = (1 : Int32) then (some ((I (c) 6))) else (if x1 = (2 : Int32) then (some ((I (c) 7))) else (if x1 = (3 : Int32) then (some ((I (c) 8))) else (if x1 = (4 : Int32) then (some ((I (c) 9))) else (if x1 = (5 : Int32) then (some ((I (63) 3))) else (if x1 = (6 : Int32) then (some ((I (1) 1))) else (some ((-1 : Int32)))))))))
set_option maxRecDepth 100000 in
set_option maxHeartbeats 4000000 in
theorem s_X6_count {G : GP} {c d : Nat} (hc : isC c) (hd : isC d) {I : Hi} {L : Hl} {x1 : Int32} {p : Int32} (h : f_X6_count c d I x1 = some p) : CD G mi_X6_count [.ref 0, .int x1] S0 I (R0 c d) L (some (.int p)) S0 I (R0 c d) L := by
  refine CD.intro 0 rfl (by decide) rfl fun X hX hZ => ?_
  rw [f_X6_count] at h
  show AW G X 0 0 S0 I (R0 c d) L 0 [.ref 0, .int x1] []
  refine aw_iload_n (pc := 0) hX 1 dX6_count_0 rfl rfl ?_
  by_cases hs1_0 : x1 = (0 : Int32)
  · have h := ite_t h hs1_0
    refine aw_tcase (pc := 1) (off := 43) hX (0 : Int32) 44 dX6_count_1 hs1_0 (by decide) (by decide) (by decide) rfl ?_
    refine aw_aload_n (pc := 44) hX 0 dX6_count_44 rfl rfl ?_
    refine aw_getR (pc := 45) hX dX6_count_45 f_X6_19 rfl (by rfl) (q := c) (by rfl) ?_
    refine aw_getI (pc := 48) hX dX6_count_48 f_X6_151 rfl (csh0 hc) ?_
    have e := Option.some.inj h
    subst e
    exact aw_iret hX hZ dX6_count_51 rfl rfl rfl rfl rfl rfl rfl (Nat.le_refl _)
  have h := ite_f h hs1_0
  by_cases hs1_1 : x1 = (1 : Int32)
  · have h := ite_t h hs1_1
    refine aw_tcase (pc := 1) (off := 51) hX (1 : Int32) 52 dX6_count_1 hs1_1 (by decide) (by decide) (by decide) rfl ?_
    refine aw_aload_n (pc := 52) hX 0 dX6_count_52 rfl rfl ?_
    refine aw_getR (pc := 53) hX dX6_count_53 f_X6_19 rfl (by rfl) (q := c) (by rfl) ?_
    refine aw_getI (pc := 56) hX dX6_count_56 f_X6_264 rfl (csh0 hc) ?_
    have e := Option.some.inj h
    subst e
    exact aw_iret hX hZ dX6_count_59 rfl rfl rfl rfl rfl rfl rfl (Nat.le_refl _)
  have h := ite_f h hs1_1
  by_cases hs1_2 : x1 = (2 : Int32)
  · have h := ite_t h hs1_2
    refine aw_tcase (pc := 1) (off := 59) hX (2 : Int32) 60 dX6_count_1 hs1_2 (by decide) (by decide) (by decide) rfl ?_
    refine aw_aload_n (pc := 60) hX 0 dX6_count_60 rfl rfl ?_
    refine aw_getR (pc := 61) hX dX6_count_61 f_X6_19 rfl (by rfl) (q := c) (by rfl) ?_
    refine aw_getI (pc := 64) hX dX6_count_64 f_X6_119 rfl (csh0 hc) ?_
    have e := Option.some.inj h
    subst e
    exact aw_iret hX hZ dX6_count_67 rfl rfl rfl rfl rfl rfl rfl (Nat.le_refl _)
  have h := ite_f h hs1_2
  by_cases hs1_3 : x1 = (3 : Int32)
  · have h := ite_t h hs1_3
    refine aw_tcase (pc := 1) (off := 67) hX (3 : Int32) 68 dX6_count_1 hs1_3 (by decide) (by decide) (by decide) rfl ?_
    refine aw_aload_n (pc := 68) hX 0 dX6_count_68 rfl rfl ?_
    refine aw_getR (pc := 69) hX dX6_count_69 f_X6_19 rfl (by rfl) (q := c) (by rfl) ?_
    refine aw_getI (pc := 72) hX dX6_count_72 f_X6_267 rfl (csh0 hc) ?_
    have e := Option.some.inj h
    subst e
    exact aw_iret hX hZ dX6_count_75 rfl rfl rfl rfl rfl rfl rfl (Nat.le_refl _)
  have h := ite_f h hs1_3
  by_cases hs1_4 : x1 = (4 : Int32)
  · have h := ite_t h hs1_4
    refine aw_tcase (pc := 1) (off := 75) hX (4 : Int32) 76 dX6_count_1 hs1_4 (by decide) (by decide) (by decide) rfl ?_
    refine aw_aload_n (pc := 76) hX 0 dX6_count_76 rfl rfl ?_
    refine aw_getR (pc := 77) hX dX6_count_77 f_X6_19 rfl (by rfl) (q := c) (by rfl) ?_
    refine aw_getI (pc := 80) hX dX6_count_80 f_X6_161 rfl (csh0 hc) ?_
    have e := Option.some.inj h
    subst e
    exact aw_iret hX hZ dX6_count_83 rfl rfl rfl rfl rfl rfl rfl (Nat.le_refl _)
  have h := ite_f h hs1_4
  by_cases hs1_5 : x1 = (5 : Int32)
  · have h := ite_t h hs1_5
    refine aw_tcase (pc := 1) (off := 83) hX (5 : Int32) 84 dX6_count_1 hs1_5 (by decide) (by decide) (by decide) rfl ?_
    refine aw_aload_n (pc := 84) hX 0 dX6_count_84 rfl rfl ?_
    refine aw_getR (pc := 85) hX dX6_count_85 f_X6_51 rfl (by rfl) (q := 63) (by rfl) ?_
    refine aw_getI (pc := 88) hX dX6_count_88 f_X6_84 rfl (by rfl) ?_
    have e := Option.some.inj h
    subst e
    exact aw_iret hX hZ dX6_count_91 rfl rfl rfl rfl rfl rfl rfl (Nat.le_refl _)
  have h := ite_f h hs1_5
  by_cases hs1_6 : x1 = (6 : Int32)
  · have h := ite_t h hs1_6
    refine aw_tcase (pc := 1) (off := 91) hX (6 : Int32) 92 dX6_count_1 hs1_6 (by decide) (by decide) (by decide) rfl ?_
    refine aw_aload_n (pc := 92) hX 0 dX6_count_92 rfl rfl ?_
    refine aw_getR (pc := 93) hX dX6_count_93 f_X6_10 rfl (by rfl) (q := 1) (by rfl) ?_
    refine aw_getI (pc := 96) hX dX6_count_96 f_X6_66 rfl (by rfl) ?_
    have e := Option.some.inj h
    subst e
    exact aw_iret hX hZ dX6_count_99 rfl rfl rfl rfl rfl rfl rfl (Nat.le_refl _)
  have h := ite_f h hs1_6
  refine aw_tableOut (pc := 1) hX 100 dX6_count_1 (by have g0 := lv_neT hs1_0 (show ((0 : Int32)).toInt = 0 by decide); have g1 := lv_neT hs1_1 (show ((1 : Int32)).toInt = 1 by decide); have g2 := lv_neT hs1_2 (show ((2 : Int32)).toInt = 2 by decide); have g3 := lv_neT hs1_3 (show ((3 : Int32)).toInt = 3 by decide); have g4 := lv_neT hs1_4 (show ((4 : Int32)).toInt = 4 by decide); have g5 := lv_neT hs1_5 (show ((5 : Int32)).toInt = 5 by decide); have g6 := lv_neT hs1_6 (show ((6 : Int32)).toInt = 6 by decide); omega) rfl ?_
  refine aw_iconst (pc := 100) hX (-1 : Int32) dX6_count_100 (by decide) ?_
  have e := Option.some.inj h
  subst e
  exact aw_iret hX hZ dX6_count_101 rfl rfl rfl rfl rfl rfl rfl (Nat.le_refl _)
def f_X6_trace (L : Hl)  : Option (Int64) := some ((L (0) 9))
set_option maxRecDepth 100000 in
set_option maxHeartbeats 4000000 in
theorem s_X6_trace {G : GP} {c d : Nat} {I : Hi} {L : Hl}  {p : Int64} (h : f_X6_trace L = some p) : CD G mi_X6_trace [.ref 0] S0 I (R0 c d) L (some (.long p)) S0 I (R0 c d) L := by
  refine CD.intro 0 rfl (by decide) rfl fun X hX hZ => ?_
  rw [f_X6_trace] at h
  show AW G X 0 0 S0 I (R0 c d) L 0 [.ref 0] []
  refine aw_aload_n (pc := 0) hX 0 dX6_trace_0 rfl rfl ?_
  refine aw_getL (pc := 1) hX dX6_trace_1 f_X6_62 rfl (by rfl) ?_
  have e := Option.some.inj h
  subst e
  exact aw_lret hX hZ dX6_trace_4 rfl rfl rfl rfl rfl rfl rfl (Nat.le_refl _)
def f_X7_in  (y0 : Int64) (y2 : Int64) (y4 : Int64) : Option (Bool) := if (lg_cmp y0 y2) < (0 : Int32) then (some (false)) else (if (0 : Int32) < (lg_cmp y0 y4) then (some (false)) else (some (true)))
set_option maxRecDepth 100000 in
set_option maxHeartbeats 4000000 in
theorem s_X7_in {G : GP} {c d : Nat} {I : Hi} {L : Hl} {y0 : Int64} {y2 : Int64} {y4 : Int64} {p : Bool} (h : f_X7_in y0 y2 y4 = some p) : CD G mi_X7_in [.long y0, .long y2, .long y4] S0 I (R0 c d) L (some (.int (bI p))) S0 I (R0 c d) L := by
  refine CD.intro 0 rfl (by decide) rfl fun X hX hZ => ?_
  rw [f_X7_in] at h
  show AW G X 0 0 S0 I (R0 c d) L 0 [.long y0, .null, .long y2, .null, .long y4, .null] []
  refine aw_lload_n (pc := 0) hX 0 dX7_in_0 rfl rfl ?_
  refine aw_lload_n (pc := 1) hX 2 dX7_in_1 rfl rfl ?_
  refine aw_lcmp (pc := 2) hX dX7_in_2 ?_
  refine aw_if_lt (pc := 3) hX 17 dX7_in_3 rfl (fun hc3 => ?_) (fun hc3 => ?_)
  · have h := ite_t h hc3
    refine aw_iconst (pc := 17) hX (0 : Int32) dX7_in_17 (by decide) ?_
    have e := Option.some.inj h
    subst e
    exact aw_zret hX hZ dX7_in_18 rfl (bI01 _) rfl rfl rfl rfl rfl rfl (Nat.le_refl _)
  · have h := ite_f h hc3
    refine aw_lload_n (pc := 6) hX 0 dX7_in_6 rfl rfl ?_
    refine aw_lload (pc := 7) hX dX7_in_7 rfl ?_
    refine aw_lcmp (pc := 9) hX dX7_in_9 ?_
    refine aw_if_gt (pc := 10) hX 17 dX7_in_10 rfl (fun hc10 => ?_) (fun hc10 => ?_)
    · have h := ite_t h hc10
      refine aw_iconst (pc := 17) hX (0 : Int32) dX7_in_17 (by decide) ?_
      have e := Option.some.inj h
      subst e
      exact aw_zret hX hZ dX7_in_18 rfl (bI01 _) rfl rfl rfl rfl rfl rfl (Nat.le_refl _)
    · have h := ite_f h hc10
      refine aw_iconst (pc := 13) hX (1 : Int32) dX7_in_13 (by decide) ?_
      refine aw_goto (pc := 14) hX 18 dX7_in_14 rfl ?_
      have e := Option.some.inj h
      subst e
      exact aw_zret hX hZ dX7_in_18 rfl (bI01 _) rfl rfl rfl rfl rfl rfl (Nat.le_refl _)
def f_X7_has  (x0 : Int32) (x1 : Int32) : Option (Bool) := if ((x0 >>> (x1 &&& 31)) &&& (1 : Int32)) = (1 : Int32) then (some (true)) else (some (false))
set_option maxRecDepth 100000 in
set_option maxHeartbeats 4000000 in
theorem s_X7_has {G : GP} {c d : Nat} {I : Hi} {L : Hl} {x0 : Int32} {x1 : Int32} {p : Bool} (h : f_X7_has x0 x1 = some p) : CD G mi_X7_has [.int x0, .int x1] S0 I (R0 c d) L (some (.int (bI p))) S0 I (R0 c d) L := by
  refine CD.intro 0 rfl (by decide) rfl fun X hX hZ => ?_
  rw [f_X7_has] at h
  show AW G X 0 0 S0 I (R0 c d) L 0 [.int x0, .int x1] []
  refine aw_iload_n (pc := 0) hX 0 dX7_has_0 rfl rfl ?_
  refine aw_iload_n (pc := 1) hX 1 dX7_has_1 rfl rfl ?_
  refine aw_ishr (pc := 2) hX dX7_has_2 ?_
  refine aw_iconst (pc := 3) hX (1 : Int32) dX7_has_3 (by decide) ?_
  refine aw_iand (pc := 4) hX dX7_has_4 ?_
  refine aw_iconst (pc := 5) hX (1 : Int32) dX7_has_5 (by decide) ?_
  refine aw_icmp_ne (pc := 6) hX 13 dX7_has_6 rfl (fun hc6 => ?_) (fun hc6 => ?_)
  · have h := ite_f h hc6
    refine aw_iconst (pc := 13) hX (0 : Int32) dX7_has_13 (by decide) ?_
    have e := Option.some.inj h
    subst e
    exact aw_zret hX hZ dX7_has_14 rfl (bI01 _) rfl rfl rfl rfl rfl rfl (Nat.le_refl _)
  · have h := ite_t h hc6
    refine aw_iconst (pc := 9) hX (1 : Int32) dX7_has_9 (by decide) ?_
    refine aw_goto (pc := 10) hX 14 dX7_has_10 rfl ?_
    have e := Option.some.inj h
    subst e
    exact aw_zret hX hZ dX7_has_14 rfl (bI01 _) rfl rfl rfl rfl rfl rfl (Nat.le_refl _)
def b_X7_bits_4   : Nat → Int32 → Int32 → Option (Int32)
  | 0, _, _ => none
  | n + 1, x1, x2 => if x2 = (0 : Int32) then (some (x1)) else (b_X7_bits_4 n (x1 + 1) (x2 &&& (x2 - (1 : Int32))))
set_option maxRecDepth 100000 in
set_option maxHeartbeats 4000000 in
theorem t_X7_bits_4 {G : GP} {X : CX} (hX : XOK G X mi_X7_bits) {c d : Nat} {I : Hi} {L : Hl} {p : Int32} (hZ : XZ G X mi_X7_bits (some (.int p)) S0 I (R0 c d) L) : ∀ (n : Nat) (x1 : Int32) (x2 : Int32), b_X7_bits_4 n x1 x2 = some p → AW G X 0 0 S0 I (R0 c d) L 4 [.null, .int x1, .int x2] [] := by
  intro n
  induction n with
  | zero => intro x1 x2 h; cases h
  | succ n ih =>
    intro x1 x2 h
    rw [b_X7_bits_4] at h
    refine aw_iload_n (pc := 4) hX 2 dX7_bits_4 rfl rfl ?_
    refine aw_if_eq (pc := 5) hX 20 dX7_bits_5 rfl (fun hc5 => ?_) (fun hc5 => ?_)
    · have h := ite_t h hc5
      refine aw_iload_n (pc := 20) hX 1 dX7_bits_20 rfl rfl ?_
      have e := Option.some.inj h
      subst e
      exact aw_iret hX hZ dX7_bits_21 rfl rfl rfl rfl rfl rfl rfl (Nat.le_refl _)
    · have h := ite_f h hc5
      refine aw_iincE (pc := 8) hX (x1 + 1) [.null, .int (x1 + 1), .int x2] dX7_bits_8 rfl rfl (by decide) rfl rfl ?_
      refine aw_iload_n (pc := 11) hX 2 dX7_bits_11 rfl rfl ?_
      refine aw_iload_n (pc := 12) hX 2 dX7_bits_12 rfl rfl ?_
      refine aw_iconst (pc := 13) hX (1 : Int32) dX7_bits_13 (by decide) ?_
      refine aw_isub (pc := 14) hX dX7_bits_14 ?_
      refine aw_iand (pc := 15) hX dX7_bits_15 ?_
      refine aw_istore_nE (pc := 16) hX 2 [.null, .int (x1 + 1), .int (x2 &&& (x2 - (1 : Int32)))] dX7_bits_16 rfl (by decide) rfl rfl ?_
      refine aw_goto (pc := 17) hX 4 dX7_bits_17 rfl ?_
      exact AW.lo (ih (x1 + 1) (x2 &&& (x2 - (1 : Int32)))  h) (And.intro (Or.inl rfl) (And.intro (Or.inr rfl) (And.intro (Or.inr rfl) trivial)))
def f_X7_bits  (x0 : Int32) : Option (Int32) := b_X7_bits_4 2000 (0 : Int32) x0
set_option maxRecDepth 100000 in
set_option maxHeartbeats 4000000 in
theorem s_X7_bits {G : GP} {c d : Nat} {I : Hi} {L : Hl} {x0 : Int32} {p : Int32} (h : f_X7_bits x0 = some p) : CD G mi_X7_bits [.int x0] S0 I (R0 c d) L (some (.int p)) S0 I (R0 c d) L := by
  refine CD.intro 2 rfl (by decide) rfl fun X hX hZ => ?_
  rw [f_X7_bits] at h
  show AW G X 0 0 S0 I (R0 c d) L 0 [.int x0, .null, .null] []
  refine aw_iconst (pc := 0) hX (0 : Int32) dX7_bits_0 (by decide) ?_
  refine aw_istore_nE (pc := 1) hX 1 [.int x0, .int (0 : Int32), .null] dX7_bits_1 rfl (by decide) rfl rfl ?_
  refine aw_iload_n (pc := 2) hX 0 dX7_bits_2 rfl rfl ?_
  refine aw_istore_nE (pc := 3) hX 2 [.int x0, .int (0 : Int32), .int x0] dX7_bits_3 rfl (by decide) rfl rfl ?_
  exact AW.lo (t_X7_bits_4 hX hZ 2000 (0 : Int32) x0 h) (And.intro (Or.inl rfl) (And.intro (Or.inr rfl) (And.intro (Or.inr rfl) trivial)))
def b_X7_lowest_2   : Nat → Int32 → Int32 → Option (Int32)
  | 0, _, _ => none
  | n + 1, x0, x1 => (f_X7_has x0 x1).bind fun r4 => if r4 = true then (some (x1)) else (b_X7_lowest_2 n x0 (x1 + 1))
set_option maxRecDepth 100000 in
set_option maxHeartbeats 4000000 in
theorem t_X7_lowest_2 {G : GP} {X : CX} (hX : XOK G X mi_X7_lowest) {c d : Nat} {I : Hi} {L : Hl} {p : Int32} (hZ : XZ G X mi_X7_lowest (some (.int p)) S0 I (R0 c d) L) : ∀ (n : Nat) (x0 : Int32) (x1 : Int32), b_X7_lowest_2 n x0 x1 = some p → AW G X 0 0 S0 I (R0 c d) L 2 [.int x0, .int x1] [] := by
  intro n
  induction n with
  | zero => intro x0 x1 h; cases h
  | succ n ih =>
    intro x0 x1 h
    rw [b_X7_lowest_2] at h
    refine aw_iload_n (pc := 2) hX 0 dX7_lowest_2 rfl rfl ?_
    refine aw_iload_n (pc := 3) hX 1 dX7_lowest_3 rfl rfl ?_
    obtain ⟨r4, hq4, h⟩ := bind_s h
    refine aw_S2i (pc := 4) hX h_X7_has l_X7_69 dX7_lowest_4 rfl rfl rfl (Nat.le_of_ble_eq_true rfl) (s_X7_has  hq4) ?_
    refine aw_if_ne (pc := 7) hX 16 dX7_lowest_7 rfl (fun hc7 => ?_) (fun hc7 => ?_)
    · have h := ite_t h (bI1 hc7)
      refine aw_iload_n (pc := 16) hX 1 dX7_lowest_16 rfl rfl ?_
      have e := Option.some.inj h
      subst e
      exact aw_iret hX hZ dX7_lowest_17 rfl rfl rfl rfl rfl rfl rfl (Nat.le_refl _)
    · have h := ite_f h (bI0 hc7)
      refine aw_iincE (pc := 10) hX (x1 + 1) [.int x0, .int (x1 + 1)] dX7_lowest_10 rfl rfl (by decide) rfl rfl ?_
      refine aw_goto (pc := 13) hX 2 dX7_lowest_13 rfl ?_
      exact AW.lo (ih x0 (x1 + 1)  h) (And.intro (Or.inr rfl) (And.intro (Or.inr rfl) trivial))
def f_X7_lowest  (x0 : Int32) : Option (Int32) := b_X7_lowest_2 2000 x0 (0 : Int32)
set_option maxRecDepth 100000 in
set_option maxHeartbeats 4000000 in
theorem s_X7_lowest {G : GP} {c d : Nat} {I : Hi} {L : Hl} {x0 : Int32} {p : Int32} (h : f_X7_lowest x0 = some p) : CD G mi_X7_lowest [.int x0] S0 I (R0 c d) L (some (.int p)) S0 I (R0 c d) L := by
  refine CD.intro 1 rfl (by decide) rfl fun X hX hZ => ?_
  rw [f_X7_lowest] at h
  show AW G X 0 0 S0 I (R0 c d) L 0 [.int x0, .null] []
  refine aw_iconst (pc := 0) hX (0 : Int32) dX7_lowest_0 (by decide) ?_
  refine aw_istore_nE (pc := 1) hX 1 [.int x0, .int (0 : Int32)] dX7_lowest_1 rfl (by decide) rfl rfl ?_
  exact AW.lo (t_X7_lowest_2 hX hZ 2000 x0 (0 : Int32) h) (And.intro (Or.inr rfl) (And.intro (Or.inr rfl) trivial))
def b_X7_copies_3 (a0 : Nat) (na0 : Nat) (a2 : Nat) (na2 : Nat)  : Nat → Hi → Int32 → Int32 → Int32 → Int32 → Option (Hi)
  | 0, _, _, _, _, _ => none
  | n + 1, I, x1, x3, x4, x5 => if x4 ≤ x5 then (some (I)) else (if vinb (x1 + x5) na0 then if vinb (x3 + x5) na2 then (some (u2 I (a2) ((x3 + x5)).toNatClampNeg (I (a0) ((x1 + x5)).toNatClampNeg))).bind fun I21 => b_X7_copies_3 a0 na0 a2 na2 n I21 x1 x3 x4 (x5 + 1) else none else none)
set_option maxRecDepth 100000 in
set_option maxHeartbeats 4000000 in
theorem t_X7_copies_3 {G : GP} {X : CX} (hX : XOK G X mi_X7_copies) {a0 : Nat} {na0 : Nat} (ha0 : S0[a0]? = some (8, na0)) {a2 : Nat} {na2 : Nat} (ha2 : S0[a2]? = some (8, na2)) {c d : Nat} {L : Hl} {p : Hi} (hZ : XZ G X mi_X7_copies none S0 p (R0 c d) L) : ∀ (n : Nat) (I : Hi) (x1 : Int32) (x3 : Int32) (x4 : Int32) (x5 : Int32), b_X7_copies_3 a0 na0 a2 na2 n I x1 x3 x4 x5 = some p → AW G X 0 0 S0 I (R0 c d) L 3 [.ref a0, .int x1, .ref a2, .int x3, .int x4, .int x5] [] := by
  intro n
  induction n with
  | zero => intro I x1 x3 x4 x5 h; cases h
  | succ n ih =>
    intro I x1 x3 x4 x5 h
    rw [b_X7_copies_3] at h
    refine aw_iload (pc := 3) hX dX7_copies_3 rfl ?_
    refine aw_iload (pc := 5) hX dX7_copies_5 rfl ?_
    refine aw_icmp_ge (pc := 7) hX 28 dX7_copies_7 rfl (fun hc7 => ?_) (fun hc7 => ?_)
    · have h := ite_t h hc7
      have e := Option.some.inj h
      subst e
      exact aw_vret hX hZ dX7_copies_28 rfl rfl rfl rfl rfl rfl (Nat.le_refl _)
    · have h := ite_f h hc7
      refine aw_aload_n (pc := 10) hX 2 dX7_copies_10 rfl rfl ?_
      refine aw_iload_n (pc := 11) hX 3 dX7_copies_11 rfl rfl ?_
      refine aw_iload (pc := 12) hX dX7_copies_12 rfl ?_
      refine aw_iadd (pc := 14) hX dX7_copies_14 ?_
      refine aw_aload_n (pc := 15) hX 0 dX7_copies_15 rfl rfl ?_
      refine aw_iload_n (pc := 16) hX 1 dX7_copies_16 rfl rfl ?_
      refine aw_iload (pc := 17) hX dX7_copies_17 rfl ?_
      refine aw_iadd (pc := 19) hX dX7_copies_19 ?_
      obtain ⟨hv20, h⟩ := ite_g h
      refine aw_iaload (pc := 20) hX dX7_copies_20 ha0 (vinb_in hv20) ?_
      obtain ⟨hv21, h⟩ := ite_g h
      refine aw_iastore (pc := 21) hX dX7_copies_21 ha2 (vinb_in hv21) ?_
      obtain ⟨I21, hi21, h⟩ := bind_s h
      refine AW.iEq hi21 ?_
      refine aw_iincE (pc := 22) hX (x5 + 1) [.ref a0, .int x1, .ref a2, .int x3, .int x4, .int (x5 + 1)] dX7_copies_22 rfl rfl (by decide) rfl rfl ?_
      refine aw_goto (pc := 25) hX 3 dX7_copies_25 rfl ?_
      exact AW.lo (ih I21 x1 x3 x4 (x5 + 1)  h) (And.intro (Or.inr rfl) (And.intro (Or.inr rfl) (And.intro (Or.inr rfl) (And.intro (Or.inr rfl) (And.intro (Or.inr rfl) (And.intro (Or.inr rfl) trivial))))))
def f_X7_copies (a0 : Nat) (na0 : Nat) (a2 : Nat) (na2 : Nat) (I : Hi) (x1 : Int32) (x3 : Int32) (x4 : Int32) : Option (Hi) := b_X7_copies_3 a0 na0 a2 na2 2000 I x1 x3 x4 (0 : Int32)
set_option maxRecDepth 100000 in
set_option maxHeartbeats 4000000 in
theorem s_X7_copies {G : GP} {a0 : Nat} {na0 : Nat} (ha0 : S0[a0]? = some (8, na0)) {a2 : Nat} {na2 : Nat} (ha2 : S0[a2]? = some (8, na2)) {c d : Nat} {I : Hi} {L : Hl} {x1 : Int32} {x3 : Int32} {x4 : Int32} {p : Hi} (h : f_X7_copies a0 na0 a2 na2 I x1 x3 x4 = some p) : CD G mi_X7_copies [.ref a0, .int x1, .ref a2, .int x3, .int x4] S0 I (R0 c d) L none S0 p (R0 c d) L := by
  refine CD.intro 1 rfl (by decide) rfl fun X hX hZ => ?_
  rw [f_X7_copies] at h
  show AW G X 0 0 S0 I (R0 c d) L 0 [.ref a0, .int x1, .ref a2, .int x3, .int x4, .null] []
  refine aw_iconst (pc := 0) hX (0 : Int32) dX7_copies_0 (by decide) ?_
  refine aw_istoreE (pc := 1) hX [.ref a0, .int x1, .ref a2, .int x3, .int x4, .int (0 : Int32)] dX7_copies_1 (by decide) rfl rfl ?_
  exact AW.lo (t_X7_copies_3 hX ha0 ha2 hZ 2000 I x1 x3 x4 (0 : Int32) h) (And.intro (Or.inr rfl) (And.intro (Or.inr rfl) (And.intro (Or.inr rfl) (And.intro (Or.inr rfl) (And.intro (Or.inr rfl) (And.intro (Or.inr rfl) trivial))))))
