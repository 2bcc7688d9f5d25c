def f_X5_isDigit (I : Hi) (x1 : Int32) : Option (Bool) := if vinb x1 160 then if (I (2) (x1).toNatClampNeg) < (48 : Int32) then (some (false)) else (if vinb x1 160 then if (57 : Int32) < (I (2) (x1).toNatClampNeg) then (some (false)) else (some (true)) else none) else none
set_option maxRecDepth 100000 in
set_option maxHeartbeats 4000000 in
theorem s_X5_isDigit {G : GP} {c d : Nat} {I : Hi} {L : Hl} {x1 : Int32} {p : Bool} (h : f_X5_isDigit I x1 = some p) : CD G mi_X5_isDigit [.ref 1, .int x1] S0 I (R0 c d) L (some (.int (bI p))) S0 I (R0 c d) L := by
  refine CD.intro 0 rfl (by decide) rfl fun X hX hZ => ?_
  rw [f_X5_isDigit] at h
  show AW G X 0 0 S0 I (R0 c d) L 0 [.ref 1, .int x1] []
  refine aw_aload_n (pc := 0) hX 0 dX5_isDigit_0 rfl rfl ?_
  refine aw_getR (pc := 1) hX dX5_isDigit_1 f_X5_9 rfl (by rfl) (q := 2) (by rfl) ?_
  refine aw_iload_n (pc := 4) hX 1 dX5_isDigit_4 rfl rfl ?_
  obtain ⟨hv5, h⟩ := ite_g h
  refine aw_iaload (pc := 5) hX dX5_isDigit_5 (by rfl) (vinb_in hv5) ?_
  refine aw_bipush (pc := 6) hX (48 : Int32) dX5_isDigit_6 (by decide) ?_
  refine aw_icmp_lt (pc := 8) hX 26 dX5_isDigit_8 rfl (fun hc8 => ?_) (fun hc8 => ?_)
  · have h := ite_t h hc8
    refine aw_iconst (pc := 26) hX (0 : Int32) dX5_isDigit_26 (by decide) ?_
    have e := Option.some.inj h
    subst e
    exact aw_zret hX hZ dX5_isDigit_27 rfl (bI01 _) rfl rfl rfl rfl rfl rfl (Nat.le_refl _)
  · have h := ite_f h hc8
    refine aw_aload_n (pc := 11) hX 0 dX5_isDigit_11 rfl rfl ?_
    refine aw_getR (pc := 12) hX dX5_isDigit_12 f_X5_9 rfl (by rfl) (q := 2) (by rfl) ?_
    refine aw_iload_n (pc := 15) hX 1 dX5_isDigit_15 rfl rfl ?_
    obtain ⟨hv16, h⟩ := ite_g h
    refine aw_iaload (pc := 16) hX dX5_isDigit_16 (by rfl) (vinb_in hv16) ?_
    refine aw_bipush (pc := 17) hX (57 : Int32) dX5_isDigit_17 (by decide) ?_
    refine aw_icmp_gt (pc := 19) hX 26 dX5_isDigit_19 rfl (fun hc19 => ?_) (fun hc19 => ?_)
    · have h := ite_t h hc19
      refine aw_iconst (pc := 26) hX (0 : Int32) dX5_isDigit_26 (by decide) ?_
      have e := Option.some.inj h
      subst e
      exact aw_zret hX hZ dX5_isDigit_27 rfl (bI01 _) rfl rfl rfl rfl rfl rfl (Nat.le_refl _)
    · have h := ite_f h hc19
      refine aw_iconst (pc := 22) hX (1 : Int32) dX5_isDigit_22 (by decide) ?_
      refine aw_goto (pc := 23) hX 27 dX5_isDigit_23 rfl ?_
      have e := Option.some.inj h
      subst e
      exact aw_zret hX hZ dX5_isDigit_27 rfl (bI01 _) rfl rfl rfl rfl rfl rfl (Nat.le_refl _)
def b_X5_takeNumber_91   (I : Hi) (xs0 : Int32) : Option (Hi) := (some (u2 I (1) 2 xs0)).bind fun I91 => some (I91)
set_option maxRecDepth 100000 in
set_option maxHeartbeats 4000000 in
theorem t_X5_takeNumber_91 {G : GP} {X : CX} (hX : XOK G X mi_X5_takeNumber) {c d : Nat} {L : Hl} {p : Hi} (hZ : XZ G X mi_X5_takeNumber none S0 p (R0 c d) L) (I : Hi) (xs0 : Int32) (h : b_X5_takeNumber_91 I xs0 = some p) : AW G X 0 0 S0 I (R0 c d) L 91 [.null, .null] [.int xs0, .ref 1] := by
  rw [b_X5_takeNumber_91] at h
  refine aw_putI (pc := 91) hX dX5_takeNumber_91 f_X5_19 rfl rfl (by first | rfl | decide) (by first | rfl | decide) (by rfl) ?_
  obtain ⟨I91, hi91, h⟩ := bind_s h
  refine AW.iEq hi91 ?_
  have e := Option.some.inj h
  subst e
  exact aw_vret hX hZ dX5_takeNumber_94 rfl rfl rfl rfl rfl rfl (Nat.le_refl _)
def b_X5_takeNumber_86   (I : Hi) : Option (Hi) := b_X5_takeNumber_91 I (4 : Int32)
set_option maxRecDepth 100000 in
set_option maxHeartbeats 4000000 in
theorem t_X5_takeNumber_86 {G : GP} {X : CX} (hX : XOK G X mi_X5_takeNumber) {c d : Nat} {L : Hl} {p : Hi} (hZ : XZ G X mi_X5_takeNumber none S0 p (R0 c d) L) (I : Hi) (h : b_X5_takeNumber_86 I = some p) : AW G X 0 0 S0 I (R0 c d) L 86 [.null, .null] [.ref 1] := by
  rw [b_X5_takeNumber_86] at h
  refine aw_iconst (pc := 86) hX (4 : Int32) dX5_takeNumber_86 (by decide) ?_
  refine aw_goto (pc := 87) hX 91 dX5_takeNumber_87 rfl ?_
  exact AW.lo (t_X5_takeNumber_91 hX hZ I (4 : Int32) h) (And.intro (Or.inl rfl) (And.intro (Or.inl rfl) trivial))
def b_X5_takeNumber_67   (I : Hi) (bs0 : Bool) : Option (Hi) := if bs0 = true then (b_X5_takeNumber_86 I) else (if ((I (1) 4) - (I (1) 3)) ≤ (2 : Int32) then (b_X5_takeNumber_91 I (2 : Int32)) else (b_X5_takeNumber_86 I))
set_option maxRecDepth 100000 in
set_option maxHeartbeats 4000000 in
theorem t_X5_takeNumber_67 {G : GP} {X : CX} (hX : XOK G X mi_X5_takeNumber) {c d : Nat} {L : Hl} {p : Hi} (hZ : XZ G X mi_X5_takeNumber none S0 p (R0 c d) L) (I : Hi) (bs0 : Bool) (h : b_X5_takeNumber_67 I bs0 = some p) : AW G X 0 0 S0 I (R0 c d) L 67 [.ref 1, .null] [.int (bI bs0)] := by
  rw [b_X5_takeNumber_67] at h
  refine aw_istore_nE (pc := 67) hX 1 [.ref 1, .int (bI bs0)] dX5_takeNumber_67 rfl (by decide) rfl rfl ?_
  refine aw_aload_n (pc := 68) hX 0 dX5_takeNumber_68 rfl rfl ?_
  refine aw_iload_n (pc := 69) hX 1 dX5_takeNumber_69 rfl rfl ?_
  refine aw_if_ne (pc := 70) hX 86 dX5_takeNumber_70 rfl (fun hc70 => ?_) (fun hc70 => ?_)
  · have h := ite_t h (bI1 hc70)
    exact AW.lo (t_X5_takeNumber_86 hX hZ I h) (And.intro (Or.inl rfl) (And.intro (Or.inl rfl) trivial))
  · have h := ite_f h (bI0 hc70)
    refine aw_aload_n (pc := 73) hX 0 dX5_takeNumber_73 rfl rfl ?_
    refine aw_getI (pc := 74) hX dX5_takeNumber_74 f_X5_25 rfl (by rfl) ?_
    refine aw_aload_n (pc := 77) hX 0 dX5_takeNumber_77 rfl rfl ?_
    refine aw_getI (pc := 78) hX dX5_takeNumber_78 f_X5_22 rfl (by rfl) ?_
    refine aw_isub (pc := 81) hX dX5_takeNumber_81 ?_
    refine aw_iconst (pc := 82) hX (2 : Int32) dX5_takeNumber_82 (by decide) ?_
    refine aw_icmp_le (pc := 83) hX 90 dX5_takeNumber_83 rfl (fun hc83 => ?_) (fun hc83 => ?_)
    · have h := ite_t h hc83
      refine aw_iconst (pc := 90) hX (2 : Int32) dX5_takeNumber_90 (by decide) ?_
      exact AW.lo (t_X5_takeNumber_91 hX hZ I (2 : Int32) h) (And.intro (Or.inl rfl) (And.intro (Or.inl rfl) trivial))
    · have h := ite_f h hc83
      exact AW.lo (t_X5_takeNumber_86 hX hZ I h) (And.intro (Or.inl rfl) (And.intro (Or.inl rfl) trivial))
def b_X5_takeNumber_66   (I : Hi) : Option (Hi) := b_X5_takeNumber_67 I false
set_option maxRecDepth 100000 in
set_option maxHeartbeats 4000000 in
theorem t_X5_takeNumber_66 {G : GP} {X : CX} (hX : XOK G X mi_X5_takeNumber) {c d : Nat} {L : Hl} {p : Hi} (hZ : XZ G X mi_X5_takeNumber none S0 p (R0 c d) L) (I : Hi) (h : b_X5_takeNumber_66 I = some p) : AW G X 0 0 S0 I (R0 c d) L 66 [.ref 1, .null] [] := by
  rw [b_X5_takeNumber_66] at h
  refine aw_iconst (pc := 66) hX (0 : Int32) dX5_takeNumber_66 (by decide) ?_
  exact AW.lo (t_X5_takeNumber_67 hX hZ I false h) (And.intro (Or.inr rfl) (And.intro (Or.inl rfl) trivial))
def b_X5_takeNumber_35   (I : Hi) : Option (Hi) := if vinb (I (1) 3) 160 then if (I (2) ((I (1) 3)).toNatClampNeg) = (48 : Int32) then (if ((I (1) 4) - (I (1) 3)) ≤ (1 : Int32) then (b_X5_takeNumber_66 I) else (b_X5_takeNumber_67 I true)) else (b_X5_takeNumber_66 I) else none
set_option maxRecDepth 100000 in
set_option maxHeartbeats 4000000 in
theorem t_X5_takeNumber_35 {G : GP} {X : CX} (hX : XOK G X mi_X5_takeNumber) {c d : Nat} {L : Hl} {p : Hi} (hZ : XZ G X mi_X5_takeNumber none S0 p (R0 c d) L) (I : Hi) (h : b_X5_takeNumber_35 I = some p) : AW G X 0 0 S0 I (R0 c d) L 35 [.ref 1, .null] [] := by
  rw [b_X5_takeNumber_35] at h
  refine aw_aload_n (pc := 35) hX 0 dX5_takeNumber_35 rfl rfl ?_
  refine aw_getR (pc := 36) hX dX5_takeNumber_36 f_X5_9 rfl (by rfl) (q := 2) (by rfl) ?_
  refine aw_aload_n (pc := 39) hX 0 dX5_takeNumber_39 rfl rfl ?_
  refine aw_getI (pc := 40) hX dX5_takeNumber_40 f_X5_22 rfl (by rfl) ?_
  obtain ⟨hv43, h⟩ := ite_g h
  refine aw_iaload (pc := 43) hX dX5_takeNumber_43 (by rfl) (vinb_in hv43) ?_
  refine aw_bipush (pc := 44) hX (48 : Int32) dX5_takeNumber_44 (by decide) ?_
  refine aw_icmp_ne (pc := 46) hX 66 dX5_takeNumber_46 rfl (fun hc46 => ?_) (fun hc46 => ?_)
  · have h := ite_f h hc46
    exact AW.lo (t_X5_takeNumber_66 hX hZ I h) (And.intro (Or.inr rfl) (And.intro (Or.inl rfl) trivial))
  · have h := ite_t h hc46
    refine aw_aload_n (pc := 49) hX 0 dX5_takeNumber_49 rfl rfl ?_
    refine aw_getI (pc := 50) hX dX5_takeNumber_50 f_X5_25 rfl (by rfl) ?_
    refine aw_aload_n (pc := 53) hX 0 dX5_takeNumber_53 rfl rfl ?_
    refine aw_getI (pc := 54) hX dX5_takeNumber_54 f_X5_22 rfl (by rfl) ?_
    refine aw_isub (pc := 57) hX dX5_takeNumber_57 ?_
    refine aw_iconst (pc := 58) hX (1 : Int32) dX5_takeNumber_58 (by decide) ?_
    refine aw_icmp_le (pc := 59) hX 66 dX5_takeNumber_59 rfl (fun hc59 => ?_) (fun hc59 => ?_)
    · have h := ite_t h hc59
      exact AW.lo (t_X5_takeNumber_66 hX hZ I h) (And.intro (Or.inr rfl) (And.intro (Or.inl rfl) trivial))
    · have h := ite_f h hc59
      refine aw_iconst (pc := 62) hX (1 : Int32) dX5_takeNumber_62 (by decide) ?_
      refine aw_goto (pc := 63) hX 67 dX5_takeNumber_63 rfl ?_
      exact AW.lo (t_X5_takeNumber_67 hX hZ I true h) (And.intro (Or.inr rfl) (And.intro (Or.inl rfl) trivial))
def b_X5_takeNumber_0   : Nat → Hi → Option (Hi)
  | 0, _ => none
  | n + 1, I => if (I (1) 1) ≤ (I (1) 4) then (b_X5_takeNumber_35 I) else ((f_X5_isDigit I (I (1) 4)).bind fun r16 => if r16 = true then ((some (u2 I (1) 4 ((I (1) 4) + (1 : Int32)))).bind fun I29 => b_X5_takeNumber_0 n I29) else (b_X5_takeNumber_35 I))
set_option maxRecDepth 100000 in
set_option maxHeartbeats 4000000 in
theorem t_X5_takeNumber_0 {G : GP} {X : CX} (hX : XOK G X mi_X5_takeNumber) {c d : Nat} {L : Hl} {p : Hi} (hZ : XZ G X mi_X5_takeNumber none S0 p (R0 c d) L) : ∀ (n : Nat) (I : Hi), b_X5_takeNumber_0 n I = some p → AW G X 0 0 S0 I (R0 c d) L 0 [.ref 1, .null] [] := by
  intro n
  induction n with
  | zero => intro I h; cases h
  | succ n ih =>
    intro I h
    rw [b_X5_takeNumber_0] at h
    refine aw_aload_n (pc := 0) hX 0 dX5_takeNumber_0 rfl rfl ?_
    refine aw_getI (pc := 1) hX dX5_takeNumber_1 f_X5_25 rfl (by rfl) ?_
    refine aw_aload_n (pc := 4) hX 0 dX5_takeNumber_4 rfl rfl ?_
    refine aw_getI (pc := 5) hX dX5_takeNumber_5 f_X5_15 rfl (by rfl) ?_
    refine aw_icmp_ge (pc := 8) hX 35 dX5_takeNumber_8 rfl (fun hc8 => ?_) (fun hc8 => ?_)
    · have h := ite_t h hc8
      exact AW.lo (t_X5_takeNumber_35 hX hZ I h) (And.intro (Or.inr rfl) (And.intro (Or.inl rfl) trivial))
    · have h := ite_f h hc8
      refine aw_aload_n (pc := 11) hX 0 dX5_takeNumber_11 rfl rfl ?_
      refine aw_aload_n (pc := 12) hX 0 dX5_takeNumber_12 rfl rfl ?_
      refine aw_getI (pc := 13) hX dX5_takeNumber_13 f_X5_25 rfl (by rfl) ?_
      obtain ⟨r16, hq16, h⟩ := bind_s h
      refine aw_V1i (pc := 16) hX h_X5_isDigit l_X5_117 dX5_takeNumber_16 (by rfl) (by decide) (by rfl) rfl rfl rfl (Nat.le_of_ble_eq_true rfl) (s_X5_isDigit  hq16) ?_
      refine aw_if_eq (pc := 19) hX 35 dX5_takeNumber_19 rfl (fun hc19 => ?_) (fun hc19 => ?_)
      · have h := ite_f h (bI0 hc19)
        exact AW.lo (t_X5_takeNumber_35 hX hZ I h) (And.intro (Or.inr rfl) (And.intro (Or.inl rfl) trivial))
      · have h := ite_t h (bI1 hc19)
        refine aw_aload_n (pc := 22) hX 0 dX5_takeNumber_22 rfl rfl ?_
        refine aw_dup (pc := 23) hX dX5_takeNumber_23 rfl ?_
        refine aw_getI (pc := 24) hX dX5_takeNumber_24 f_X5_25 rfl (by rfl) ?_
        refine aw_iconst (pc := 27) hX (1 : Int32) dX5_takeNumber_27 (by decide) ?_
        refine aw_iadd (pc := 28) hX dX5_takeNumber_28 ?_
        refine aw_putI (pc := 29) hX dX5_takeNumber_29 f_X5_25 rfl rfl (by first | rfl | decide) (by first | rfl | decide) (by rfl) ?_
        obtain ⟨I29, hi29, h⟩ := bind_s h
        refine AW.iEq hi29 ?_
        refine aw_goto (pc := 32) hX 0 dX5_takeNumber_32 rfl ?_
        exact AW.lo (ih I29  h) (And.intro (Or.inr rfl) (And.intro (Or.inl rfl) trivial))
def f_X5_takeNumber (I : Hi)  : Option (Hi) := if (I (1) 1) ≤ (I (1) 4) then (b_X5_takeNumber_35 I) else ((f_X5_isDigit I (I (1) 4)).bind fun r16 => if r16 = true then ((some (u2 I (1) 4 ((I (1) 4) + (1 : Int32)))).bind fun I29 => b_X5_takeNumber_0 2000 I29) else (b_X5_takeNumber_35 I))
set_option maxRecDepth 100000 in
set_option maxHeartbeats 4000000 in
theorem s_X5_takeNumber {G : GP} {c d : Nat} {I : Hi} {L : Hl}  {p : Hi} (h : f_X5_takeNumber I = some p) : CD G mi_X5_takeNumber [.ref 1] S0 I (R0 c d) L none S0 p (R0 c d) L := by
  refine CD.intro 1 rfl (by decide) rfl fun X hX hZ => ?_
  rw [f_X5_takeNumber] at h
  show AW G X 0 0 S0 I (R0 c d) L 0 [.ref 1, .null] []
  refine aw_aload_n (pc := 0) hX 0 dX5_takeNumber_0 rfl rfl ?_
  refine aw_getI (pc := 1) hX dX5_takeNumber_1 f_X5_25 rfl (by rfl) ?_
  refine aw_aload_n (pc := 4) hX 0 dX5_takeNumber_4 rfl rfl ?_
  refine aw_getI (pc := 5) hX dX5_takeNumber_5 f_X5_15 rfl (by rfl) ?_
  refine aw_icmp_ge (pc := 8) hX 35 dX5_takeNumber_8 rfl (fun hc8 => ?_) (fun hc8 => ?_)
  · have h := ite_t h hc8
    exact AW.lo (t_X5_takeNumber_35 hX hZ I h) (And.intro (Or.inr rfl) (And.intro (Or.inl rfl) trivial))
  · have h := ite_f h hc8
    refine aw_aload_n (pc := 11) hX 0 dX5_takeNumber_11 rfl rfl ?_
    refine aw_aload_n (pc := 12) hX 0 dX5_takeNumber_12 rfl rfl ?_
    refine aw_getI (pc := 13) hX dX5_takeNumber_13 f_X5_25 rfl (by rfl) ?_
    obtain ⟨r16, hq16, h⟩ := bind_s h
    refine aw_V1i (pc := 16) hX h_X5_isDigit l_X5_117 dX5_takeNumber_16 (by rfl) (by decide) (by rfl) rfl rfl rfl (Nat.le_of_ble_eq_true rfl) (s_X5_isDigit  hq16) ?_
    refine aw_if_eq (pc := 19) hX 35 dX5_takeNumber_19 rfl (fun hc19 => ?_) (fun hc19 => ?_)
    · have h := ite_f h (bI0 hc19)
      exact AW.lo (t_X5_takeNumber_35 hX hZ I h) (And.intro (Or.inr rfl) (And.intro (Or.inl rfl) trivial))
    · have h := ite_t h (bI1 hc19)
      refine aw_aload_n (pc := 22) hX 0 dX5_takeNumber_22 rfl rfl ?_
      refine aw_dup (pc := 23) hX dX5_takeNumber_23 rfl ?_
      refine aw_getI (pc := 24) hX dX5_takeNumber_24 f_X5_25 rfl (by rfl) ?_
      refine aw_iconst (pc := 27) hX (1 : Int32) dX5_takeNumber_27 (by decide) ?_
      refine aw_iadd (pc := 28) hX dX5_takeNumber_28 ?_
      refine aw_putI (pc := 29) hX dX5_takeNumber_29 f_X5_25 rfl rfl (by first | rfl | decide) (by first | rfl | decide) (by rfl) ?_
      obtain ⟨I29, hi29, h⟩ := bind_s h
      refine AW.iEq hi29 ?_
      refine aw_goto (pc := 32) hX 0 dX5_takeNumber_32 rfl ?_
      exact AW.lo (t_X5_takeNumber_0 hX hZ 2000 I29 h) (And.intro (Or.inr rfl) (And.intro (Or.inl rfl) trivial))
def b_X5_step_139   (I : Hi) (xs0 : Int32) : Option (Hi) := (some (u2 I (1) 2 xs0)).bind fun I139 => some (I139)
set_option maxRecDepth 100000 in
set_option maxHeartbeats 4000000 in
theorem t_X5_step_139 {G : GP} {X : CX} (hX : XOK G X mi_X5_step) {c d : Nat} {L : Hl} {p : Hi} (hZ : XZ G X mi_X5_step none S0 p (R0 c d) L) (I : Hi) (xs0 : Int32) (h : b_X5_step_139 I xs0 = some p) : AW G X 0 0 S0 I (R0 c d) L 139 [.null] [.int xs0, .ref 1] := by
  rw [b_X5_step_139] at h
  refine aw_putI (pc := 139) hX dX5_step_139 f_X5_19 rfl rfl (by first | rfl | decide) (by first | rfl | decide) (by rfl) ?_
  obtain ⟨I139, hi139, h⟩ := bind_s h
  refine AW.iEq hi139 ?_
  have e := Option.some.inj h
  subst e
  exact aw_vret hX hZ dX5_step_142 rfl rfl rfl rfl rfl rfl (Nat.le_refl _)
def b_X5_step_46   (I : Hi) : Option (Hi) := (some (u2 I (1) 4 (I (1) 3))).bind fun I51 => if (I51 (1) 3) < (I51 (1) 1) then ((f_X5_isLetter I51 (I51 (1) 3)).bind fun r78 => if r78 = true then ((f_X5_takeWord I51).bind fun r85 => some (r85)) else ((f_X5_isDigit I51 (I51 (1) 3)).bind fun r96 => if r96 = true then ((f_X5_takeNumber I51).bind fun r103 => some (r103)) else ((some (u2 I51 (1) 4 ((I51 (1) 4) + (1 : Int32)))).bind fun I116 => if vinb (I116 (1) 3) 160 then if (I116 (2) ((I116 (1) 3)).toNatClampNeg) = (59 : Int32) then (b_X5_step_139 I116 (3 : Int32)) else (b_X5_step_139 I116 (4 : Int32)) else none))) else ((some (u2 I51 (1) 2 (0 : Int32))).bind fun I67 => some (I67))
set_option maxRecDepth 100000 in
set_option maxHeartbeats 4000000 in
theorem t_X5_step_46 {G : GP} {X : CX} (hX : XOK G X mi_X5_step) {c d : Nat} {L : Hl} {p : Hi} (hZ : XZ G X mi_X5_step none S0 p (R0 c d) L) (I : Hi) (h : b_X5_step_46 I = some p) : AW G X 0 0 S0 I (R0 c d) L 46 [.ref 1] [] := by
  rw [b_X5_step_46] at h
  refine aw_aload_n (pc := 46) hX 0 dX5_step_46 rfl rfl ?_
  refine aw_aload_n (pc := 47) hX 0 dX5_step_47 rfl rfl ?_
  refine aw_getI (pc := 48) hX dX5_step_48 f_X5_22 rfl (by rfl) ?_
  refine aw_putI (pc := 51) hX dX5_step_51 f_X5_25 rfl rfl (by first | rfl | decide) (by first | rfl | decide) (by rfl) ?_
  obtain ⟨I51, hi51, h⟩ := bind_s h
  refine AW.iEq hi51 ?_
  refine aw_aload_n (pc := 54) hX 0 dX5_step_54 rfl rfl ?_
  refine aw_getI (pc := 55) hX dX5_step_55 f_X5_22 rfl (by rfl) ?_
  refine aw_aload_n (pc := 58) hX 0 dX5_step_58 rfl rfl ?_
  refine aw_getI (pc := 59) hX dX5_step_59 f_X5_15 rfl (by rfl) ?_
  refine aw_icmp_lt (pc := 62) hX 73 dX5_step_62 rfl (fun hc62 => ?_) (fun hc62 => ?_)
  · have h := ite_t h hc62
    refine aw_aload_n (pc := 73) hX 0 dX5_step_73 rfl rfl ?_
    refine aw_aload_n (pc := 74) hX 0 dX5_step_74 rfl rfl ?_
    refine aw_getI (pc := 75) hX dX5_step_75 f_X5_22 rfl (by rfl) ?_
    obtain ⟨r78, hq78, h⟩ := bind_s h
    refine aw_V1i (pc := 78) hX h_X5_isLetter l_X5_111 dX5_step_78 (by rfl) (by decide) (by rfl) rfl rfl rfl (Nat.le_of_ble_eq_true rfl) (s_X5_isLetter  hq78) ?_
    refine aw_if_eq (pc := 81) hX 91 dX5_step_81 rfl (fun hc81 => ?_) (fun hc81 => ?_)
    · have h := ite_f h (bI0 hc81)
      refine aw_aload_n (pc := 91) hX 0 dX5_step_91 rfl rfl ?_
      refine aw_aload_n (pc := 92) hX 0 dX5_step_92 rfl rfl ?_
      refine aw_getI (pc := 93) hX dX5_step_93 f_X5_22 rfl (by rfl) ?_
      obtain ⟨r96, hq96, h⟩ := bind_s h
      refine aw_V1i (pc := 96) hX h_X5_isDigit l_X5_117 dX5_step_96 (by rfl) (by decide) (by rfl) rfl rfl rfl (Nat.le_of_ble_eq_true rfl) (s_X5_isDigit  hq96) ?_
      refine aw_if_eq (pc := 99) hX 109 dX5_step_99 rfl (fun hc99 => ?_) (fun hc99 => ?_)
      · have h := ite_f h (bI0 hc99)
        refine aw_aload_n (pc := 109) hX 0 dX5_step_109 rfl rfl ?_
        refine aw_dup (pc := 110) hX dX5_step_110 rfl ?_
        refine aw_getI (pc := 111) hX dX5_step_111 f_X5_25 rfl (by rfl) ?_
        refine aw_iconst (pc := 114) hX (1 : Int32) dX5_step_114 (by decide) ?_
        refine aw_iadd (pc := 115) hX dX5_step_115 ?_
        refine aw_putI (pc := 116) hX dX5_step_116 f_X5_25 rfl rfl (by first | rfl | decide) (by first | rfl | decide) (by rfl) ?_
        obtain ⟨I116, hi116, h⟩ := bind_s h
        refine AW.iEq hi116 ?_
        refine aw_aload_n (pc := 119) hX 0 dX5_step_119 rfl rfl ?_
        refine aw_aload_n (pc := 120) hX 0 dX5_step_120 rfl rfl ?_
        refine aw_getR (pc := 121) hX dX5_step_121 f_X5_9 rfl (by rfl) (q := 2) (by rfl) ?_
        refine aw_aload_n (pc := 124) hX 0 dX5_step_124 rfl rfl ?_
        refine aw_getI (pc := 125) hX dX5_step_125 f_X5_22 rfl (by rfl) ?_
        obtain ⟨hv128, h⟩ := ite_g h
        refine aw_iaload (pc := 128) hX dX5_step_128 (by rfl) (vinb_in hv128) ?_
        refine aw_bipush (pc := 129) hX (59 : Int32) dX5_step_129 (by decide) ?_
        refine aw_icmp_ne (pc := 131) hX 138 dX5_step_131 rfl (fun hc131 => ?_) (fun hc131 => ?_)
        · have h := ite_f h hc131
          refine aw_iconst (pc := 138) hX (4 : Int32) dX5_step_138 (by decide) ?_
          exact AW.lo (t_X5_step_139 hX hZ I116 (4 : Int32) h) (And.intro (Or.inl rfl) trivial)
        · have h := ite_t h hc131
          refine aw_iconst (pc := 134) hX (3 : Int32) dX5_step_134 (by decide) ?_
          refine aw_goto (pc := 135) hX 139 dX5_step_135 rfl ?_
          exact AW.lo (t_X5_step_139 hX hZ I116 (3 : Int32) h) (And.intro (Or.inl rfl) trivial)
      · have h := ite_t h (bI1 hc99)
        refine aw_aload_n (pc := 102) hX 0 dX5_step_102 rfl rfl ?_
        obtain ⟨r103, hq103, h⟩ := bind_s h
        refine aw_V0v (pc := 103) hX h_X5_takeNumber l_X5_120 dX5_step_103 (by rfl) (by decide) (by rfl) rfl rfl rfl (Nat.le_of_ble_eq_true rfl) (s_X5_takeNumber  hq103) ?_
        refine aw_goto (pc := 106) hX 142 dX5_step_106 rfl ?_
        have e := Option.some.inj h
        subst e
        exact aw_vret hX hZ dX5_step_142 rfl rfl rfl rfl rfl rfl (Nat.le_refl _)
    · have h := ite_t h (bI1 hc81)
      refine aw_aload_n (pc := 84) hX 0 dX5_step_84 rfl rfl ?_
      obtain ⟨r85, hq85, h⟩ := bind_s h
      refine aw_V0v (pc := 85) hX h_X5_takeWord l_X5_114 dX5_step_85 (by rfl) (by decide) (by rfl) rfl rfl rfl (Nat.le_of_ble_eq_true rfl) (s_X5_takeWord  hq85) ?_
      refine aw_goto (pc := 88) hX 142 dX5_step_88 rfl ?_
      have e := Option.some.inj h
      subst e
      exact aw_vret hX hZ dX5_step_142 rfl rfl rfl rfl rfl rfl (Nat.le_refl _)
  · have h := ite_f h hc62
    refine aw_aload_n (pc := 65) hX 0 dX5_step_65 rfl rfl ?_
    refine aw_iconst (pc := 66) hX (0 : Int32) dX5_step_66 (by decide) ?_
    refine aw_putI (pc := 67) hX dX5_step_67 f_X5_19 rfl rfl (by first | rfl | decide) (by first | rfl | decide) (by rfl) ?_
    obtain ⟨I67, hi67, h⟩ := bind_s h
    refine AW.iEq hi67 ?_
    refine aw_goto (pc := 70) hX 142 dX5_step_70 rfl ?_
    have e := Option.some.inj h
    subst e
    exact aw_vret hX hZ dX5_step_142 rfl rfl rfl rfl rfl rfl (Nat.le_refl _)
def b_X5_step_8   : Nat → Hi → Option (Hi)
  | 0, _ => none
  | n + 1, I => if (I (1) 1) ≤ (I (1) 3) then (b_X5_step_46 I) else (if vinb (I (1) 3) 160 then if (I (2) ((I (1) 3)).toNatClampNeg) = (32 : Int32) then ((some (u2 I (1) 3 ((I (1) 3) + (1 : Int32)))).bind fun I40 => b_X5_step_8 n I40) else (b_X5_step_46 I) else none)
set_option maxRecDepth 100000 in
set_option maxHeartbeats 4000000 in
theorem t_X5_step_8 {G : GP} {X : CX} (hX : XOK G X mi_X5_step) {c d : Nat} {L : Hl} {p : Hi} (hZ : XZ G X mi_X5_step none S0 p (R0 c d) L) : ∀ (n : Nat) (I : Hi), b_X5_step_8 n I = some p → AW G X 0 0 S0 I (R0 c d) L 8 [.ref 1] [] := by
  intro n
  induction n with
  | zero => intro I h; cases h
  | succ n ih =>
    intro I h
    rw [b_X5_step_8] at h
    refine aw_aload_n (pc := 8) hX 0 dX5_step_8 rfl rfl ?_
    refine aw_getI (pc := 9) hX dX5_step_9 f_X5_22 rfl (by rfl) ?_
    refine aw_aload_n (pc := 12) hX 0 dX5_step_12 rfl rfl ?_
    refine aw_getI (pc := 13) hX dX5_step_13 f_X5_15 rfl (by rfl) ?_
    refine aw_icmp_ge (pc := 16) hX 46 dX5_step_16 rfl (fun hc16 => ?_) (fun hc16 => ?_)
    · have h := ite_t h hc16
      exact AW.lo (t_X5_step_46 hX hZ I h) (And.intro (Or.inr rfl) trivial)
    · have h := ite_f h hc16
      refine aw_aload_n (pc := 19) hX 0 dX5_step_19 rfl rfl ?_
      refine aw_getR (pc := 20) hX dX5_step_20 f_X5_9 rfl (by rfl) (q := 2) (by rfl) ?_
      refine aw_aload_n (pc := 23) hX 0 dX5_step_23 rfl rfl ?_
      refine aw_getI (pc := 24) hX dX5_step_24 f_X5_22 rfl (by rfl) ?_
      obtain ⟨hv27, h⟩ := ite_g h
      refine aw_iaload (pc := 27) hX dX5_step_27 (by rfl) (vinb_in hv27) ?_
      refine aw_bipush (pc := 28) hX (32 : Int32) dX5_step_28 (by decide) ?_
      refine aw_icmp_ne (pc := 30) hX 46 dX5_step_30 rfl (fun hc30 => ?_) (fun hc30 => ?_)
      · have h := ite_f h hc30
        exact AW.lo (t_X5_step_46 hX hZ I h) (And.intro (Or.inr rfl) trivial)
      · have h := ite_t h hc30
        refine aw_aload_n (pc := 33) hX 0 dX5_step_33 rfl rfl ?_
        refine aw_dup (pc := 34) hX dX5_step_34 rfl ?_
        refine aw_getI (pc := 35) hX dX5_step_35 f_X5_22 rfl (by rfl) ?_
        refine aw_iconst (pc := 38) hX (1 : Int32) dX5_step_38 (by decide) ?_
        refine aw_iadd (pc := 39) hX dX5_step_39 ?_
        refine aw_putI (pc := 40) hX dX5_step_40 f_X5_22 rfl rfl (by first | rfl | decide) (by first | rfl | decide) (by rfl) ?_
        obtain ⟨I40, hi40, h⟩ := bind_s h
        refine AW.iEq hi40 ?_
        refine aw_goto (pc := 43) hX 8 dX5_step_43 rfl ?_
        exact AW.lo (ih I40  h) (And.intro (Or.inr rfl) trivial)
def f_X5_step (I : Hi)  : Option (Hi) := (some (u2 I (1) 3 (I (1) 4))).bind fun I5 => b_X5_step_8 2000 I5
set_option maxRecDepth 100000 in
set_option maxHeartbeats 4000000 in
theorem s_X5_step {G : GP} {c d : Nat} {I : Hi} {L : Hl}  {p : Hi} (h : f_X5_step I = some p) : CD G mi_X5_step [.ref 1] S0 I (R0 c d) L none S0 p (R0 c d) L := by
  refine CD.intro 0 rfl (by decide) rfl fun X hX hZ => ?_
  rw [f_X5_step] at h
  show AW G X 0 0 S0 I (R0 c d) L 0 [.ref 1] []
  refine aw_aload_n (pc := 0) hX 0 dX5_step_0 rfl rfl ?_
  refine aw_aload_n (pc := 1) hX 0 dX5_step_1 rfl rfl ?_
  refine aw_getI (pc := 2) hX dX5_step_2 f_X5_25 rfl (by rfl) ?_
  refine aw_putI (pc := 5) hX dX5_step_5 f_X5_22 rfl rfl (by first | rfl | decide) (by first | rfl | decide) (by rfl) ?_
  obtain ⟨I5, hi5, h⟩ := bind_s h
  refine AW.iEq hi5 ?_
  exact AW.lo (t_X5_step_8 hX hZ 2000 I5 h) (And.intro (Or.inr rfl) trivial)
def f_X6_isTaste  (x0 : Int32) : Option (Bool) := if x0 < (0 : Int32) then (some (false)) else (if (6 : Int32) ≤ x0 then (some (false)) else (some (true)))
set_option maxRecDepth 100000 in
set_option maxHeartbeats 4000000 in
theorem s_X6_isTaste {G : GP} {c d : Nat} {I : Hi} {L : Hl} {x0 : Int32} {p : Bool} (h : f_X6_isTaste x0 = some p) : CD G mi_X6_isTaste [.int x0] S0 I (R0 c d) L (some (.int (bI p))) S0 I (R0 c d) L := by
  refine CD.intro 0 rfl (by decide) rfl fun X hX hZ => ?_
  rw [f_X6_isTaste] at h
  show AW G X 0 0 S0 I (R0 c d) L 0 [.int x0] []
  refine aw_iload_n (pc := 0) hX 0 dX6_isTaste_0 rfl rfl ?_
  refine aw_if_lt (pc := 1) hX 14 dX6_isTaste_1 rfl (fun hc1 => ?_) (fun hc1 => ?_)
  · have h := ite_t h hc1
    refine aw_iconst (pc := 14) hX (0 : Int32) dX6_isTaste_14 (by decide) ?_
    have e := Option.some.inj h
    subst e
    exact aw_zret hX hZ dX6_isTaste_15 rfl (bI01 _) rfl rfl rfl rfl rfl rfl (Nat.le_refl _)
  · have h := ite_f h hc1
    refine aw_iload_n (pc := 4) hX 0 dX6_isTaste_4 rfl rfl ?_
    refine aw_bipush (pc := 5) hX (6 : Int32) dX6_isTaste_5 (by decide) ?_
    refine aw_icmp_ge (pc := 7) hX 14 dX6_isTaste_7 rfl (fun hc7 => ?_) (fun hc7 => ?_)
    · have h := ite_t h hc7
      refine aw_iconst (pc := 14) hX (0 : Int32) dX6_isTaste_14 (by decide) ?_
      have e := Option.some.inj h
      subst e
      exact aw_zret hX hZ dX6_isTaste_15 rfl (bI01 _) rfl rfl rfl rfl rfl rfl (Nat.le_refl _)
    · have h := ite_f h hc7
      refine aw_iconst (pc := 10) hX (1 : Int32) dX6_isTaste_10 (by decide) ?_
      refine aw_goto (pc := 11) hX 15 dX6_isTaste_11 rfl ?_
      have e := Option.some.inj h
      subst e
      exact aw_zret hX hZ dX6_isTaste_15 rfl (bI01 _) rfl rfl rfl rfl rfl rfl (Nat.le_refl _)
def b_X5_isRow_36 (I : Hi)  : Nat → Int32 → Option (Bool)
  | 0, _ => none
  | n + 1, x3 => if (I (1) 4) ≤ x3 then (some (true)) else (if vinb x3 160 then (f_X6_isTaste ((I (2) (x3).toNatClampNeg) - (97 : Int32))).bind fun r53 => if r53 = true then (b_X5_isRow_36 I n (x3 + 1)) else (some (false)) else none)
set_option maxRecDepth 100000 in
set_option maxHeartbeats 4000000 in
theorem t_X5_isRow_36 {G : GP} {X : CX} (hX : XOK G X mi_X5_isRow) {c d : Nat} {I : Hi} {L : Hl} {p : Bool} (hZ : XZ G X mi_X5_isRow (some (.int (bI p))) S0 I (R0 c d) L) : ∀ (n : Nat) (x3 : Int32), b_X5_isRow_36 I n x3 = some p → AW G X 0 0 S0 I (R0 c d) L 36 [.ref 1, .null, .null, .int x3] [] := by
  intro n
  induction n with
  | zero => intro x3 h; cases h
  | succ n ih =>
    intro x3 h
    rw [b_X5_isRow_36] at h
    refine aw_iload_n (pc := 36) hX 3 dX5_isRow_36 rfl rfl ?_
    refine aw_aload_n (pc := 37) hX 0 dX5_isRow_37 rfl rfl ?_
    refine aw_getI (pc := 38) hX dX5_isRow_38 f_X5_25 rfl (by rfl) ?_
    refine aw_icmp_ge (pc := 41) hX 67 dX5_isRow_41 rfl (fun hc41 => ?_) (fun hc41 => ?_)
    · have h := ite_t h hc41
      refine aw_iconst (pc := 67) hX (1 : Int32) dX5_isRow_67 (by decide) ?_
      have e := Option.some.inj h
      subst e
      exact aw_zret hX hZ dX5_isRow_68 rfl (bI01 _) rfl rfl rfl rfl rfl rfl (Nat.le_refl _)
    · have h := ite_f h hc41
      refine aw_aload_n (pc := 44) hX 0 dX5_isRow_44 rfl rfl ?_
      refine aw_getR (pc := 45) hX dX5_isRow_45 f_X5_9 rfl (by rfl) (q := 2) (by rfl) ?_
      refine aw_iload_n (pc := 48) hX 3 dX5_isRow_48 rfl rfl ?_
      obtain ⟨hv49, h⟩ := ite_g h
      refine aw_iaload (pc := 49) hX dX5_isRow_49 (by rfl) (vinb_in hv49) ?_
      refine aw_bipush (pc := 50) hX (97 : Int32) dX5_isRow_50 (by decide) ?_
      refine aw_isub (pc := 52) hX dX5_isRow_52 ?_
      obtain ⟨r53, hq53, h⟩ := bind_s h
      refine aw_SN1i (pc := 53) hX h_X6_isTaste l_X5_108 dX5_isRow_53 rfl rfl rfl (Nat.le_of_ble_eq_true rfl) (s_X6_isTaste  hq53) ?_
      refine aw_if_ne (pc := 56) hX 61 dX5_isRow_56 rfl (fun hc56 => ?_) (fun hc56 => ?_)
      · have h := ite_t h (bI1 hc56)
        refine aw_iincE (pc := 61) hX (x3 + 1) [.ref 1, .null, .null, .int (x3 + 1)] dX5_isRow_61 rfl rfl (by decide) rfl rfl ?_
        refine aw_goto (pc := 64) hX 36 dX5_isRow_64 rfl ?_
        exact AW.lo (ih (x3 + 1)  h) (And.intro (Or.inr rfl) (And.intro (Or.inl rfl) (And.intro (Or.inl rfl) (And.intro (Or.inr rfl) trivial))))
      · have h := ite_f h (bI0 hc56)
        refine aw_iconst (pc := 59) hX (0 : Int32) dX5_isRow_59 (by decide) ?_
        have e := Option.some.inj h
        subst e
        exact aw_zret hX hZ dX5_isRow_60 rfl (bI01 _) rfl rfl rfl rfl rfl rfl (Nat.le_refl _)
def f_X5_isRow (I : Hi) (x1 : Int32) : Option (Bool) := if (I (1) 2) = (1 : Int32) then (if ((I (1) 4) - (I (1) 3)) < x1 then (some (false)) else (if ((I (1) 4) - (I (1) 3)) ≤ (6 : Int32) then (b_X5_isRow_36 I 2000 (I (1) 3)) else (some (false)))) else (some (false))
set_option maxRecDepth 100000 in
set_option maxHeartbeats 4000000 in
theorem s_X5_isRow {G : GP} {c d : Nat} {I : Hi} {L : Hl} {x1 : Int32} {p : Bool} (h : f_X5_isRow I x1 = some p) : CD G mi_X5_isRow [.ref 1, .int x1] S0 I (R0 c d) L (some (.int (bI p))) S0 I (R0 c d) L := by
  refine CD.intro 2 rfl (by decide) rfl fun X hX hZ => ?_
  rw [f_X5_isRow] at h
  show AW G X 0 0 S0 I (R0 c d) L 0 [.ref 1, .int x1, .null, .null] []
  refine aw_aload_n (pc := 0) hX 0 dX5_isRow_0 rfl rfl ?_
  refine aw_getI (pc := 1) hX dX5_isRow_1 f_X5_25 rfl (by rfl) ?_
  refine aw_aload_n (pc := 4) hX 0 dX5_isRow_4 rfl rfl ?_
  refine aw_getI (pc := 5) hX dX5_isRow_5 f_X5_22 rfl (by rfl) ?_
  refine aw_isub (pc := 8) hX dX5_isRow_8 ?_
  refine aw_istore_nE (pc := 9) hX 2 [.ref 1, .int x1, .int ((I (1) 4) - (I (1) 3)), .null] dX5_isRow_9 rfl (by decide) rfl rfl ?_
  refine aw_aload_n (pc := 10) hX 0 dX5_isRow_10 rfl rfl ?_
  refine aw_getI (pc := 11) hX dX5_isRow_11 f_X5_19 rfl (by rfl) ?_
  refine aw_iconst (pc := 14) hX (1 : Int32) dX5_isRow_14 (by decide) ?_
  refine aw_icmp_ne (pc := 15) hX 29 dX5_isRow_15 rfl (fun hc15 => ?_) (fun hc15 => ?_)
  · have h := ite_f h hc15
    refine aw_iconst (pc := 29) hX (0 : Int32) dX5_isRow_29 (by decide) ?_
    have e := Option.some.inj h
    subst e
    exact aw_zret hX hZ dX5_isRow_30 rfl (bI01 _) rfl rfl rfl rfl rfl rfl (Nat.le_refl _)
  · have h := ite_t h hc15
    refine aw_iload_n (pc := 18) hX 2 dX5_isRow_18 rfl rfl ?_
    refine aw_iload_n (pc := 19) hX 1 dX5_isRow_19 rfl rfl ?_
    refine aw_icmp_lt (pc := 20) hX 29 dX5_isRow_20 rfl (fun hc20 => ?_) (fun hc20 => ?_)
    · have h := ite_t h hc20
      refine aw_iconst (pc := 29) hX (0 : Int32) dX5_isRow_29 (by decide) ?_
      have e := Option.some.inj h
      subst e
      exact aw_zret hX hZ dX5_isRow_30 rfl (bI01 _) rfl rfl rfl rfl rfl rfl (Nat.le_refl _)
    · have h := ite_f h hc20
      refine aw_iload_n (pc := 23) hX 2 dX5_isRow_23 rfl rfl ?_
      refine aw_bipush (pc := 24) hX (6 : Int32) dX5_isRow_24 (by decide) ?_
      refine aw_icmp_le (pc := 26) hX 31 dX5_isRow_26 rfl (fun hc26 => ?_) (fun hc26 => ?_)
      · have h := ite_t h hc26
        refine aw_aload_n (pc := 31) hX 0 dX5_isRow_31 rfl rfl ?_
        refine aw_getI (pc := 32) hX dX5_isRow_32 f_X5_22 rfl (by rfl) ?_
        refine aw_istore_nE (pc := 35) hX 3 [.ref 1, .int x1, .int ((I (1) 4) - (I (1) 3)), .int (I (1) 3)] dX5_isRow_35 rfl (by decide) rfl rfl ?_
        exact AW.lo (t_X5_isRow_36 hX hZ 2000 (I (1) 3) h) (And.intro (Or.inr rfl) (And.intro (Or.inl rfl) (And.intro (Or.inl rfl) (And.intro (Or.inr rfl) trivial))))
      · have h := ite_f h hc26
        refine aw_iconst (pc := 29) hX (0 : Int32) dX5_isRow_29 (by decide) ?_
        have e := Option.some.inj h
        subst e
        exact aw_zret hX hZ dX5_isRow_30 rfl (bI01 _) rfl rfl rfl rfl rfl rfl (Nat.le_refl _)
def b_X5_rowBits_7 (I : Hi)  : Nat → Int32 → Int32 → Option (Int32)
  | 0, _, _ => none
  | n + 1, x1, x2 => if (I (1) 4) ≤ x2 then (some (x1)) else (if vinb x2 160 then b_X5_rowBits_7 I n (x1 ||| ((1 : Int32) <<< (((I (2) (x2).toNatClampNeg) - (97 : Int32)) &&& 31))) (x2 + 1) else none)
set_option maxRecDepth 100000 in
set_option maxHeartbeats 4000000 in
theorem t_X5_rowBits_7 {G : GP} {X : CX} (hX : XOK G X mi_X5_rowBits) {c d : Nat} {I : Hi} {L : Hl} {p : Int32} (hZ : XZ G X mi_X5_rowBits (some (.int p)) S0 I (R0 c d) L) : ∀ (n : Nat) (x1 : Int32) (x2 : Int32), b_X5_rowBits_7 I n x1 x2 = some p → AW G X 0 0 S0 I (R0 c d) L 7 [.ref 1, .int x1, .int x2] [] := by
  intro n
  induction n with
  | zero => intro x1 x2 h; cases h
  | succ n ih =>
    intro x1 x2 h
    rw [b_X5_rowBits_7] at h
    refine aw_iload_n (pc := 7) hX 2 dX5_rowBits_7 rfl rfl ?_
    refine aw_aload_n (pc := 8) hX 0 dX5_rowBits_8 rfl rfl ?_
    refine aw_getI (pc := 9) hX dX5_rowBits_9 f_X5_25 rfl (by rfl) ?_
    refine aw_icmp_ge (pc := 12) hX 35 dX5_rowBits_12 rfl (fun hc12 => ?_) (fun hc12 => ?_)
    · have h := ite_t h hc12
      refine aw_iload_n (pc := 35) hX 1 dX5_rowBits_35 rfl rfl ?_
      have e := Option.some.inj h
      subst e
      exact aw_iret hX hZ dX5_rowBits_36 rfl rfl rfl rfl rfl rfl rfl (Nat.le_refl _)
    · have h := ite_f h hc12
      refine aw_iload_n (pc := 15) hX 1 dX5_rowBits_15 rfl rfl ?_
      refine aw_iconst (pc := 16) hX (1 : Int32) dX5_rowBits_16 (by decide) ?_
      refine aw_aload_n (pc := 17) hX 0 dX5_rowBits_17 rfl rfl ?_
      refine aw_getR (pc := 18) hX dX5_rowBits_18 f_X5_9 rfl (by rfl) (q := 2) (by rfl) ?_
      refine aw_iload_n (pc := 21) hX 2 dX5_rowBits_21 rfl rfl ?_
      obtain ⟨hv22, h⟩ := ite_g h
      refine aw_iaload (pc := 22) hX dX5_rowBits_22 (by rfl) (vinb_in hv22) ?_
      refine aw_bipush (pc := 23) hX (97 : Int32) dX5_rowBits_23 (by decide) ?_
      refine aw_isub (pc := 25) hX dX5_rowBits_25 ?_
      refine aw_ishl (pc := 26) hX dX5_rowBits_26 ?_
      refine aw_ior (pc := 27) hX dX5_rowBits_27 ?_
      refine aw_istore_nE (pc := 28) hX 1 [.ref 1, .int (x1 ||| ((1 : Int32) <<< (((I (2) (x2).toNatClampNeg) - (97 : Int32)) &&& 31))), .int x2] dX5_rowBits_28 rfl (by decide) rfl rfl ?_
      refine aw_iincE (pc := 29) hX (x2 + 1) [.ref 1, .int (x1 ||| ((1 : Int32) <<< (((I (2) (x2).toNatClampNeg) - (97 : Int32)) &&& 31))), .int (x2 + 1)] dX5_rowBits_29 rfl rfl (by decide) rfl rfl ?_
      refine aw_goto (pc := 32) hX 7 dX5_rowBits_32 rfl ?_
      exact AW.lo (ih (x1 ||| ((1 : Int32) <<< (((I (2) (x2).toNatClampNeg) - (97 : Int32)) &&& 31))) (x2 + 1)  h) (And.intro (Or.inr rfl) (And.intro (Or.inr rfl) (And.intro (Or.inr rfl) trivial)))
def f_X5_rowBits (I : Hi)  : Option (Int32) := b_X5_rowBits_7 I 2000 (0 : Int32) (I (1) 3)
set_option maxRecDepth 100000 in
set_option maxHeartbeats 4000000 in
theorem s_X5_rowBits {G : GP} {c d : Nat} {I : Hi} {L : Hl}  {p : Int32} (h : f_X5_rowBits I = some p) : CD G mi_X5_rowBits [.ref 1] S0 I (R0 c d) L (some (.int p)) S0 I (R0 c d) L := by
  refine CD.intro 2 rfl (by decide) rfl fun X hX hZ => ?_
  rw [f_X5_rowBits] at h
  show AW G X 0 0 S0 I (R0 c d) L 0 [.ref 1, .null, .null] []
  refine aw_iconst (pc := 0) hX (0 : Int32) dX5_rowBits_0 (by decide) ?_
  refine aw_istore_nE (pc := 1) hX 1 [.ref 1, .int (0 : Int32), .null] dX5_rowBits_1 rfl (by decide) rfl rfl ?_
  refine aw_aload_n (pc := 2) hX 0 dX5_rowBits_2 rfl rfl ?_
  refine aw_getI (pc := 3) hX dX5_rowBits_3 f_X5_22 rfl (by rfl) ?_
  refine aw_istore_nE (pc := 6) hX 2 [.ref 1, .int (0 : Int32), .int (I (1) 3)] dX5_rowBits_6 rfl (by decide) rfl rfl ?_
  exact AW.lo (t_X5_rowBits_7 hX hZ 2000 (0 : Int32) (I (1) 3) h) (And.intro (Or.inr rfl) (And.intro (Or.inr rfl) (And.intro (Or.inr rfl) trivial)))
def f_X5_readTastes (a1 : Nat) (na1 : Nat) (I : Hi) (x2 : Int32) : Option (Bool × Hi) := if x2 < (nI na1) then ((f_X5_step I).bind fun r9 => (f_X5_isRow r9 (1 : Int32)).bind fun r14 => if r14 = true then ((f_X5_rowBits r9).bind fun r25 => if vinb x2 na1 then (some (u2 r9 (a1) (x2).toNatClampNeg r25)).bind fun I28 => (f_X5_step I28).bind fun r30 => some (true, r30) else none) else (some (false, r9))) else (some (false, I))
set_option maxRecDepth 100000 in
set_option maxHeartbeats 4000000 in
theorem s_X5_readTastes {G : GP} {a1 : Nat} {na1 : Nat} (ha1 : S0[a1]? = some (8, na1)) {c d : Nat} {I : Hi} {L : Hl} {x2 : Int32} {p : Bool × Hi} (h : f_X5_readTastes a1 na1 I x2 = some p) : CD G mi_X5_readTastes [.ref 1, .ref a1, .int x2] S0 I (R0 c d) L (some (.int (bI p.1))) S0 p.2 (R0 c d) L := by
  refine CD.intro 0 rfl (by decide) rfl fun X hX hZ => ?_
  rw [f_X5_readTastes] at h
  show AW G X 0 0 S0 I (R0 c d) L 0 [.ref 1, .ref a1, .int x2] []
  refine aw_iload_n (pc := 0) hX 2 dX5_readTastes_0 rfl rfl ?_
  refine aw_aload_n (pc := 1) hX 1 dX5_readTastes_1 rfl rfl ?_
  refine aw_alen (pc := 2) hX dX5_readTastes_2 ha1 ?_
  refine aw_icmp_lt (pc := 3) hX 8 dX5_readTastes_3 rfl (fun hc3 => ?_) (fun hc3 => ?_)
  · have h := ite_t h hc3
    refine aw_aload_n (pc := 8) hX 0 dX5_readTastes_8 rfl rfl ?_
    obtain ⟨r9, hq9, h⟩ := bind_s h
    refine aw_V0v (pc := 9) hX h_X5_step l_X5_37 dX5_readTastes_9 (by rfl) (by decide) (by rfl) rfl rfl rfl (Nat.le_of_ble_eq_true rfl) (s_X5_step  hq9) ?_
    refine aw_aload_n (pc := 12) hX 0 dX5_readTastes_12 rfl rfl ?_
    refine aw_iconst (pc := 13) hX (1 : Int32) dX5_readTastes_13 (by decide) ?_
    obtain ⟨r14, hq14, h⟩ := bind_s h
    refine aw_V1i (pc := 14) hX h_X5_isRow l_X5_75 dX5_readTastes_14 (by rfl) (by decide) (by rfl) rfl rfl rfl (Nat.le_of_ble_eq_true rfl) (s_X5_isRow  hq14) ?_
    refine aw_if_ne (pc := 17) hX 22 dX5_readTastes_17 rfl (fun hc17 => ?_) (fun hc17 => ?_)
    · have h := ite_t h (bI1 hc17)
      refine aw_aload_n (pc := 22) hX 1 dX5_readTastes_22 rfl rfl ?_
      refine aw_iload_n (pc := 23) hX 2 dX5_readTastes_23 rfl rfl ?_
      refine aw_aload_n (pc := 24) hX 0 dX5_readTastes_24 rfl rfl ?_
      obtain ⟨r25, hq25, h⟩ := bind_s h
      refine aw_V0i (pc := 25) hX h_X5_rowBits l_X5_79 dX5_readTastes_25 (by rfl) (by decide) (by rfl) rfl rfl rfl (Nat.le_of_ble_eq_true rfl) (s_X5_rowBits  hq25) ?_
      obtain ⟨hv28, h⟩ := ite_g h
      refine aw_iastore (pc := 28) hX dX5_readTastes_28 ha1 (vinb_in hv28) ?_
      obtain ⟨I28, hi28, h⟩ := bind_s h
      refine AW.iEq hi28 ?_
      refine aw_aload_n (pc := 29) hX 0 dX5_readTastes_29 rfl rfl ?_
      obtain ⟨r30, hq30, h⟩ := bind_s h
      refine aw_V0v (pc := 30) hX h_X5_step l_X5_37 dX5_readTastes_30 (by rfl) (by decide) (by rfl) rfl rfl rfl (Nat.le_of_ble_eq_true rfl) (s_X5_step  hq30) ?_
      refine aw_iconst (pc := 33) hX (1 : Int32) dX5_readTastes_33 (by decide) ?_
      have e := Option.some.inj h
      subst e
      exact aw_zret hX hZ dX5_readTastes_34 rfl (bI01 _) rfl rfl rfl rfl rfl rfl (Nat.le_refl _)
    · have h := ite_f h (bI0 hc17)
      refine aw_iconst (pc := 20) hX (0 : Int32) dX5_readTastes_20 (by decide) ?_
      have e := Option.some.inj h
      subst e
      exact aw_zret hX hZ dX5_readTastes_21 rfl (bI01 _) rfl rfl rfl rfl rfl rfl (Nat.le_refl _)
  · have h := ite_f h hc3
    refine aw_iconst (pc := 6) hX (0 : Int32) dX5_readTastes_6 (by decide) ?_
    have e := Option.some.inj h
    subst e
    exact aw_zret hX hZ dX5_readTastes_7 rfl (bI01 _) rfl rfl rfl rfl rfl rfl (Nat.le_refl _)
def f_X5_readLeaf (a1 : Nat) (I : Hi)  : Option (Bool × Hi) := (f_X5_readTastes (a1 + 1) 5 I (I (a1) 5)).bind fun r9 => if r9.1 = true then ((some (u2 r9.2 (a1) 5 ((r9.2 (a1) 5) + (1 : Int32)))).bind fun I24 => some (true, I24)) else (some (false, r9.2))
set_option maxRecDepth 100000 in
set_option maxHeartbeats 4000000 in
theorem s_X5_readLeaf {G : GP} {a1 : Nat} (ha1 : isC a1) {c d : Nat} {I : Hi} {L : Hl}  {p : Bool × Hi} (h : f_X5_readLeaf a1 I = some p) : CD G mi_X5_readLeaf [.ref 1, .ref a1] S0 I (R0 c d) L (some (.int (bI p.1))) S0 p.2 (R0 c d) L := by
  refine CD.intro 0 rfl (by decide) rfl fun X hX hZ => ?_
  rw [f_X5_readLeaf] at h
  show AW G X 0 0 S0 I (R0 c d) L 0 [.ref 1, .ref a1] []
  refine aw_aload_n (pc := 0) hX 0 dX5_readLeaf_0 rfl rfl ?_
  refine aw_aload_n (pc := 1) hX 1 dX5_readLeaf_1 rfl rfl ?_
  refine aw_getR (pc := 2) hX dX5_readLeaf_2 f_X5_59 rfl (csh0 ha1) (q := a1 + 1) (crf0 ha1) ?_
  refine aw_aload_n (pc := 5) hX 1 dX5_readLeaf_5 rfl rfl ?_
  refine aw_getI (pc := 6) hX dX5_readLeaf_6 f_X5_62 rfl (csh0 ha1) ?_
  obtain ⟨r9, hq9, h⟩ := bind_s h
  refine aw_V2i (pc := 9) hX h_X5_readTastes l_X5_65 dX5_readLeaf_9 (by rfl) (by decide) (by rfl) rfl rfl rfl (Nat.le_of_ble_eq_true rfl) (s_X5_readTastes (csh1 ha1) hq9) ?_
  refine aw_if_ne (pc := 12) hX 17 dX5_readLeaf_12 rfl (fun hc12 => ?_) (fun hc12 => ?_)
  · have h := ite_t h (bI1 hc12)
    refine aw_aload_n (pc := 17) hX 1 dX5_readLeaf_17 rfl rfl ?_
    refine aw_dup (pc := 18) hX dX5_readLeaf_18 rfl ?_
    refine aw_getI (pc := 19) hX dX5_readLeaf_19 f_X5_62 rfl (csh0 ha1) ?_
    refine aw_iconst (pc := 22) hX (1 : Int32) dX5_readLeaf_22 (by decide) ?_
    refine aw_iadd (pc := 23) hX dX5_readLeaf_23 ?_
    refine aw_putI (pc := 24) hX dX5_readLeaf_24 f_X5_62 rfl rfl (by first | rfl | decide) (by first | rfl | decide) (csh0 ha1) ?_
    obtain ⟨I24, hi24, h⟩ := bind_s h
    refine AW.iEq hi24 ?_
    refine aw_iconst (pc := 27) hX (1 : Int32) dX5_readLeaf_27 (by decide) ?_
    have e := Option.some.inj h
    subst e
    exact aw_zret hX hZ dX5_readLeaf_28 rfl (bI01 _) rfl rfl rfl rfl rfl rfl (Nat.le_refl _)
  · have h := ite_f h (bI0 hc12)
    refine aw_iconst (pc := 15) hX (0 : Int32) dX5_readLeaf_15 (by decide) ?_
    have e := Option.some.inj h
    subst e
    exact aw_zret hX hZ dX5_readLeaf_16 rfl (bI01 _) rfl rfl rfl rfl rfl rfl (Nat.le_refl _)
def f_X5_readGoer (a1 : Nat) (I : Hi)  : Option (Bool × Hi) := (f_X5_readTastes (a1 + 2) 6 I (I (a1) 6)).bind fun r9 => if r9.1 = true then ((some (u2 r9.2 (a1) 6 ((r9.2 (a1) 6) + (1 : Int32)))).bind fun I24 => some (true, I24)) else (some (false, r9.2))
set_option maxRecDepth 100000 in
set_option maxHeartbeats 4000000 in
theorem s_X5_readGoer {G : GP} {a1 : Nat} (ha1 : isC a1) {c d : Nat} {I : Hi} {L : Hl}  {p : Bool × Hi} (h : f_X5_readGoer a1 I = some p) : CD G mi_X5_readGoer [.ref 1, .ref a1] S0 I (R0 c d) L (some (.int (bI p.1))) S0 p.2 (R0 c d) L := by
  refine CD.intro 0 rfl (by decide) rfl fun X hX hZ => ?_
  rw [f_X5_readGoer] at h
  show AW G X 0 0 S0 I (R0 c d) L 0 [.ref 1, .ref a1] []
  refine aw_aload_n (pc := 0) hX 0 dX5_readGoer_0 rfl rfl ?_
  refine aw_aload_n (pc := 1) hX 1 dX5_readGoer_1 rfl rfl ?_
  refine aw_getR (pc := 2) hX dX5_readGoer_2 f_X5_69 rfl (csh0 ha1) (q := a1 + 2) (crf1 ha1) ?_
  refine aw_aload_n (pc := 5) hX 1 dX5_readGoer_5 rfl rfl ?_
  refine aw_getI (pc := 6) hX dX5_readGoer_6 f_X5_72 rfl (csh0 ha1) ?_
  obtain ⟨r9, hq9, h⟩ := bind_s h
  refine aw_V2i (pc := 9) hX h_X5_readTastes l_X5_65 dX5_readGoer_9 (by rfl) (by decide) (by rfl) rfl rfl rfl (Nat.le_of_ble_eq_true rfl) (s_X5_readTastes (csh2 ha1) hq9) ?_
  refine aw_if_ne (pc := 12) hX 17 dX5_readGoer_12 rfl (fun hc12 => ?_) (fun hc12 => ?_)
  · have h := ite_t h (bI1 hc12)
    refine aw_aload_n (pc := 17) hX 1 dX5_readGoer_17 rfl rfl ?_
    refine aw_dup (pc := 18) hX dX5_readGoer_18 rfl ?_
    refine aw_getI (pc := 19) hX dX5_readGoer_19 f_X5_72 rfl (csh0 ha1) ?_
    refine aw_iconst (pc := 22) hX (1 : Int32) dX5_readGoer_22 (by decide) ?_
    refine aw_iadd (pc := 23) hX dX5_readGoer_23 ?_
    refine aw_putI (pc := 24) hX dX5_readGoer_24 f_X5_72 rfl rfl (by first | rfl | decide) (by first | rfl | decide) (csh0 ha1) ?_
    obtain ⟨I24, hi24, h⟩ := bind_s h
    refine AW.iEq hi24 ?_
    refine aw_iconst (pc := 27) hX (1 : Int32) dX5_readGoer_27 (by decide) ?_
    have e := Option.some.inj h
    subst e
    exact aw_zret hX hZ dX5_readGoer_28 rfl (bI01 _) rfl rfl rfl rfl rfl rfl (Nat.le_refl _)
  · have h := ite_f h (bI0 hc12)
    refine aw_iconst (pc := 15) hX (0 : Int32) dX5_readGoer_15 (by decide) ?_
    have e := Option.some.inj h
    subst e
    exact aw_zret hX hZ dX5_readGoer_16 rfl (bI01 _) rfl rfl rfl rfl rfl rfl (Nat.le_refl _)
def b_X5_readSister_67 (a1 : Nat)  (I : Hi) : Option (Bool × Hi) := (some (u2 I (a1) 7 ((I (a1) 7) + (1 : Int32)))).bind fun I74 => (f_X5_step I74).bind fun r78 => some (true, r78)
set_option maxRecDepth 100000 in
set_option maxHeartbeats 4000000 in
theorem t_X5_readSister_67 {G : GP} {X : CX} (hX : XOK G X mi_X5_readSister) {a1 : Nat} (ha1 : isC a1) {c d : Nat} {L : Hl} {p : Bool × Hi} (hZ : XZ G X mi_X5_readSister (some (.int (bI p.1))) S0 p.2 (R0 c d) L) (I : Hi) (h : b_X5_readSister_67 a1 I = some p) : AW G X 0 0 S0 I (R0 c d) L 67 [.ref 1, .ref a1, .null] [] := by
  rw [b_X5_readSister_67] at h
  refine aw_aload_n (pc := 67) hX 1 dX5_readSister_67 rfl rfl ?_
  refine aw_dup (pc := 68) hX dX5_readSister_68 rfl ?_
  refine aw_getI (pc := 69) hX dX5_readSister_69 f_X5_83 rfl (csh0 ha1) ?_
  refine aw_iconst (pc := 72) hX (1 : Int32) dX5_readSister_72 (by decide) ?_
  refine aw_iadd (pc := 73) hX dX5_readSister_73 ?_
  refine aw_putI (pc := 74) hX dX5_readSister_74 f_X5_83 rfl rfl (by first | rfl | decide) (by first | rfl | decide) (csh0 ha1) ?_
  obtain ⟨I74, hi74, h⟩ := bind_s h
  refine AW.iEq hi74 ?_
  refine aw_aload_n (pc := 77) hX 0 dX5_readSister_77 rfl rfl ?_
  obtain ⟨r78, hq78, h⟩ := bind_s h
  refine aw_V0v (pc := 78) hX h_X5_step l_X5_37 dX5_readSister_78 (by rfl) (by decide) (by rfl) rfl rfl rfl (Nat.le_of_ble_eq_true rfl) (s_X5_step  hq78) ?_
  refine aw_iconst (pc := 81) hX (1 : Int32) dX5_readSister_81 (by decide) ?_
  have e := Option.some.inj h
  subst e
  exact aw_zret hX hZ dX5_readSister_82 rfl (bI01 _) rfl rfl rfl rfl rfl rfl (Nat.le_refl _)
def b_X5_readSister_27 (a1 : Nat)  : Nat → Hi → Int32 → Option (Bool × Hi)
  | 0, _, _ => none
  | n + 1, I, x2 => if (6 : Int32) ≤ x2 then (b_X5_readSister_67 a1 I) else (if vinb ((I (1) 3) + x2) 160 then if vinb (((I (a1) 7) * (6 : Int32)) + x2) 24 then (some (u2 I (a1 + 3) ((((I (a1) 7) * (6 : Int32)) + x2)).toNatClampNeg ((I (2) (((I (1) 3) + x2)).toNatClampNeg) - (97 : Int32)))).bind fun I60 => b_X5_readSister_27 a1 n I60 (x2 + 1) else none else none)
set_option maxRecDepth 100000 in
set_option maxHeartbeats 4000000 in
theorem t_X5_readSister_27 {G : GP} {X : CX} (hX : XOK G X mi_X5_readSister) {a1 : Nat} (ha1 : isC a1) {c d : Nat} {L : Hl} {p : Bool × Hi} (hZ : XZ G X mi_X5_readSister (some (.int (bI p.1))) S0 p.2 (R0 c d) L) : ∀ (n : Nat) (I : Hi) (x2 : Int32), b_X5_readSister_27 a1 n I x2 = some p → AW G X 0 0 S0 I (R0 c d) L 27 [.ref 1, .ref a1, .int x2] [] := by
  intro n
  induction n with
  | zero => intro I x2 h; cases h
  | succ n ih =>
    intro I x2 h
    rw [b_X5_readSister_27] at h
    refine aw_iload_n (pc := 27) hX 2 dX5_readSister_27 rfl rfl ?_
    refine aw_bipush (pc := 28) hX (6 : Int32) dX5_readSister_28 (by decide) ?_
    refine aw_icmp_ge (pc := 30) hX 67 dX5_readSister_30 rfl (fun hc30 => ?_) (fun hc30 => ?_)
    · have h := ite_t h hc30
      exact AW.lo (t_X5_readSister_67 hX ha1 hZ I h) (And.intro (Or.inr rfl) (And.intro (Or.inr rfl) (And.intro (Or.inl rfl) trivial)))
    · have h := ite_f h hc30
      refine aw_aload_n (pc := 33) hX 1 dX5_readSister_33 rfl rfl ?_
      refine aw_getR (pc := 34) hX dX5_readSister_34 f_X5_86 rfl (csh0 ha1) (q := a1 + 3) (crf2 ha1) ?_
      refine aw_aload_n (pc := 37) hX 1 dX5_readSister_37 rfl rfl ?_
      refine aw_getI (pc := 38) hX dX5_readSister_38 f_X5_83 rfl (csh0 ha1) ?_
      refine aw_bipush (pc := 41) hX (6 : Int32) dX5_readSister_41 (by decide) ?_
      refine aw_imul (pc := 43) hX dX5_readSister_43 ?_
      refine aw_iload_n (pc := 44) hX 2 dX5_readSister_44 rfl rfl ?_
      refine aw_iadd (pc := 45) hX dX5_readSister_45 ?_
      refine aw_aload_n (pc := 46) hX 0 dX5_readSister_46 rfl rfl ?_
      refine aw_getR (pc := 47) hX dX5_readSister_47 f_X5_9 rfl (by rfl) (q := 2) (by rfl) ?_
      refine aw_aload_n (pc := 50) hX 0 dX5_readSister_50 rfl rfl ?_
      refine aw_getI (pc := 51) hX dX5_readSister_51 f_X5_22 rfl (by rfl) ?_
      refine aw_iload_n (pc := 54) hX 2 dX5_readSister_54 rfl rfl ?_
      refine aw_iadd (pc := 55) hX dX5_readSister_55 ?_
      obtain ⟨hv56, h⟩ := ite_g h
      refine aw_iaload (pc := 56) hX dX5_readSister_56 (by rfl) (vinb_in hv56) ?_
      refine aw_bipush (pc := 57) hX (97 : Int32) dX5_readSister_57 (by decide) ?_
      refine aw_isub (pc := 59) hX dX5_readSister_59 ?_
      obtain ⟨hv60, h⟩ := ite_g h
      refine aw_iastore (pc := 60) hX dX5_readSister_60 (csh3 ha1) (vinb_in hv60) ?_
      obtain ⟨I60, hi60, h⟩ := bind_s h
      refine AW.iEq hi60 ?_
      refine aw_iincE (pc := 61) hX (x2 + 1) [.ref 1, .ref a1, .int (x2 + 1)] dX5_readSister_61 rfl rfl (by decide) rfl rfl ?_
      refine aw_goto (pc := 64) hX 27 dX5_readSister_64 rfl ?_
      exact AW.lo (ih I60 (x2 + 1)  h) (And.intro (Or.inr rfl) (And.intro (Or.inr rfl) (And.intro (Or.inr rfl) trivial)))
def f_X5_readSister (a1 : Nat) (I : Hi)  : Option (Bool × Hi) := if (I (a1) 7) < (4 : Int32) then ((f_X5_step I).bind fun r11 => (f_X5_isRow r11 (6 : Int32)).bind fun r17 => if r17 = true then (b_X5_readSister_27 a1 2000 r11 (0 : Int32)) else (some (false, r11))) else (some (false, I))
set_option maxRecDepth 100000 in
set_option maxHeartbeats 4000000 in
theorem s_X5_readSister {G : GP} {a1 : Nat} (ha1 : isC a1) {c d : Nat} {I : Hi} {L : Hl}  {p : Bool × Hi} (h : f_X5_readSister a1 I = some p) : CD G mi_X5_readSister [.ref 1, .ref a1] S0 I (R0 c d) L (some (.int (bI p.1))) S0 p.2 (R0 c d) L := by
  refine CD.intro 1 rfl (by decide) rfl fun X hX hZ => ?_
  rw [f_X5_readSister] at h
  show AW G X 0 0 S0 I (R0 c d) L 0 [.ref 1, .ref a1, .null] []
  refine aw_aload_n (pc := 0) hX 1 dX5_readSister_0 rfl rfl ?_
  refine aw_getI (pc := 1) hX dX5_readSister_1 f_X5_83 rfl (csh0 ha1) ?_
  refine aw_iconst (pc := 4) hX (4 : Int32) dX5_readSister_4 (by decide) ?_
  refine aw_icmp_lt (pc := 5) hX 10 dX5_readSister_5 rfl (fun hc5 => ?_) (fun hc5 => ?_)
  · have h := ite_t h hc5
    refine aw_aload_n (pc := 10) hX 0 dX5_readSister_10 rfl rfl ?_
    obtain ⟨r11, hq11, h⟩ := bind_s h
    refine aw_V0v (pc := 11) hX h_X5_step l_X5_37 dX5_readSister_11 (by rfl) (by decide) (by rfl) rfl rfl rfl (Nat.le_of_ble_eq_true rfl) (s_X5_step  hq11) ?_
    refine aw_aload_n (pc := 14) hX 0 dX5_readSister_14 rfl rfl ?_
    refine aw_bipush (pc := 15) hX (6 : Int32) dX5_readSister_15 (by decide) ?_
    obtain ⟨r17, hq17, h⟩ := bind_s h
    refine aw_V1i (pc := 17) hX h_X5_isRow l_X5_75 dX5_readSister_17 (by rfl) (by decide) (by rfl) rfl rfl rfl (Nat.le_of_ble_eq_true rfl) (s_X5_isRow  hq17) ?_
    refine aw_if_ne (pc := 20) hX 25 dX5_readSister_20 rfl (fun hc20 => ?_) (fun hc20 => ?_)
    · have h := ite_t h (bI1 hc20)
      refine aw_iconst (pc := 25) hX (0 : Int32) dX5_readSister_25 (by decide) ?_
      refine aw_istore_nE (pc := 26) hX 2 [.ref 1, .ref a1, .int (0 : Int32)] dX5_readSister_26 rfl (by decide) rfl rfl ?_
      exact AW.lo (t_X5_readSister_27 hX ha1 hZ 2000 r11 (0 : Int32) h) (And.intro (Or.inr rfl) (And.intro (Or.inr rfl) (And.intro (Or.inr rfl) trivial)))
    · have h := ite_f h (bI0 hc20)
      refine aw_iconst (pc := 23) hX (0 : Int32) dX5_readSister_23 (by decide) ?_
      have e := Option.some.inj h
      subst e
      exact aw_zret hX hZ dX5_readSister_24 rfl (bI01 _) rfl rfl rfl rfl rfl rfl (Nat.le_refl _)
  · have h := ite_f h hc5
    refine aw_iconst (pc := 8) hX (0 : Int32) dX5_readSister_8 (by decide) ?_
    have e := Option.some.inj h
    subst e
    exact aw_zret hX hZ dX5_readSister_9 rfl (bI01 _) rfl rfl rfl rfl rfl rfl (Nat.le_refl _)
def b_X5_number_7 (I : Hi)  : Nat → Int32 → Int32 → Option (Int32)
  | 0, _, _ => none
  | n + 1, x1, x2 => if (I (1) 4) ≤ x2 then (some (x1)) else (if vinb x2 160 then b_X5_number_7 I n (((x1 * (10 : Int32)) + (I (2) (x2).toNatClampNeg)) - (48 : Int32)) (x2 + 1) else none)
set_option maxRecDepth 100000 in
set_option maxHeartbeats 4000000 in
theorem t_X5_number_7 {G : GP} {X : CX} (hX : XOK G X mi_X5_number) {c d : Nat} {I : Hi} {L : Hl} {p : Int32} (hZ : XZ G X mi_X5_number (some (.int p)) S0 I (R0 c d) L) : ∀ (n : Nat) (x1 : Int32) (x2 : Int32), b_X5_number_7 I n x1 x2 = some p → AW G X 0 0 S0 I (R0 c d) L 7 [.ref 1, .int x1, .int x2] [] := by
  intro n
  induction n with
  | zero => intro x1 x2 h; cases h
  | succ n ih =>
    intro x1 x2 h
    rw [b_X5_number_7] at h
    refine aw_iload_n (pc := 7) hX 2 dX5_number_7 rfl rfl ?_
    refine aw_aload_n (pc := 8) hX 0 dX5_number_8 rfl rfl ?_
    refine aw_getI (pc := 9) hX dX5_number_9 f_X5_25 rfl (by rfl) ?_
    refine aw_icmp_ge (pc := 12) hX 36 dX5_number_12 rfl (fun hc12 => ?_) (fun hc12 => ?_)
    · have h := ite_t h hc12
      refine aw_iload_n (pc := 36) hX 1 dX5_number_36 rfl rfl ?_
      have e := Option.some.inj h
      subst e
      exact aw_iret hX hZ dX5_number_37 rfl rfl rfl rfl rfl rfl rfl (Nat.le_refl _)
    · have h := ite_f h hc12
      refine aw_iload_n (pc := 15) hX 1 dX5_number_15 rfl rfl ?_
      refine aw_bipush (pc := 16) hX (10 : Int32) dX5_number_16 (by decide) ?_
      refine aw_imul (pc := 18) hX dX5_number_18 ?_
      refine aw_aload_n (pc := 19) hX 0 dX5_number_19 rfl rfl ?_
      refine aw_getR (pc := 20) hX dX5_number_20 f_X5_9 rfl (by rfl) (q := 2) (by rfl) ?_
      refine aw_iload_n (pc := 23) hX 2 dX5_number_23 rfl rfl ?_
      obtain ⟨hv24, h⟩ := ite_g h
      refine aw_iaload (pc := 24) hX dX5_number_24 (by rfl) (vinb_in hv24) ?_
      refine aw_iadd (pc := 25) hX dX5_number_25 ?_
      refine aw_bipush (pc := 26) hX (48 : Int32) dX5_number_26 (by decide) ?_
      refine aw_isub (pc := 28) hX dX5_number_28 ?_
      refine aw_istore_nE (pc := 29) hX 1 [.ref 1, .int (((x1 * (10 : Int32)) + (I (2) (x2).toNatClampNeg)) - (48 : Int32)), .int x2] dX5_number_29 rfl (by decide) rfl rfl ?_
      refine aw_iincE (pc := 30) hX (x2 + 1) [.ref 1, .int (((x1 * (10 : Int32)) + (I (2) (x2).toNatClampNeg)) - (48 : Int32)), .int (x2 + 1)] dX5_number_30 rfl rfl (by decide) rfl rfl ?_
      refine aw_goto (pc := 33) hX 7 dX5_number_33 rfl ?_
      exact AW.lo (ih (((x1 * (10 : Int32)) + (I (2) (x2).toNatClampNeg)) - (48 : Int32)) (x2 + 1)  h) (And.intro (Or.inr rfl) (And.intro (Or.inr rfl) (And.intro (Or.inr rfl) trivial)))
def f_X5_number (I : Hi)  : Option (Int32) := b_X5_number_7 I 2000 (0 : Int32) (I (1) 3)
set_option maxRecDepth 100000 in
set_option maxHeartbeats 4000000 in
theorem s_X5_number {G : GP} {c d : Nat} {I : Hi} {L : Hl}  {p : Int32} (h : f_X5_number I = some p) : CD G mi_X5_number [.ref 1] S0 I (R0 c d) L (some (.int p)) S0 I (R0 c d) L := by
  refine CD.intro 2 rfl (by decide) rfl fun X hX hZ => ?_
  rw [f_X5_number] at h
  show AW G X 0 0 S0 I (R0 c d) L 0 [.ref 1, .null, .null] []
  refine aw_iconst (pc := 0) hX (0 : Int32) dX5_number_0 (by decide) ?_
  refine aw_istore_nE (pc := 1) hX 1 [.ref 1, .int (0 : Int32), .null] dX5_number_1 rfl (by decide) rfl rfl ?_
  refine aw_aload_n (pc := 2) hX 0 dX5_number_2 rfl rfl ?_
  refine aw_getI (pc := 3) hX dX5_number_3 f_X5_22 rfl (by rfl) ?_
  refine aw_istore_nE (pc := 6) hX 2 [.ref 1, .int (0 : Int32), .int (I (1) 3)] dX5_number_6 rfl (by decide) rfl rfl ?_
  exact AW.lo (t_X5_number_7 hX hZ 2000 (0 : Int32) (I (1) 3) h) (And.intro (Or.inr rfl) (And.intro (Or.inr rfl) (And.intro (Or.inr rfl) trivial)))
def f_X5_isNumber (I : Hi) (x1 : Int32) (x2 : Int32) : Option (Bool) := if (I (1) 2) = (2 : Int32) then ((f_X5_number I).bind fun r9 => if r9 < x1 then (some (false)) else ((f_X5_number I).bind fun r17 => if x2 < r17 then (some (false)) else (some (true)))) else (some (false))
set_option maxRecDepth 100000 in
set_option maxHeartbeats 4000000 in
theorem s_X5_isNumber {G : GP} {c d : Nat} {I : Hi} {L : Hl} {x1 : Int32} {x2 : Int32} {p : Bool} (h : f_X5_isNumber I x1 x2 = some p) : CD G mi_X5_isNumber [.ref 1, .int x1, .int x2] S0 I (R0 c d) L (some (.int (bI p))) S0 I (R0 c d) L := by
  refine CD.intro 0 rfl (by decide) rfl fun X hX hZ => ?_
  rw [f_X5_isNumber] at h
  show AW G X 0 0 S0 I (R0 c d) L 0 [.ref 1, .int x1, .int x2] []
  refine aw_aload_n (pc := 0) hX 0 dX5_isNumber_0 rfl rfl ?_
  refine aw_getI (pc := 1) hX dX5_isNumber_1 f_X5_19 rfl (by rfl) ?_
  refine aw_iconst (pc := 4) hX (2 : Int32) dX5_isNumber_4 (by decide) ?_
  refine aw_icmp_ne (pc := 5) hX 28 dX5_isNumber_5 rfl (fun hc5 => ?_) (fun hc5 => ?_)
  · have h := ite_f h hc5
    refine aw_iconst (pc := 28) hX (0 : Int32) dX5_isNumber_28 (by decide) ?_
    have e := Option.some.inj h
    subst e
    exact aw_zret hX hZ dX5_isNumber_29 rfl (bI01 _) rfl rfl rfl rfl rfl rfl (Nat.le_refl _)
  · have h := ite_t h hc5
    refine aw_aload_n (pc := 8) hX 0 dX5_isNumber_8 rfl rfl ?_
    obtain ⟨r9, hq9, h⟩ := bind_s h
    refine aw_V0i (pc := 9) hX h_X5_number l_X5_96 dX5_isNumber_9 (by rfl) (by decide) (by rfl) rfl rfl rfl (Nat.le_of_ble_eq_true rfl) (s_X5_number  hq9) ?_
    refine aw_iload_n (pc := 12) hX 1 dX5_isNumber_12 rfl rfl ?_
    refine aw_icmp_lt (pc := 13) hX 28 dX5_isNumber_13 rfl (fun hc13 => ?_) (fun hc13 => ?_)
    · have h := ite_t h hc13
      refine aw_iconst (pc := 28) hX (0 : Int32) dX5_isNumber_28 (by decide) ?_
      have e := Option.some.inj h
      subst e
      exact aw_zret hX hZ dX5_isNumber_29 rfl (bI01 _) rfl rfl rfl rfl rfl rfl (Nat.le_refl _)
    · have h := ite_f h hc13
      refine aw_aload_n (pc := 16) hX 0 dX5_isNumber_16 rfl rfl ?_
      obtain ⟨r17, hq17, h⟩ := bind_s h
      refine aw_V0i (pc := 17) hX h_X5_number l_X5_96 dX5_isNumber_17 (by rfl) (by decide) (by rfl) rfl rfl rfl (Nat.le_of_ble_eq_true rfl) (s_X5_number  hq17) ?_
      refine aw_iload_n (pc := 20) hX 2 dX5_isNumber_20 rfl rfl ?_
      refine aw_icmp_gt (pc := 21) hX 28 dX5_isNumber_21 rfl (fun hc21 => ?_) (fun hc21 => ?_)
      · have h := ite_t h hc21
        refine aw_iconst (pc := 28) hX (0 : Int32) dX5_isNumber_28 (by decide) ?_
        have e := Option.some.inj h
        subst e
        exact aw_zret hX hZ dX5_isNumber_29 rfl (bI01 _) rfl rfl rfl rfl rfl rfl (Nat.le_refl _)
      · have h := ite_f h hc21
        refine aw_iconst (pc := 24) hX (1 : Int32) dX5_isNumber_24 (by decide) ?_
        refine aw_goto (pc := 25) hX 29 dX5_isNumber_25 rfl ?_
        have e := Option.some.inj h
        subst e
        exact aw_zret hX hZ dX5_isNumber_29 rfl (bI01 _) rfl rfl rfl rfl rfl rfl (Nat.le_refl _)
def f_X5_readFriday (a1 : Nat) (I : Hi)  : Option (Bool × Hi) := if (I (a1) 8) < (3 : Int32) then ((f_X5_step I).bind fun r11 => (f_X5_isNumber r11 (2 : Int32) (12 : Int32)).bind fun r18 => if r18 = true then ((f_X5_number r11).bind fun r27 => (f_X5_step r11).bind fun r32 => (f_X5_isNumber r32 (0 : Int32) (r27 - (1 : Int32))).bind fun r40 => if r40 = true then (if vinb (r32 (a1) 8) 3 then (some (u2 r32 (a1 + 4) ((r32 (a1) 8)).toNatClampNeg r27)).bind fun I57 => (f_X5_number I57).bind fun r67 => if vinb (I57 (a1) 8) 3 then (some (u2 I57 (a1 + 5) ((I57 (a1) 8)).toNatClampNeg r67)).bind fun I70 => (some (u2 I70 (a1) 8 ((I70 (a1) 8) + (1 : Int32)))).bind fun I78 => (f_X5_step I78).bind fun r82 => some (true, r82) else none else none) else (some (false, r32))) else (some (false, r11))) else (some (false, I))
set_option maxRecDepth 100000 in
set_option maxHeartbeats 4000000 in
theorem s_X5_readFriday {G : GP} {a1 : Nat} (ha1 : isC a1) {c d : Nat} {I : Hi} {L : Hl}  {p : Bool × Hi} (h : f_X5_readFriday a1 I = some p) : CD G mi_X5_readFriday [.ref 1, .ref a1] S0 I (R0 c d) L (some (.int (bI p.1))) S0 p.2 (R0 c d) L := by
  refine CD.intro 1 rfl (by decide) rfl fun X hX hZ => ?_
  rw [f_X5_readFriday] at h
  show AW G X 0 0 S0 I (R0 c d) L 0 [.ref 1, .ref a1, .null] []
  refine aw_aload_n (pc := 0) hX 1 dX5_readFriday_0 rfl rfl ?_
  refine aw_getI (pc := 1) hX dX5_readFriday_1 f_X5_89 rfl (csh0 ha1) ?_
  refine aw_iconst (pc := 4) hX (3 : Int32) dX5_readFriday_4 (by decide) ?_
  refine aw_icmp_lt (pc := 5) hX 10 dX5_readFriday_5 rfl (fun hc5 => ?_) (fun hc5 => ?_)
  · have h := ite_t h hc5
    refine aw_aload_n (pc := 10) hX 0 dX5_readFriday_10 rfl rfl ?_
    obtain ⟨r11, hq11, h⟩ := bind_s h
    refine aw_V0v (pc := 11) hX h_X5_step l_X5_37 dX5_readFriday_11 (by rfl) (by decide) (by rfl) rfl rfl rfl (Nat.le_of_ble_eq_true rfl) (s_X5_step  hq11) ?_
    refine aw_aload_n (pc := 14) hX 0 dX5_readFriday_14 rfl rfl ?_
    refine aw_iconst (pc := 15) hX (2 : Int32) dX5_readFriday_15 (by decide) ?_
    refine aw_bipush (pc := 16) hX (12 : Int32) dX5_readFriday_16 (by decide) ?_
    obtain ⟨r18, hq18, h⟩ := bind_s h
    refine aw_V2i (pc := 18) hX h_X5_isNumber l_X5_92 dX5_readFriday_18 (by rfl) (by decide) (by rfl) rfl rfl rfl (Nat.le_of_ble_eq_true rfl) (s_X5_isNumber  hq18) ?_
    refine aw_if_ne (pc := 21) hX 26 dX5_readFriday_21 rfl (fun hc21 => ?_) (fun hc21 => ?_)
    · have h := ite_t h (bI1 hc21)
      refine aw_aload_n (pc := 26) hX 0 dX5_readFriday_26 rfl rfl ?_
      obtain ⟨r27, hq27, h⟩ := bind_s h
      refine aw_V0i (pc := 27) hX h_X5_number l_X5_96 dX5_readFriday_27 (by rfl) (by decide) (by rfl) rfl rfl rfl (Nat.le_of_ble_eq_true rfl) (s_X5_number  hq27) ?_
      refine aw_istore_nE (pc := 30) hX 2 [.ref 1, .ref a1, .int r27] dX5_readFriday_30 rfl (by decide) rfl rfl ?_
      refine aw_aload_n (pc := 31) hX 0 dX5_readFriday_31 rfl rfl ?_
      obtain ⟨r32, hq32, h⟩ := bind_s h
      refine aw_V0v (pc := 32) hX h_X5_step l_X5_37 dX5_readFriday_32 (by rfl) (by decide) (by rfl) rfl rfl rfl (Nat.le_of_ble_eq_true rfl) (s_X5_step  hq32) ?_
      refine aw_aload_n (pc := 35) hX 0 dX5_readFriday_35 rfl rfl ?_
      refine aw_iconst (pc := 36) hX (0 : Int32) dX5_readFriday_36 (by decide) ?_
      refine aw_iload_n (pc := 37) hX 2 dX5_readFriday_37 rfl rfl ?_
      refine aw_iconst (pc := 38) hX (1 : Int32) dX5_readFriday_38 (by decide) ?_
      refine aw_isub (pc := 39) hX dX5_readFriday_39 ?_
      obtain ⟨r40, hq40, h⟩ := bind_s h
      refine aw_V2i (pc := 40) hX h_X5_isNumber l_X5_92 dX5_readFriday_40 (by rfl) (by decide) (by rfl) rfl rfl rfl (Nat.le_of_ble_eq_true rfl) (s_X5_isNumber  hq40) ?_
      refine aw_if_ne (pc := 43) hX 48 dX5_readFriday_43 rfl (fun hc43 => ?_) (fun hc43 => ?_)
      · have h := ite_t h (bI1 hc43)
        refine aw_aload_n (pc := 48) hX 1 dX5_readFriday_48 rfl rfl ?_
        refine aw_getR (pc := 49) hX dX5_readFriday_49 f_X5_99 rfl (csh0 ha1) (q := a1 + 4) (crf3 ha1) ?_
        refine aw_aload_n (pc := 52) hX 1 dX5_readFriday_52 rfl rfl ?_
        refine aw_getI (pc := 53) hX dX5_readFriday_53 f_X5_89 rfl (csh0 ha1) ?_
        refine aw_iload_n (pc := 56) hX 2 dX5_readFriday_56 rfl rfl ?_
        obtain ⟨hv57, h⟩ := ite_g h
        refine aw_iastore (pc := 57) hX dX5_readFriday_57 (csh4 ha1) (vinb_in hv57) ?_
        obtain ⟨I57, hi57, h⟩ := bind_s h
        refine AW.iEq hi57 ?_
        refine aw_aload_n (pc := 58) hX 1 dX5_readFriday_58 rfl rfl ?_
        refine aw_getR (pc := 59) hX dX5_readFriday_59 f_X5_102 rfl (csh0 ha1) (q := a1 + 5) (crf4 ha1) ?_
        refine aw_aload_n (pc := 62) hX 1 dX5_readFriday_62 rfl rfl ?_
        refine aw_getI (pc := 63) hX dX5_readFriday_63 f_X5_89 rfl (csh0 ha1) ?_
        refine aw_aload_n (pc := 66) hX 0 dX5_readFriday_66 rfl rfl ?_
        obtain ⟨r67, hq67, h⟩ := bind_s h
        refine aw_V0i (pc := 67) hX h_X5_number l_X5_96 dX5_readFriday_67 (by rfl) (by decide) (by rfl) rfl rfl rfl (Nat.le_of_ble_eq_true rfl) (s_X5_number  hq67) ?_
        obtain ⟨hv70, h⟩ := ite_g h
        refine aw_iastore (pc := 70) hX dX5_readFriday_70 (csh5 ha1) (vinb_in hv70) ?_
        obtain ⟨I70, hi70, h⟩ := bind_s h
        refine AW.iEq hi70 ?_
        refine aw_aload_n (pc := 71) hX 1 dX5_readFriday_71 rfl rfl ?_
        refine aw_dup (pc := 72) hX dX5_readFriday_72 rfl ?_
        refine aw_getI (pc := 73) hX dX5_readFriday_73 f_X5_89 rfl (csh0 ha1) ?_
        refine aw_iconst (pc := 76) hX (1 : Int32) dX5_readFriday_76 (by decide) ?_
        refine aw_iadd (pc := 77) hX dX5_readFriday_77 ?_
        refine aw_putI (pc := 78) hX dX5_readFriday_78 f_X5_89 rfl rfl (by first | rfl | decide) (by first | rfl | decide) (csh0 ha1) ?_
        obtain ⟨I78, hi78, h⟩ := bind_s h
        refine AW.iEq hi78 ?_
        refine aw_aload_n (pc := 81) hX 0 dX5_readFriday_81 rfl rfl ?_
        obtain ⟨r82, hq82, h⟩ := bind_s h
        refine aw_V0v (pc := 82) hX h_X5_step l_X5_37 dX5_readFriday_82 (by rfl) (by decide) (by rfl) rfl rfl rfl (Nat.le_of_ble_eq_true rfl) (s_X5_step  hq82) ?_
        refine aw_iconst (pc := 85) hX (1 : Int32) dX5_readFriday_85 (by decide) ?_
        have e := Option.some.inj h
        subst e
        exact aw_zret hX hZ dX5_readFriday_86 rfl (bI01 _) rfl rfl rfl rfl rfl rfl (Nat.le_refl _)
      · have h := ite_f h (bI0 hc43)
        refine aw_iconst (pc := 46) hX (0 : Int32) dX5_readFriday_46 (by decide) ?_
        have e := Option.some.inj h
        subst e
        exact aw_zret hX hZ dX5_readFriday_47 rfl (bI01 _) rfl rfl rfl rfl rfl rfl (Nat.le_refl _)
    · have h := ite_f h (bI0 hc21)
      refine aw_iconst (pc := 24) hX (0 : Int32) dX5_readFriday_24 (by decide) ?_
      have e := Option.some.inj h
      subst e
      exact aw_zret hX hZ dX5_readFriday_25 rfl (bI01 _) rfl rfl rfl rfl rfl rfl (Nat.le_refl _)
  · have h := ite_f h hc5
    refine aw_iconst (pc := 8) hX (0 : Int32) dX5_readFriday_8 (by decide) ?_
    have e := Option.some.inj h
    subst e
    exact aw_zret hX hZ dX5_readFriday_9 rfl (bI01 _) rfl rfl rfl rfl rfl rfl (Nat.le_refl _)
