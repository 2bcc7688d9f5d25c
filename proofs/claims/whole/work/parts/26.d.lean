def f_X7_type (I : Hi) (x1 : Int32) : Option (Int32 × Hi) := (f_X7_in (x1).toInt64 (0 : Int64) (255 : Int64)).bind fun r6 => if r6 = true then (if (I (77) 19) = (160 : Int32) then (some ((-3 : Int32), I)) else (if vinb (I (77) 19) 160 then (some (u2 I (88) ((I (77) 19)).toNatClampNeg x1)).bind fun I36 => (some (u2 I36 (77) 19 ((I36 (77) 19) + (1 : Int32)))).bind fun I44 => some ((I44 (77) 19), I44) else none)) else (some ((-1 : Int32), I))
set_option maxRecDepth 100000 in
set_option maxHeartbeats 4000000 in
theorem s_X7_type {G : GP} {c d : Nat} {I : Hi} {L : Hl} {x1 : Int32} {p : Int32 × Hi} (h : f_X7_type I x1 = some p) : CD G mi_X7_type [.ref 77, .int x1] S0 I (R0 c d) L (some (.int p.1)) S0 p.2 (R0 c d) L := by
  refine CD.intro 0 rfl (by decide) rfl fun X hX hZ => ?_
  rw [f_X7_type] at h
  show AW G X 0 0 S0 I (R0 c d) L 0 [.ref 77, .int x1] []
  refine aw_iload_n (pc := 0) hX 1 dX7_type_0 rfl rfl ?_
  refine aw_i2l (pc := 1) hX dX7_type_1 ?_
  refine aw_lconst (pc := 2) hX (0 : Int64) dX7_type_2 (by decide) ?_
  refine aw_ldc2 (pc := 3) hX dX7_type_3 v_X7_73 ?_
  obtain ⟨r6, hq6, h⟩ := bind_s h
  refine aw_S3i (pc := 6) hX h_X7_in l_X7_75 dX7_type_6 rfl rfl rfl (Nat.le_of_ble_eq_true rfl) (s_X7_in  hq6) ?_
  refine aw_if_ne (pc := 9) hX 14 dX7_type_9 rfl (fun hc9 => ?_) (fun hc9 => ?_)
  · have h := ite_t h (bI1 hc9)
    refine aw_aload_n (pc := 14) hX 0 dX7_type_14 rfl rfl ?_
    refine aw_getI (pc := 15) hX dX7_type_15 f_X7_79 rfl (by rfl) ?_
    refine aw_sipush (pc := 18) hX (160 : Int32) dX7_type_18 (by decide) ?_
    refine aw_icmp_ne (pc := 21) hX 27 dX7_type_21 rfl (fun hc21 => ?_) (fun hc21 => ?_)
    · have h := ite_f h hc21
      refine aw_aload_n (pc := 27) hX 0 dX7_type_27 rfl rfl ?_
      refine aw_getR (pc := 28) hX dX7_type_28 f_X7_45 rfl (by rfl) (q := 88) (by rfl) ?_
      refine aw_aload_n (pc := 31) hX 0 dX7_type_31 rfl rfl ?_
      refine aw_getI (pc := 32) hX dX7_type_32 f_X7_79 rfl (by rfl) ?_
      refine aw_iload_n (pc := 35) hX 1 dX7_type_35 rfl rfl ?_
      obtain ⟨hv36, h⟩ := ite_g h
      refine aw_iastore (pc := 36) hX dX7_type_36 (by rfl) (vinb_in hv36) ?_
      obtain ⟨I36, hi36, h⟩ := bind_s h
      refine AW.iEq hi36 ?_
      refine aw_aload_n (pc := 37) hX 0 dX7_type_37 rfl rfl ?_
      refine aw_dup (pc := 38) hX dX7_type_38 rfl ?_
      refine aw_getI (pc := 39) hX dX7_type_39 f_X7_79 rfl (by rfl) ?_
      refine aw_iconst (pc := 42) hX (1 : Int32) dX7_type_42 (by decide) ?_
      refine aw_iadd (pc := 43) hX dX7_type_43 ?_
      refine aw_putI (pc := 44) hX dX7_type_44 f_X7_79 rfl rfl (by first | rfl | decide) (by first | rfl | decide) (by rfl) ?_
      obtain ⟨I44, hi44, h⟩ := bind_s h
      refine AW.iEq hi44 ?_
      refine aw_aload_n (pc := 47) hX 0 dX7_type_47 rfl rfl ?_
      refine aw_getI (pc := 48) hX dX7_type_48 f_X7_79 rfl (by rfl) ?_
      have e := Option.some.inj h
      subst e
      exact aw_iret hX hZ dX7_type_51 rfl rfl rfl rfl rfl rfl rfl (Nat.le_refl _)
    · have h := ite_t h hc21
      refine aw_bipush (pc := 24) hX (-3 : Int32) dX7_type_24 (by decide) ?_
      have e := Option.some.inj h
      subst e
      exact aw_iret hX hZ dX7_type_26 rfl rfl rfl rfl rfl rfl rfl (Nat.le_refl _)
  · have h := ite_f h (bI0 hc9)
    refine aw_iconst (pc := 12) hX (-1 : Int32) dX7_type_12 (by decide) ?_
    have e := Option.some.inj h
    subst e
    exact aw_iret hX hZ dX7_type_13 rfl rfl rfl rfl rfl rfl rfl (Nat.le_refl _)
def f_X7_clear (I : Hi)  : Option (Int32 × Hi) := (some (u2 I (77) 19 (0 : Int32))).bind fun I7 => some ((I (77) 19), I7)
set_option maxRecDepth 100000 in
set_option maxHeartbeats 4000000 in
theorem s_X7_clear {G : GP} {c d : Nat} {I : Hi} {L : Hl}  {p : Int32 × Hi} (h : f_X7_clear I = some p) : CD G mi_X7_clear [.ref 77] S0 I (R0 c d) L (some (.int p.1)) S0 p.2 (R0 c d) L := by
  refine CD.intro 1 rfl (by decide) rfl fun X hX hZ => ?_
  rw [f_X7_clear] at h
  show AW G X 0 0 S0 I (R0 c d) L 0 [.ref 77, .null] []
  refine aw_aload_n (pc := 0) hX 0 dX7_clear_0 rfl rfl ?_
  refine aw_getI (pc := 1) hX dX7_clear_1 f_X7_79 rfl (by rfl) ?_
  refine aw_istore_nE (pc := 4) hX 1 [.ref 77, .int (I (77) 19)] dX7_clear_4 rfl (by decide) rfl rfl ?_
  refine aw_aload_n (pc := 5) hX 0 dX7_clear_5 rfl rfl ?_
  refine aw_iconst (pc := 6) hX (0 : Int32) dX7_clear_6 (by decide) ?_
  refine aw_putI (pc := 7) hX dX7_clear_7 f_X7_79 rfl rfl (by first | rfl | decide) (by first | rfl | decide) (by rfl) ?_
  obtain ⟨I7, hi7, h⟩ := bind_s h
  refine AW.iEq hi7 ?_
  refine aw_iload_n (pc := 10) hX 1 dX7_clear_10 rfl rfl ?_
  have e := Option.some.inj h
  subst e
  exact aw_iret hX hZ dX7_clear_11 rfl rfl rfl rfl rfl rfl rfl (Nat.le_refl _)
def f_X7_here (I : Hi)  : Option (Int32) := if (I (77) 19) ≤ (I (77) 20) then (some ((-1 : Int32))) else (if vinb (I (77) 20) 160 then some ((I (88) ((I (77) 20)).toNatClampNeg)) else none)
set_option maxRecDepth 100000 in
set_option maxHeartbeats 4000000 in
theorem s_X7_here {G : GP} {c d : Nat} {I : Hi} {L : Hl}  {p : Int32} (h : f_X7_here I = some p) : CD G mi_X7_here [.ref 77] S0 I (R0 c d) L (some (.int p)) S0 I (R0 c d) L := by
  refine CD.intro 0 rfl (by decide) rfl fun X hX hZ => ?_
  rw [f_X7_here] at h
  show AW G X 0 0 S0 I (R0 c d) L 0 [.ref 77] []
  refine aw_aload_n (pc := 0) hX 0 dX7_here_0 rfl rfl ?_
  refine aw_getI (pc := 1) hX dX7_here_1 f_X7_82 rfl (by rfl) ?_
  refine aw_aload_n (pc := 4) hX 0 dX7_here_4 rfl rfl ?_
  refine aw_getI (pc := 5) hX dX7_here_5 f_X7_79 rfl (by rfl) ?_
  refine aw_icmp_ge (pc := 8) hX 23 dX7_here_8 rfl (fun hc8 => ?_) (fun hc8 => ?_)
  · have h := ite_t h hc8
    refine aw_iconst (pc := 23) hX (-1 : Int32) dX7_here_23 (by decide) ?_
    have e := Option.some.inj h
    subst e
    exact aw_iret hX hZ dX7_here_24 rfl rfl rfl rfl rfl rfl rfl (Nat.le_refl _)
  · have h := ite_f h hc8
    refine aw_aload_n (pc := 11) hX 0 dX7_here_11 rfl rfl ?_
    refine aw_getR (pc := 12) hX dX7_here_12 f_X7_45 rfl (by rfl) (q := 88) (by rfl) ?_
    refine aw_aload_n (pc := 15) hX 0 dX7_here_15 rfl rfl ?_
    refine aw_getI (pc := 16) hX dX7_here_16 f_X7_82 rfl (by rfl) ?_
    obtain ⟨hv19, h⟩ := ite_g h
    refine aw_iaload (pc := 19) hX dX7_here_19 (by rfl) (vinb_in hv19) ?_
    refine aw_goto (pc := 20) hX 24 dX7_here_20 rfl ?_
    have e := Option.some.inj h
    subst e
    exact aw_iret hX hZ dX7_here_24 rfl rfl rfl rfl rfl rfl rfl (Nat.le_refl _)
def f_X7_isLetter (I : Hi)  : Option (Bool) := (f_X7_here I).bind fun r1 => (f_X7_in (r1).toInt64 (97 : Int64) (122 : Int64)).bind fun r11 => some (r11)
set_option maxRecDepth 100000 in
set_option maxHeartbeats 4000000 in
theorem s_X7_isLetter {G : GP} {c d : Nat} {I : Hi} {L : Hl}  {p : Bool} (h : f_X7_isLetter I = some p) : CD G mi_X7_isLetter [.ref 77] S0 I (R0 c d) L (some (.int (bI p))) S0 I (R0 c d) L := by
  refine CD.intro 0 rfl (by decide) rfl fun X hX hZ => ?_
  rw [f_X7_isLetter] at h
  show AW G X 0 0 S0 I (R0 c d) L 0 [.ref 77] []
  refine aw_aload_n (pc := 0) hX 0 dX7_isLetter_0 rfl rfl ?_
  obtain ⟨r1, hq1, h⟩ := bind_s h
  refine aw_V0i (pc := 1) hX h_X7_here l_X7_85 dX7_isLetter_1 (by rfl) (by decide) (by rfl) rfl rfl rfl (Nat.le_of_ble_eq_true rfl) (s_X7_here  hq1) ?_
  refine aw_i2l (pc := 4) hX dX7_isLetter_4 ?_
  refine aw_ldc2 (pc := 5) hX dX7_isLetter_5 v_X7_89 ?_
  refine aw_ldc2 (pc := 8) hX dX7_isLetter_8 v_X7_91 ?_
  obtain ⟨r11, hq11, h⟩ := bind_s h
  refine aw_S3i (pc := 11) hX h_X7_in l_X7_75 dX7_isLetter_11 rfl rfl rfl (Nat.le_of_ble_eq_true rfl) (s_X7_in  hq11) ?_
  have e := Option.some.inj h
  subst e
  exact aw_zret hX hZ dX7_isLetter_14 rfl (bI01 _) rfl rfl rfl rfl rfl rfl (Nat.le_refl _)
def f_X7_isFigure (I : Hi)  : Option (Bool) := (f_X7_here I).bind fun r1 => (f_X7_in (r1).toInt64 (48 : Int64) (57 : Int64)).bind fun r11 => some (r11)
set_option maxRecDepth 100000 in
set_option maxHeartbeats 4000000 in
theorem s_X7_isFigure {G : GP} {c d : Nat} {I : Hi} {L : Hl}  {p : Bool} (h : f_X7_isFigure I = some p) : CD G mi_X7_isFigure [.ref 77] S0 I (R0 c d) L (some (.int (bI p))) S0 I (R0 c d) L := by
  refine CD.intro 0 rfl (by decide) rfl fun X hX hZ => ?_
  rw [f_X7_isFigure] at h
  show AW G X 0 0 S0 I (R0 c d) L 0 [.ref 77] []
  refine aw_aload_n (pc := 0) hX 0 dX7_isFigure_0 rfl rfl ?_
  obtain ⟨r1, hq1, h⟩ := bind_s h
  refine aw_V0i (pc := 1) hX h_X7_here l_X7_85 dX7_isFigure_1 (by rfl) (by decide) (by rfl) rfl rfl rfl (Nat.le_of_ble_eq_true rfl) (s_X7_here  hq1) ?_
  refine aw_i2l (pc := 4) hX dX7_isFigure_4 ?_
  refine aw_ldc2 (pc := 5) hX dX7_isFigure_5 v_X7_93 ?_
  refine aw_ldc2 (pc := 8) hX dX7_isFigure_8 v_X7_95 ?_
  obtain ⟨r11, hq11, h⟩ := bind_s h
  refine aw_S3i (pc := 11) hX h_X7_in l_X7_75 dX7_isFigure_11 rfl rfl rfl (Nat.le_of_ble_eq_true rfl) (s_X7_in  hq11) ?_
  have e := Option.some.inj h
  subst e
  exact aw_zret hX hZ dX7_isFigure_14 rfl (bI01 _) rfl rfl rfl rfl rfl rfl (Nat.le_refl _)
def b_X7_readsFigures_102   (I : Hi) (xs0 : Int32) : Option (Hi) := (some (u2 I (77) 22 xs0)).bind fun I102 => some (I102)
set_option maxRecDepth 100000 in
set_option maxHeartbeats 4000000 in
theorem t_X7_readsFigures_102 {G : GP} {X : CX} (hX : XOK G X mi_X7_readsFigures) {c d : Nat} {L : Hl} {p : Hi} (hZ : XZ G X mi_X7_readsFigures none S0 p (R0 c d) L) (I : Hi) (xs0 : Int32) (h : b_X7_readsFigures_102 I xs0 = some p) : AW G X 0 0 S0 I (R0 c d) L 102 [.null, .null] [.int xs0, .ref 77] := by
  rw [b_X7_readsFigures_102] at h
  refine aw_putI (pc := 102) hX dX7_readsFigures_102 f_X7_103 rfl rfl (by first | rfl | decide) (by first | rfl | decide) (by rfl) ?_
  obtain ⟨I102, hi102, h⟩ := bind_s h
  refine AW.iEq hi102 ?_
  have e := Option.some.inj h
  subst e
  exact aw_vret hX hZ dX7_readsFigures_105 rfl rfl rfl rfl rfl rfl (Nat.le_refl _)
def b_X7_readsFigures_101   (I : Hi) : Option (Hi) := b_X7_readsFigures_102 I (2 : Int32)
set_option maxRecDepth 100000 in
set_option maxHeartbeats 4000000 in
theorem t_X7_readsFigures_101 {G : GP} {X : CX} (hX : XOK G X mi_X7_readsFigures) {c d : Nat} {L : Hl} {p : Hi} (hZ : XZ G X mi_X7_readsFigures none S0 p (R0 c d) L) (I : Hi) (h : b_X7_readsFigures_101 I = some p) : AW G X 0 0 S0 I (R0 c d) L 101 [.null, .null] [.ref 77] := by
  rw [b_X7_readsFigures_101] at h
  refine aw_iconst (pc := 101) hX (2 : Int32) dX7_readsFigures_101 (by decide) ?_
  exact AW.lo (t_X7_readsFigures_102 hX hZ I (2 : Int32) h) (And.intro (Or.inl rfl) (And.intro (Or.inl rfl) trivial))
def b_X7_readsFigures_97   (I : Hi) : Option (Hi) := b_X7_readsFigures_102 I (4 : Int32)
set_option maxRecDepth 100000 in
set_option maxHeartbeats 4000000 in
theorem t_X7_readsFigures_97 {G : GP} {X : CX} (hX : XOK G X mi_X7_readsFigures) {c d : Nat} {L : Hl} {p : Hi} (hZ : XZ G X mi_X7_readsFigures none S0 p (R0 c d) L) (I : Hi) (h : b_X7_readsFigures_97 I = some p) : AW G X 0 0 S0 I (R0 c d) L 97 [.null, .null] [.ref 77] := by
  rw [b_X7_readsFigures_97] at h
  refine aw_iconst (pc := 97) hX (4 : Int32) dX7_readsFigures_97 (by decide) ?_
  refine aw_goto (pc := 98) hX 102 dX7_readsFigures_98 rfl ?_
  exact AW.lo (t_X7_readsFigures_102 hX hZ I (4 : Int32) h) (And.intro (Or.inl rfl) (And.intro (Or.inl rfl) trivial))
def b_X7_readsFigures_70   (I : Hi) (b1 : Bool) : Option (Hi) := if (99 : Int32) < (I (77) 23) then (b_X7_readsFigures_97 I) else (if b1 = true then (if ((I (77) 20) - (I (77) 21)) ≤ (1 : Int32) then (b_X7_readsFigures_101 I) else (b_X7_readsFigures_97 I)) else (b_X7_readsFigures_101 I))
set_option maxRecDepth 100000 in
set_option maxHeartbeats 4000000 in
theorem t_X7_readsFigures_70 {G : GP} {X : CX} (hX : XOK G X mi_X7_readsFigures) {c d : Nat} {L : Hl} {p : Hi} (hZ : XZ G X mi_X7_readsFigures none S0 p (R0 c d) L) (I : Hi) (b1 : Bool) (h : b_X7_readsFigures_70 I b1 = some p) : AW G X 0 0 S0 I (R0 c d) L 70 [.ref 77, .int (bI b1)] [] := by
  rw [b_X7_readsFigures_70] at h
  refine aw_aload_n (pc := 70) hX 0 dX7_readsFigures_70 rfl rfl ?_
  refine aw_aload_n (pc := 71) hX 0 dX7_readsFigures_71 rfl rfl ?_
  refine aw_getI (pc := 72) hX dX7_readsFigures_72 f_X7_100 rfl (by rfl) ?_
  refine aw_bipush (pc := 75) hX (99 : Int32) dX7_readsFigures_75 (by decide) ?_
  refine aw_icmp_gt (pc := 77) hX 97 dX7_readsFigures_77 rfl (fun hc77 => ?_) (fun hc77 => ?_)
  · have h := ite_t h hc77
    exact AW.lo (t_X7_readsFigures_97 hX hZ I h) (And.intro (Or.inl rfl) (And.intro (Or.inl rfl) trivial))
  · have h := ite_f h hc77
    refine aw_iload_n (pc := 80) hX 1 dX7_readsFigures_80 rfl rfl ?_
    refine aw_if_eq (pc := 81) hX 101 dX7_readsFigures_81 rfl (fun hc81 => ?_) (fun hc81 => ?_)
    · have h := ite_f h (bI0 hc81)
      exact AW.lo (t_X7_readsFigures_101 hX hZ I h) (And.intro (Or.inl rfl) (And.intro (Or.inl rfl) trivial))
    · have h := ite_t h (bI1 hc81)
      refine aw_aload_n (pc := 84) hX 0 dX7_readsFigures_84 rfl rfl ?_
      refine aw_getI (pc := 85) hX dX7_readsFigures_85 f_X7_82 rfl (by rfl) ?_
      refine aw_aload_n (pc := 88) hX 0 dX7_readsFigures_88 rfl rfl ?_
      refine aw_getI (pc := 89) hX dX7_readsFigures_89 f_X7_97 rfl (by rfl) ?_
      refine aw_isub (pc := 92) hX dX7_readsFigures_92 ?_
      refine aw_iconst (pc := 93) hX (1 : Int32) dX7_readsFigures_93 (by decide) ?_
      refine aw_icmp_le (pc := 94) hX 101 dX7_readsFigures_94 rfl (fun hc94 => ?_) (fun hc94 => ?_)
      · have h := ite_t h hc94
        exact AW.lo (t_X7_readsFigures_101 hX hZ I h) (And.intro (Or.inl rfl) (And.intro (Or.inl rfl) trivial))
      · have h := ite_f h hc94
        exact AW.lo (t_X7_readsFigures_97 hX hZ I h) (And.intro (Or.inl rfl) (And.intro (Or.inl rfl) trivial))
def b_X7_readsFigures_54  (k15 : Hi → Bool → Option (Hi)) (I : Hi) (b1 : Bool) (xs0 : Int32) : Option (Hi) := (some (u2 I (77) 23 xs0)).bind fun I54 => (some (u2 I54 (77) 20 ((I54 (77) 20) + (1 : Int32)))).bind fun I64 => k15 I64 b1
set_option maxRecDepth 100000 in
set_option maxHeartbeats 4000000 in
theorem t_X7_readsFigures_54 {G : GP} {X : CX} (hX : XOK G X mi_X7_readsFigures) {c d : Nat} {L : Hl} {p : Hi} (hZ : XZ G X mi_X7_readsFigures none S0 p (R0 c d) L) {k15 : Hi → Bool → Option (Hi)} (hk15 : ∀ (I : Hi) (b1 : Bool), k15 I b1 = some p → AW G X 0 0 S0 I (R0 c d) L 15 [.ref 77, .int (bI b1)] []) (I : Hi) (b1 : Bool) (xs0 : Int32) (h : b_X7_readsFigures_54 k15 I b1 xs0 = some p) : AW G X 0 0 S0 I (R0 c d) L 54 [.ref 77, .int (bI b1)] [.int xs0, .ref 77] := by
  rw [b_X7_readsFigures_54] at h
  refine aw_putI (pc := 54) hX dX7_readsFigures_54 f_X7_100 rfl rfl (by first | rfl | decide) (by first | rfl | decide) (by rfl) ?_
  obtain ⟨I54, hi54, h⟩ := bind_s h
  refine AW.iEq hi54 ?_
  refine aw_aload_n (pc := 57) hX 0 dX7_readsFigures_57 rfl rfl ?_
  refine aw_dup (pc := 58) hX dX7_readsFigures_58 rfl ?_
  refine aw_getI (pc := 59) hX dX7_readsFigures_59 f_X7_82 rfl (by rfl) ?_
  refine aw_iconst (pc := 62) hX (1 : Int32) dX7_readsFigures_62 (by decide) ?_
  refine aw_iadd (pc := 63) hX dX7_readsFigures_63 ?_
  refine aw_putI (pc := 64) hX dX7_readsFigures_64 f_X7_82 rfl rfl (by first | rfl | decide) (by first | rfl | decide) (by rfl) ?_
  obtain ⟨I64, hi64, h⟩ := bind_s h
  refine AW.iEq hi64 ?_
  refine aw_goto (pc := 67) hX 15 dX7_readsFigures_67 rfl ?_
  exact AW.lo (hk15 I64 b1  h) (And.intro (Or.inr rfl) (And.intro (Or.inr rfl) trivial))
def b_X7_readsFigures_15   : Nat → Hi → Bool → Option (Hi)
  | 0, _, _ => none
  | n + 1, I, b1 => (f_X7_isFigure I).bind fun r16 => if r16 = true then (if (I (77) 23) ≤ (99 : Int32) then ((f_X7_here I).bind fun r47 => b_X7_readsFigures_54 (b_X7_readsFigures_15 n) I b1 ((((10 : Int32) * (I (77) 23)) + r47) - (48 : Int32))) else (b_X7_readsFigures_54 (b_X7_readsFigures_15 n) I b1 (I (77) 23))) else (b_X7_readsFigures_70 I b1)
set_option maxRecDepth 100000 in
set_option maxHeartbeats 4000000 in
theorem t_X7_readsFigures_15 {G : GP} {X : CX} (hX : XOK G X mi_X7_readsFigures) {c d : Nat} {L : Hl} {p : Hi} (hZ : XZ G X mi_X7_readsFigures none S0 p (R0 c d) L) : ∀ (n : Nat) (I : Hi) (b1 : Bool), b_X7_readsFigures_15 n I b1 = some p → AW G X 0 0 S0 I (R0 c d) L 15 [.ref 77, .int (bI b1)] [] := by
  intro n
  induction n with
  | zero => intro I b1 h; cases h
  | succ n ih =>
    intro I b1 h
    rw [b_X7_readsFigures_15] at h
    refine aw_aload_n (pc := 15) hX 0 dX7_readsFigures_15 rfl rfl ?_
    obtain ⟨r16, hq16, h⟩ := bind_s h
    refine aw_V0i (pc := 16) hX h_X7_isFigure l_X7_110 dX7_readsFigures_16 (by rfl) (by decide) (by rfl) rfl rfl rfl (Nat.le_of_ble_eq_true rfl) (s_X7_isFigure  hq16) ?_
    refine aw_if_eq (pc := 19) hX 70 dX7_readsFigures_19 rfl (fun hc19 => ?_) (fun hc19 => ?_)
    · have h := ite_f h (bI0 hc19)
      exact AW.lo (t_X7_readsFigures_70 hX hZ I b1 h) (And.intro (Or.inr rfl) (And.intro (Or.inr rfl) trivial))
    · have h := ite_t h (bI1 hc19)
      refine aw_aload_n (pc := 22) hX 0 dX7_readsFigures_22 rfl rfl ?_
      refine aw_aload_n (pc := 23) hX 0 dX7_readsFigures_23 rfl rfl ?_
      refine aw_getI (pc := 24) hX dX7_readsFigures_24 f_X7_100 rfl (by rfl) ?_
      refine aw_bipush (pc := 27) hX (99 : Int32) dX7_readsFigures_27 (by decide) ?_
      refine aw_icmp_le (pc := 29) hX 39 dX7_readsFigures_29 rfl (fun hc29 => ?_) (fun hc29 => ?_)
      · have h := ite_t h hc29
        refine aw_bipush (pc := 39) hX (10 : Int32) dX7_readsFigures_39 (by decide) ?_
        refine aw_aload_n (pc := 41) hX 0 dX7_readsFigures_41 rfl rfl ?_
        refine aw_getI (pc := 42) hX dX7_readsFigures_42 f_X7_100 rfl (by rfl) ?_
        refine aw_imul (pc := 45) hX dX7_readsFigures_45 ?_
        refine aw_aload_n (pc := 46) hX 0 dX7_readsFigures_46 rfl rfl ?_
        obtain ⟨r47, hq47, h⟩ := bind_s h
        refine aw_V0i (pc := 47) hX h_X7_here l_X7_85 dX7_readsFigures_47 (by rfl) (by decide) (by rfl) rfl rfl rfl (Nat.le_of_ble_eq_true rfl) (s_X7_here  hq47) ?_
        refine aw_iadd (pc := 50) hX dX7_readsFigures_50 ?_
        refine aw_bipush (pc := 51) hX (48 : Int32) dX7_readsFigures_51 (by decide) ?_
        refine aw_isub (pc := 53) hX dX7_readsFigures_53 ?_
        exact AW.lo (t_X7_readsFigures_54 hX hZ (ih) I b1 ((((10 : Int32) * (I (77) 23)) + r47) - (48 : Int32)) h) (And.intro (Or.inr rfl) (And.intro (Or.inr rfl) trivial))
      · have h := ite_f h hc29
        refine aw_aload_n (pc := 32) hX 0 dX7_readsFigures_32 rfl rfl ?_
        refine aw_getI (pc := 33) hX dX7_readsFigures_33 f_X7_100 rfl (by rfl) ?_
        refine aw_goto (pc := 36) hX 54 dX7_readsFigures_36 rfl ?_
        exact AW.lo (t_X7_readsFigures_54 hX hZ (ih) I b1 (I (77) 23) h) (And.intro (Or.inr rfl) (And.intro (Or.inr rfl) trivial))
def b_X7_readsFigures_14   (I : Hi) (bs0 : Bool) : Option (Hi) := b_X7_readsFigures_15 2000 I bs0
set_option maxRecDepth 100000 in
set_option maxHeartbeats 4000000 in
theorem t_X7_readsFigures_14 {G : GP} {X : CX} (hX : XOK G X mi_X7_readsFigures) {c d : Nat} {L : Hl} {p : Hi} (hZ : XZ G X mi_X7_readsFigures none S0 p (R0 c d) L) (I : Hi) (bs0 : Bool) (h : b_X7_readsFigures_14 I bs0 = some p) : AW G X 0 0 S0 I (R0 c d) L 14 [.ref 77, .null] [.int (bI bs0)] := by
  rw [b_X7_readsFigures_14] at h
  refine aw_istore_nE (pc := 14) hX 1 [.ref 77, .int (bI bs0)] dX7_readsFigures_14 rfl (by decide) rfl rfl ?_
  exact AW.lo (t_X7_readsFigures_15 hX hZ 2000 I bs0 h) (And.intro (Or.inr rfl) (And.intro (Or.inr rfl) trivial))
def f_X7_readsFigures (I : Hi)  : Option (Hi) := (f_X7_here I).bind fun r1 => if r1 = (48 : Int32) then (b_X7_readsFigures_14 I true) else (b_X7_readsFigures_14 I false)
set_option maxRecDepth 100000 in
set_option maxHeartbeats 4000000 in
theorem s_X7_readsFigures {G : GP} {c d : Nat} {I : Hi} {L : Hl}  {p : Hi} (h : f_X7_readsFigures I = some p) : CD G mi_X7_readsFigures [.ref 77] S0 I (R0 c d) L none S0 p (R0 c d) L := by
  refine CD.intro 1 rfl (by decide) rfl fun X hX hZ => ?_
  rw [f_X7_readsFigures] at h
  show AW G X 0 0 S0 I (R0 c d) L 0 [.ref 77, .null] []
  refine aw_aload_n (pc := 0) hX 0 dX7_readsFigures_0 rfl rfl ?_
  obtain ⟨r1, hq1, h⟩ := bind_s h
  refine aw_V0i (pc := 1) hX h_X7_here l_X7_85 dX7_readsFigures_1 (by rfl) (by decide) (by rfl) rfl rfl rfl (Nat.le_of_ble_eq_true rfl) (s_X7_here  hq1) ?_
  refine aw_bipush (pc := 4) hX (48 : Int32) dX7_readsFigures_4 (by decide) ?_
  refine aw_icmp_ne (pc := 6) hX 13 dX7_readsFigures_6 rfl (fun hc6 => ?_) (fun hc6 => ?_)
  · have h := ite_f h hc6
    refine aw_iconst (pc := 13) hX (0 : Int32) dX7_readsFigures_13 (by decide) ?_
    exact AW.lo (t_X7_readsFigures_14 hX hZ I false h) (And.intro (Or.inr rfl) (And.intro (Or.inl rfl) trivial))
  · have h := ite_t h hc6
    refine aw_iconst (pc := 9) hX (1 : Int32) dX7_readsFigures_9 (by decide) ?_
    refine aw_goto (pc := 10) hX 14 dX7_readsFigures_10 rfl ?_
    exact AW.lo (t_X7_readsFigures_14 hX hZ I true h) (And.intro (Or.inr rfl) (And.intro (Or.inl rfl) trivial))
def b_X7_step_115   (I : Hi) (xs0 : Int32) : Option (Hi) := (some (u2 I (77) 22 xs0)).bind fun I115 => (some (u2 I115 (77) 20 ((I115 (77) 20) + (1 : Int32)))).bind fun I125 => some (I125)
set_option maxRecDepth 100000 in
set_option maxHeartbeats 4000000 in
theorem t_X7_step_115 {G : GP} {X : CX} (hX : XOK G X mi_X7_step) {c d : Nat} {L : Hl} {p : Hi} (hZ : XZ G X mi_X7_step none S0 p (R0 c d) L) (I : Hi) (xs0 : Int32) (h : b_X7_step_115 I xs0 = some p) : AW G X 0 0 S0 I (R0 c d) L 115 [.ref 77] [.int xs0, .ref 77] := by
  rw [b_X7_step_115] at h
  refine aw_putI (pc := 115) hX dX7_step_115 f_X7_103 rfl rfl (by first | rfl | decide) (by first | rfl | decide) (by rfl) ?_
  obtain ⟨I115, hi115, h⟩ := bind_s h
  refine AW.iEq hi115 ?_
  refine aw_aload_n (pc := 118) hX 0 dX7_step_118 rfl rfl ?_
  refine aw_dup (pc := 119) hX dX7_step_119 rfl ?_
  refine aw_getI (pc := 120) hX dX7_step_120 f_X7_82 rfl (by rfl) ?_
  refine aw_iconst (pc := 123) hX (1 : Int32) dX7_step_123 (by decide) ?_
  refine aw_iadd (pc := 124) hX dX7_step_124 ?_
  refine aw_putI (pc := 125) hX dX7_step_125 f_X7_82 rfl rfl (by first | rfl | decide) (by first | rfl | decide) (by rfl) ?_
  obtain ⟨I125, hi125, h⟩ := bind_s h
  refine AW.iEq hi125 ?_
  have e := Option.some.inj h
  subst e
  exact aw_vret hX hZ dX7_step_128 rfl rfl rfl rfl rfl rfl (Nat.le_refl _)
def b_X7_step_66   : Nat → Hi → Option (Hi)
  | 0, _ => none
  | n + 1, I => (f_X7_isLetter I).bind fun r67 => if r67 = true then ((some (u2 I (77) 20 ((I (77) 20) + (1 : Int32)))).bind fun I80 => b_X7_step_66 n I80) else (some (I))
set_option maxRecDepth 100000 in
set_option maxHeartbeats 4000000 in
theorem t_X7_step_66 {G : GP} {X : CX} (hX : XOK G X mi_X7_step) {c d : Nat} {L : Hl} {p : Hi} (hZ : XZ G X mi_X7_step none S0 p (R0 c d) L) : ∀ (n : Nat) (I : Hi), b_X7_step_66 n I = some p → AW G X 0 0 S0 I (R0 c d) L 66 [.ref 77] [] := by
  intro n
  induction n with
  | zero => intro I h; cases h
  | succ n ih =>
    intro I h
    rw [b_X7_step_66] at h
    refine aw_aload_n (pc := 66) hX 0 dX7_step_66 rfl rfl ?_
    obtain ⟨r67, hq67, h⟩ := bind_s h
    refine aw_V0i (pc := 67) hX h_X7_isLetter l_X7_106 dX7_step_67 (by rfl) (by decide) (by rfl) rfl rfl rfl (Nat.le_of_ble_eq_true rfl) (s_X7_isLetter  hq67) ?_
    refine aw_if_eq (pc := 70) hX 128 dX7_step_70 rfl (fun hc70 => ?_) (fun hc70 => ?_)
    · have h := ite_f h (bI0 hc70)
      have e := Option.some.inj h
      subst e
      exact aw_vret hX hZ dX7_step_128 rfl rfl rfl rfl rfl rfl (Nat.le_refl _)
    · have h := ite_t h (bI1 hc70)
      refine aw_aload_n (pc := 73) hX 0 dX7_step_73 rfl rfl ?_
      refine aw_dup (pc := 74) hX dX7_step_74 rfl ?_
      refine aw_getI (pc := 75) hX dX7_step_75 f_X7_82 rfl (by rfl) ?_
      refine aw_iconst (pc := 78) hX (1 : Int32) dX7_step_78 (by decide) ?_
      refine aw_iadd (pc := 79) hX dX7_step_79 ?_
      refine aw_putI (pc := 80) hX dX7_step_80 f_X7_82 rfl rfl (by first | rfl | decide) (by first | rfl | decide) (by rfl) ?_
      obtain ⟨I80, hi80, h⟩ := bind_s h
      refine AW.iEq hi80 ?_
      refine aw_goto (pc := 83) hX 66 dX7_step_83 rfl ?_
      exact AW.lo (ih I80  h) (And.intro (Or.inr rfl) trivial)
def b_X7_step_22   (I : Hi) : Option (Hi) := (some (u2 I (77) 21 (I (77) 20))).bind fun I27 => (some (u2 I27 (77) 23 (0 : Int32))).bind fun I32 => if (I32 (77) 20) = (I32 (77) 19) then ((some (u2 I32 (77) 22 (0 : Int32))).bind fun I48 => some (I48)) else ((f_X7_isLetter I32).bind fun r55 => if r55 = true then ((some (u2 I32 (77) 22 (1 : Int32))).bind fun I63 => b_X7_step_66 2000 I63) else ((f_X7_isFigure I32).bind fun r87 => if r87 = true then ((f_X7_readsFigures I32).bind fun r94 => some (r94)) else ((f_X7_here I32).bind fun r102 => if r102 = (59 : Int32) then (b_X7_step_115 I32 (3 : Int32)) else (b_X7_step_115 I32 (4 : Int32)))))
set_option maxRecDepth 100000 in
set_option maxHeartbeats 4000000 in
theorem t_X7_step_22 {G : GP} {X : CX} (hX : XOK G X mi_X7_step) {c d : Nat} {L : Hl} {p : Hi} (hZ : XZ G X mi_X7_step none S0 p (R0 c d) L) (I : Hi) (h : b_X7_step_22 I = some p) : AW G X 0 0 S0 I (R0 c d) L 22 [.ref 77] [] := by
  rw [b_X7_step_22] at h
  refine aw_aload_n (pc := 22) hX 0 dX7_step_22 rfl rfl ?_
  refine aw_aload_n (pc := 23) hX 0 dX7_step_23 rfl rfl ?_
  refine aw_getI (pc := 24) hX dX7_step_24 f_X7_82 rfl (by rfl) ?_
  refine aw_putI (pc := 27) hX dX7_step_27 f_X7_97 rfl rfl (by first | rfl | decide) (by first | rfl | decide) (by rfl) ?_
  obtain ⟨I27, hi27, h⟩ := bind_s h
  refine AW.iEq hi27 ?_
  refine aw_aload_n (pc := 30) hX 0 dX7_step_30 rfl rfl ?_
  refine aw_iconst (pc := 31) hX (0 : Int32) dX7_step_31 (by decide) ?_
  refine aw_putI (pc := 32) hX dX7_step_32 f_X7_100 rfl rfl (by first | rfl | decide) (by first | rfl | decide) (by rfl) ?_
  obtain ⟨I32, hi32, h⟩ := bind_s h
  refine AW.iEq hi32 ?_
  refine aw_aload_n (pc := 35) hX 0 dX7_step_35 rfl rfl ?_
  refine aw_getI (pc := 36) hX dX7_step_36 f_X7_82 rfl (by rfl) ?_
  refine aw_aload_n (pc := 39) hX 0 dX7_step_39 rfl rfl ?_
  refine aw_getI (pc := 40) hX dX7_step_40 f_X7_79 rfl (by rfl) ?_
  refine aw_icmp_ne (pc := 43) hX 54 dX7_step_43 rfl (fun hc43 => ?_) (fun hc43 => ?_)
  · have h := ite_f h hc43
    refine aw_aload_n (pc := 54) hX 0 dX7_step_54 rfl rfl ?_
    obtain ⟨r55, hq55, h⟩ := bind_s h
    refine aw_V0i (pc := 55) hX h_X7_isLetter l_X7_106 dX7_step_55 (by rfl) (by decide) (by rfl) rfl rfl rfl (Nat.le_of_ble_eq_true rfl) (s_X7_isLetter  hq55) ?_
    refine aw_if_eq (pc := 58) hX 86 dX7_step_58 rfl (fun hc58 => ?_) (fun hc58 => ?_)
    · have h := ite_f h (bI0 hc58)
      refine aw_aload_n (pc := 86) hX 0 dX7_step_86 rfl rfl ?_
      obtain ⟨r87, hq87, h⟩ := bind_s h
      refine aw_V0i (pc := 87) hX h_X7_isFigure l_X7_110 dX7_step_87 (by rfl) (by decide) (by rfl) rfl rfl rfl (Nat.le_of_ble_eq_true rfl) (s_X7_isFigure  hq87) ?_
      refine aw_if_eq (pc := 90) hX 100 dX7_step_90 rfl (fun hc90 => ?_) (fun hc90 => ?_)
      · have h := ite_f h (bI0 hc90)
        refine aw_aload_n (pc := 100) hX 0 dX7_step_100 rfl rfl ?_
        refine aw_aload_n (pc := 101) hX 0 dX7_step_101 rfl rfl ?_
        obtain ⟨r102, hq102, h⟩ := bind_s h
        refine aw_V0i (pc := 102) hX h_X7_here l_X7_85 dX7_step_102 (by rfl) (by decide) (by rfl) rfl rfl rfl (Nat.le_of_ble_eq_true rfl) (s_X7_here  hq102) ?_
        refine aw_bipush (pc := 105) hX (59 : Int32) dX7_step_105 (by decide) ?_
        refine aw_icmp_ne (pc := 107) hX 114 dX7_step_107 rfl (fun hc107 => ?_) (fun hc107 => ?_)
        · have h := ite_f h hc107
          refine aw_iconst (pc := 114) hX (4 : Int32) dX7_step_114 (by decide) ?_
          exact AW.lo (t_X7_step_115 hX hZ I32 (4 : Int32) h) (And.intro (Or.inr rfl) trivial)
        · have h := ite_t h hc107
          refine aw_iconst (pc := 110) hX (3 : Int32) dX7_step_110 (by decide) ?_
          refine aw_goto (pc := 111) hX 115 dX7_step_111 rfl ?_
          exact AW.lo (t_X7_step_115 hX hZ I32 (3 : Int32) h) (And.intro (Or.inr rfl) trivial)
      · have h := ite_t h (bI1 hc90)
        refine aw_aload_n (pc := 93) hX 0 dX7_step_93 rfl rfl ?_
        obtain ⟨r94, hq94, h⟩ := bind_s h
        refine aw_V0v (pc := 94) hX h_X7_readsFigures l_X7_113 dX7_step_94 (by rfl) (by decide) (by rfl) rfl rfl rfl (Nat.le_of_ble_eq_true rfl) (s_X7_readsFigures  hq94) ?_
        refine aw_goto (pc := 97) hX 128 dX7_step_97 rfl ?_
        have e := Option.some.inj h
        subst e
        exact aw_vret hX hZ dX7_step_128 rfl rfl rfl rfl rfl rfl (Nat.le_refl _)
    · have h := ite_t h (bI1 hc58)
      refine aw_aload_n (pc := 61) hX 0 dX7_step_61 rfl rfl ?_
      refine aw_iconst (pc := 62) hX (1 : Int32) dX7_step_62 (by decide) ?_
      refine aw_putI (pc := 63) hX dX7_step_63 f_X7_103 rfl rfl (by first | rfl | decide) (by first | rfl | decide) (by rfl) ?_
      obtain ⟨I63, hi63, h⟩ := bind_s h
      refine AW.iEq hi63 ?_
      exact AW.lo (t_X7_step_66 hX hZ 2000 I63 h) (And.intro (Or.inr rfl) trivial)
  · have h := ite_t h hc43
    refine aw_aload_n (pc := 46) hX 0 dX7_step_46 rfl rfl ?_
    refine aw_iconst (pc := 47) hX (0 : Int32) dX7_step_47 (by decide) ?_
    refine aw_putI (pc := 48) hX dX7_step_48 f_X7_103 rfl rfl (by first | rfl | decide) (by first | rfl | decide) (by rfl) ?_
    obtain ⟨I48, hi48, h⟩ := bind_s h
    refine AW.iEq hi48 ?_
    refine aw_goto (pc := 51) hX 128 dX7_step_51 rfl ?_
    have e := Option.some.inj h
    subst e
    exact aw_vret hX hZ dX7_step_128 rfl rfl rfl rfl rfl rfl (Nat.le_refl _)
def b_X7_step_0   : Nat → Hi → Option (Hi)
  | 0, _ => none
  | n + 1, I => (f_X7_here I).bind fun r1 => if r1 = (32 : Int32) then ((some (u2 I (77) 20 ((I (77) 20) + (1 : Int32)))).bind fun I16 => b_X7_step_0 n I16) else (b_X7_step_22 I)
set_option maxRecDepth 100000 in
set_option maxHeartbeats 4000000 in
theorem t_X7_step_0 {G : GP} {X : CX} (hX : XOK G X mi_X7_step) {c d : Nat} {L : Hl} {p : Hi} (hZ : XZ G X mi_X7_step none S0 p (R0 c d) L) : ∀ (n : Nat) (I : Hi), b_X7_step_0 n I = some p → AW G X 0 0 S0 I (R0 c d) L 0 [.ref 77] [] := by
  intro n
  induction n with
  | zero => intro I h; cases h
  | succ n ih =>
    intro I h
    rw [b_X7_step_0] at h
    refine aw_aload_n (pc := 0) hX 0 dX7_step_0 rfl rfl ?_
    obtain ⟨r1, hq1, h⟩ := bind_s h
    refine aw_V0i (pc := 1) hX h_X7_here l_X7_85 dX7_step_1 (by rfl) (by decide) (by rfl) rfl rfl rfl (Nat.le_of_ble_eq_true rfl) (s_X7_here  hq1) ?_
    refine aw_bipush (pc := 4) hX (32 : Int32) dX7_step_4 (by decide) ?_
    refine aw_icmp_ne (pc := 6) hX 22 dX7_step_6 rfl (fun hc6 => ?_) (fun hc6 => ?_)
    · have h := ite_f h hc6
      exact AW.lo (t_X7_step_22 hX hZ I h) (And.intro (Or.inr rfl) trivial)
    · have h := ite_t h hc6
      refine aw_aload_n (pc := 9) hX 0 dX7_step_9 rfl rfl ?_
      refine aw_dup (pc := 10) hX dX7_step_10 rfl ?_
      refine aw_getI (pc := 11) hX dX7_step_11 f_X7_82 rfl (by rfl) ?_
      refine aw_iconst (pc := 14) hX (1 : Int32) dX7_step_14 (by decide) ?_
      refine aw_iadd (pc := 15) hX dX7_step_15 ?_
      refine aw_putI (pc := 16) hX dX7_step_16 f_X7_82 rfl rfl (by first | rfl | decide) (by first | rfl | decide) (by rfl) ?_
      obtain ⟨I16, hi16, h⟩ := bind_s h
      refine AW.iEq hi16 ?_
      refine aw_goto (pc := 19) hX 0 dX7_step_19 rfl ?_
      exact AW.lo (ih I16  h) (And.intro (Or.inr rfl) trivial)
def f_X7_step (I : Hi)  : Option (Hi) := (f_X7_here I).bind fun r1 => if r1 = (32 : Int32) then ((some (u2 I (77) 20 ((I (77) 20) + (1 : Int32)))).bind fun I16 => b_X7_step_0 2000 I16) else (b_X7_step_22 I)
set_option maxRecDepth 100000 in
set_option maxHeartbeats 4000000 in
theorem s_X7_step {G : GP} {c d : Nat} {I : Hi} {L : Hl}  {p : Hi} (h : f_X7_step I = some p) : CD G mi_X7_step [.ref 77] S0 I (R0 c d) L none S0 p (R0 c d) L := by
  refine CD.intro 0 rfl (by decide) rfl fun X hX hZ => ?_
  rw [f_X7_step] at h
  show AW G X 0 0 S0 I (R0 c d) L 0 [.ref 77] []
  refine aw_aload_n (pc := 0) hX 0 dX7_step_0 rfl rfl ?_
  obtain ⟨r1, hq1, h⟩ := bind_s h
  refine aw_V0i (pc := 1) hX h_X7_here l_X7_85 dX7_step_1 (by rfl) (by decide) (by rfl) rfl rfl rfl (Nat.le_of_ble_eq_true rfl) (s_X7_here  hq1) ?_
  refine aw_bipush (pc := 4) hX (32 : Int32) dX7_step_4 (by decide) ?_
  refine aw_icmp_ne (pc := 6) hX 22 dX7_step_6 rfl (fun hc6 => ?_) (fun hc6 => ?_)
  · have h := ite_f h hc6
    exact AW.lo (t_X7_step_22 hX hZ I h) (And.intro (Or.inr rfl) trivial)
  · have h := ite_t h hc6
    refine aw_aload_n (pc := 9) hX 0 dX7_step_9 rfl rfl ?_
    refine aw_dup (pc := 10) hX dX7_step_10 rfl ?_
    refine aw_getI (pc := 11) hX dX7_step_11 f_X7_82 rfl (by rfl) ?_
    refine aw_iconst (pc := 14) hX (1 : Int32) dX7_step_14 (by decide) ?_
    refine aw_iadd (pc := 15) hX dX7_step_15 ?_
    refine aw_putI (pc := 16) hX dX7_step_16 f_X7_82 rfl rfl (by first | rfl | decide) (by first | rfl | decide) (by rfl) ?_
    obtain ⟨I16, hi16, h⟩ := bind_s h
    refine AW.iEq hi16 ?_
    refine aw_goto (pc := 19) hX 0 dX7_step_19 rfl ?_
    exact AW.lo (t_X7_step_0 hX hZ 2000 I16 h) (And.intro (Or.inr rfl) trivial)
def f_X7_number (I : Hi) (x1 : Int32) (x2 : Int32) : Option (Bool × Hi) := (f_X7_step I).bind fun r1 => if (r1 (77) 22) = (2 : Int32) then ((f_X7_in ((r1 (77) 23)).toInt64 (x1).toInt64 (x2).toInt64).bind fun r21 => if r21 = true then (some (true, r1)) else (some (false, r1))) else (some (false, r1))
set_option maxRecDepth 100000 in
set_option maxHeartbeats 4000000 in
theorem s_X7_number {G : GP} {c d : Nat} {I : Hi} {L : Hl} {x1 : Int32} {x2 : Int32} {p : Bool × Hi} (h : f_X7_number I x1 x2 = some p) : CD G mi_X7_number [.ref 77, .int x1, .int x2] S0 I (R0 c d) L (some (.int (bI p.1))) S0 p.2 (R0 c d) L := by
  refine CD.intro 0 rfl (by decide) rfl fun X hX hZ => ?_
  rw [f_X7_number] at h
  show AW G X 0 0 S0 I (R0 c d) L 0 [.ref 77, .int x1, .int x2] []
  refine aw_aload_n (pc := 0) hX 0 dX7_number_0 rfl rfl ?_
  obtain ⟨r1, hq1, h⟩ := bind_s h
  refine aw_V0v (pc := 1) hX h_X7_step l_X7_116 dX7_number_1 (by rfl) (by decide) (by rfl) rfl rfl rfl (Nat.le_of_ble_eq_true rfl) (s_X7_step  hq1) ?_
  refine aw_aload_n (pc := 4) hX 0 dX7_number_4 rfl rfl ?_
  refine aw_getI (pc := 5) hX dX7_number_5 f_X7_103 rfl (by rfl) ?_
  refine aw_iconst (pc := 8) hX (2 : Int32) dX7_number_8 (by decide) ?_
  refine aw_icmp_ne (pc := 9) hX 31 dX7_number_9 rfl (fun hc9 => ?_) (fun hc9 => ?_)
  · have h := ite_f h hc9
    refine aw_iconst (pc := 31) hX (0 : Int32) dX7_number_31 (by decide) ?_
    have e := Option.some.inj h
    subst e
    exact aw_zret hX hZ dX7_number_32 rfl (bI01 _) rfl rfl rfl rfl rfl rfl (Nat.le_refl _)
  · have h := ite_t h hc9
    refine aw_aload_n (pc := 12) hX 0 dX7_number_12 rfl rfl ?_
    refine aw_getI (pc := 13) hX dX7_number_13 f_X7_100 rfl (by rfl) ?_
    refine aw_i2l (pc := 16) hX dX7_number_16 ?_
    refine aw_iload_n (pc := 17) hX 1 dX7_number_17 rfl rfl ?_
    refine aw_i2l (pc := 18) hX dX7_number_18 ?_
    refine aw_iload_n (pc := 19) hX 2 dX7_number_19 rfl rfl ?_
    refine aw_i2l (pc := 20) hX dX7_number_20 ?_
    obtain ⟨r21, hq21, h⟩ := bind_s h
    refine aw_S3i (pc := 21) hX h_X7_in l_X7_75 dX7_number_21 rfl rfl rfl (Nat.le_of_ble_eq_true rfl) (s_X7_in  hq21) ?_
    refine aw_if_eq (pc := 24) hX 31 dX7_number_24 rfl (fun hc24 => ?_) (fun hc24 => ?_)
    · have h := ite_f h (bI0 hc24)
      refine aw_iconst (pc := 31) hX (0 : Int32) dX7_number_31 (by decide) ?_
      have e := Option.some.inj h
      subst e
      exact aw_zret hX hZ dX7_number_32 rfl (bI01 _) rfl rfl rfl rfl rfl rfl (Nat.le_refl _)
    · have h := ite_t h (bI1 hc24)
      refine aw_iconst (pc := 27) hX (1 : Int32) dX7_number_27 (by decide) ?_
      refine aw_goto (pc := 28) hX 32 dX7_number_28 rfl ?_
      have e := Option.some.inj h
      subst e
      exact aw_zret hX hZ dX7_number_32 rfl (bI01 _) rfl rfl rfl rfl rfl rfl (Nat.le_refl _)
def b_X7_row_72   (I : Hi) (x1 : Int32) (x2 : Int32) (x3 : Int32) : Option (Int32 × Hi) := if (I (77) 22) = (1 : Int32) then ((f_X7_in (((I (77) 20) - (I (77) 21))).toInt64 (x1).toInt64 (x2).toInt64).bind fun r94 => if r94 = true then (some (x3, I)) else (some ((0 : Int32), I))) else (some ((0 : Int32), I))
set_option maxRecDepth 100000 in
set_option maxHeartbeats 4000000 in
theorem t_X7_row_72 {G : GP} {X : CX} (hX : XOK G X mi_X7_row) {c d : Nat} {L : Hl} {p : Int32 × Hi} (hZ : XZ G X mi_X7_row (some (.int p.1)) S0 p.2 (R0 c d) L) (I : Hi) (x1 : Int32) (x2 : Int32) (x3 : Int32) (h : b_X7_row_72 I x1 x2 x3 = some p) : AW G X 0 0 S0 I (R0 c d) L 72 [.ref 77, .int x1, .int x2, .int x3, .null] [] := by
  rw [b_X7_row_72] at h
  refine aw_aload_n (pc := 72) hX 0 dX7_row_72 rfl rfl ?_
  refine aw_getI (pc := 73) hX dX7_row_73 f_X7_103 rfl (by rfl) ?_
  refine aw_iconst (pc := 76) hX (1 : Int32) dX7_row_76 (by decide) ?_
  refine aw_icmp_ne (pc := 77) hX 104 dX7_row_77 rfl (fun hc77 => ?_) (fun hc77 => ?_)
  · have h := ite_f h hc77
    refine aw_iconst (pc := 104) hX (0 : Int32) dX7_row_104 (by decide) ?_
    have e := Option.some.inj h
    subst e
    exact aw_iret hX hZ dX7_row_105 rfl rfl rfl rfl rfl rfl rfl (Nat.le_refl _)
  · have h := ite_t h hc77
    refine aw_aload_n (pc := 80) hX 0 dX7_row_80 rfl rfl ?_
    refine aw_getI (pc := 81) hX dX7_row_81 f_X7_82 rfl (by rfl) ?_
    refine aw_aload_n (pc := 84) hX 0 dX7_row_84 rfl rfl ?_
    refine aw_getI (pc := 85) hX dX7_row_85 f_X7_97 rfl (by rfl) ?_
    refine aw_isub (pc := 88) hX dX7_row_88 ?_
    refine aw_i2l (pc := 89) hX dX7_row_89 ?_
    refine aw_iload_n (pc := 90) hX 1 dX7_row_90 rfl rfl ?_
    refine aw_i2l (pc := 91) hX dX7_row_91 ?_
    refine aw_iload_n (pc := 92) hX 2 dX7_row_92 rfl rfl ?_
    refine aw_i2l (pc := 93) hX dX7_row_93 ?_
    obtain ⟨r94, hq94, h⟩ := bind_s h
    refine aw_S3i (pc := 94) hX h_X7_in l_X7_75 dX7_row_94 rfl rfl rfl (Nat.le_of_ble_eq_true rfl) (s_X7_in  hq94) ?_
    refine aw_if_eq (pc := 97) hX 104 dX7_row_97 rfl (fun hc97 => ?_) (fun hc97 => ?_)
    · have h := ite_f h (bI0 hc97)
      refine aw_iconst (pc := 104) hX (0 : Int32) dX7_row_104 (by decide) ?_
      have e := Option.some.inj h
      subst e
      exact aw_iret hX hZ dX7_row_105 rfl rfl rfl rfl rfl rfl rfl (Nat.le_refl _)
    · have h := ite_t h (bI1 hc97)
      refine aw_iload_n (pc := 100) hX 3 dX7_row_100 rfl rfl ?_
      refine aw_goto (pc := 101) hX 105 dX7_row_101 rfl ?_
      have e := Option.some.inj h
      subst e
      exact aw_iret hX hZ dX7_row_105 rfl rfl rfl rfl rfl rfl rfl (Nat.le_refl _)
def b_X7_row_12   : Nat → Hi → Int32 → Int32 → Int32 → Int32 → Option (Int32 × Hi)
  | 0, _, _, _, _, _ => none
  | n + 1, I, x1, x2, x3, x4 => if (I (77) 20) ≤ x4 then (b_X7_row_72 I x1 x2 x3) else (if (I (77) 22) = (1 : Int32) then (if vinb x4 160 then (f_X7_in ((I (88) (x4).toNatClampNeg)).toInt64 (97 : Int64) (102 : Int64)).bind fun r43 => if r43 = true then (if vinb x4 160 then b_X7_row_12 n I x1 x2 (x3 ||| ((1 : Int32) <<< (((I (88) (x4).toNatClampNeg) - (97 : Int32)) &&& 31))) (x4 + 1) else none) else (some ((0 : Int32), I)) else none) else (b_X7_row_72 I x1 x2 x3))
set_option maxRecDepth 100000 in
set_option maxHeartbeats 4000000 in
theorem t_X7_row_12 {G : GP} {X : CX} (hX : XOK G X mi_X7_row) {c d : Nat} {L : Hl} {p : Int32 × Hi} (hZ : XZ G X mi_X7_row (some (.int p.1)) S0 p.2 (R0 c d) L) : ∀ (n : Nat) (I : Hi) (x1 : Int32) (x2 : Int32) (x3 : Int32) (x4 : Int32), b_X7_row_12 n I x1 x2 x3 x4 = some p → AW G X 0 0 S0 I (R0 c d) L 12 [.ref 77, .int x1, .int x2, .int x3, .int x4] [] := by
  intro n
  induction n with
  | zero => intro I x1 x2 x3 x4 h; cases h
  | succ n ih =>
    intro I x1 x2 x3 x4 h
    rw [b_X7_row_12] at h
    refine aw_iload (pc := 12) hX dX7_row_12 rfl ?_
    refine aw_aload_n (pc := 14) hX 0 dX7_row_14 rfl rfl ?_
    refine aw_getI (pc := 15) hX dX7_row_15 f_X7_82 rfl (by rfl) ?_
    refine aw_icmp_ge (pc := 18) hX 72 dX7_row_18 rfl (fun hc18 => ?_) (fun hc18 => ?_)
    · have h := ite_t h hc18
      exact AW.lo (t_X7_row_72 hX hZ I x1 x2 x3 h) (And.intro (Or.inr rfl) (And.intro (Or.inr rfl) (And.intro (Or.inr rfl) (And.intro (Or.inr rfl) (And.intro (Or.inl rfl) trivial)))))
    · have h := ite_f h hc18
      refine aw_aload_n (pc := 21) hX 0 dX7_row_21 rfl rfl ?_
      refine aw_getI (pc := 22) hX dX7_row_22 f_X7_103 rfl (by rfl) ?_
      refine aw_iconst (pc := 25) hX (1 : Int32) dX7_row_25 (by decide) ?_
      refine aw_icmp_ne (pc := 26) hX 72 dX7_row_26 rfl (fun hc26 => ?_) (fun hc26 => ?_)
      · have h := ite_f h hc26
        exact AW.lo (t_X7_row_72 hX hZ I x1 x2 x3 h) (And.intro (Or.inr rfl) (And.intro (Or.inr rfl) (And.intro (Or.inr rfl) (And.intro (Or.inr rfl) (And.intro (Or.inl rfl) trivial)))))
      · have h := ite_t h hc26
        refine aw_aload_n (pc := 29) hX 0 dX7_row_29 rfl rfl ?_
        refine aw_getR (pc := 30) hX dX7_row_30 f_X7_45 rfl (by rfl) (q := 88) (by rfl) ?_
        refine aw_iload (pc := 33) hX dX7_row_33 rfl ?_
        obtain ⟨hv35, h⟩ := ite_g h
        refine aw_iaload (pc := 35) hX dX7_row_35 (by rfl) (vinb_in hv35) ?_
        refine aw_i2l (pc := 36) hX dX7_row_36 ?_
        refine aw_ldc2 (pc := 37) hX dX7_row_37 v_X7_89 ?_
        refine aw_ldc2 (pc := 40) hX dX7_row_40 v_X7_119 ?_
        obtain ⟨r43, hq43, h⟩ := bind_s h
        refine aw_S3i (pc := 43) hX h_X7_in l_X7_75 dX7_row_43 rfl rfl rfl (Nat.le_of_ble_eq_true rfl) (s_X7_in  hq43) ?_
        refine aw_if_ne (pc := 46) hX 51 dX7_row_46 rfl (fun hc46 => ?_) (fun hc46 => ?_)
        · have h := ite_t h (bI1 hc46)
          refine aw_iload_n (pc := 51) hX 3 dX7_row_51 rfl rfl ?_
          refine aw_iconst (pc := 52) hX (1 : Int32) dX7_row_52 (by decide) ?_
          refine aw_aload_n (pc := 53) hX 0 dX7_row_53 rfl rfl ?_
          refine aw_getR (pc := 54) hX dX7_row_54 f_X7_45 rfl (by rfl) (q := 88) (by rfl) ?_
          refine aw_iload (pc := 57) hX dX7_row_57 rfl ?_
          obtain ⟨hv59, h⟩ := ite_g h
          refine aw_iaload (pc := 59) hX dX7_row_59 (by rfl) (vinb_in hv59) ?_
          refine aw_bipush (pc := 60) hX (97 : Int32) dX7_row_60 (by decide) ?_
          refine aw_isub (pc := 62) hX dX7_row_62 ?_
          refine aw_ishl (pc := 63) hX dX7_row_63 ?_
          refine aw_ior (pc := 64) hX dX7_row_64 ?_
          refine aw_istore_nE (pc := 65) hX 3 [.ref 77, .int x1, .int x2, .int (x3 ||| ((1 : Int32) <<< (((I (88) (x4).toNatClampNeg) - (97 : Int32)) &&& 31))), .int x4] dX7_row_65 rfl (by decide) rfl rfl ?_
          refine aw_iincE (pc := 66) hX (x4 + 1) [.ref 77, .int x1, .int x2, .int (x3 ||| ((1 : Int32) <<< (((I (88) (x4).toNatClampNeg) - (97 : Int32)) &&& 31))), .int (x4 + 1)] dX7_row_66 rfl rfl (by decide) rfl rfl ?_
          refine aw_goto (pc := 69) hX 12 dX7_row_69 rfl ?_
          exact AW.lo (ih I x1 x2 (x3 ||| ((1 : Int32) <<< (((I (88) (x4).toNatClampNeg) - (97 : Int32)) &&& 31))) (x4 + 1)  h) (And.intro (Or.inr rfl) (And.intro (Or.inr rfl) (And.intro (Or.inr rfl) (And.intro (Or.inr rfl) (And.intro (Or.inr rfl) trivial)))))
        · have h := ite_f h (bI0 hc46)
          refine aw_iconst (pc := 49) hX (0 : Int32) dX7_row_49 (by decide) ?_
          have e := Option.some.inj h
          subst e
          exact aw_iret hX hZ dX7_row_50 rfl rfl rfl rfl rfl rfl rfl (Nat.le_refl _)
def f_X7_row (I : Hi) (x1 : Int32) (x2 : Int32) : Option (Int32 × Hi) := (f_X7_step I).bind fun r1 => b_X7_row_12 2000 r1 x1 x2 (0 : Int32) (r1 (77) 21)
set_option maxRecDepth 100000 in
set_option maxHeartbeats 4000000 in
theorem s_X7_row {G : GP} {c d : Nat} {I : Hi} {L : Hl} {x1 : Int32} {x2 : Int32} {p : Int32 × Hi} (h : f_X7_row I x1 x2 = some p) : CD G mi_X7_row [.ref 77, .int x1, .int x2] S0 I (R0 c d) L (some (.int p.1)) S0 p.2 (R0 c d) L := by
  refine CD.intro 2 rfl (by decide) rfl fun X hX hZ => ?_
  rw [f_X7_row] at h
  show AW G X 0 0 S0 I (R0 c d) L 0 [.ref 77, .int x1, .int x2, .null, .null] []
  refine aw_aload_n (pc := 0) hX 0 dX7_row_0 rfl rfl ?_
  obtain ⟨r1, hq1, h⟩ := bind_s h
  refine aw_V0v (pc := 1) hX h_X7_step l_X7_116 dX7_row_1 (by rfl) (by decide) (by rfl) rfl rfl rfl (Nat.le_of_ble_eq_true rfl) (s_X7_step  hq1) ?_
  refine aw_iconst (pc := 4) hX (0 : Int32) dX7_row_4 (by decide) ?_
  refine aw_istore_nE (pc := 5) hX 3 [.ref 77, .int x1, .int x2, .int (0 : Int32), .null] dX7_row_5 rfl (by decide) rfl rfl ?_
  refine aw_aload_n (pc := 6) hX 0 dX7_row_6 rfl rfl ?_
  refine aw_getI (pc := 7) hX dX7_row_7 f_X7_97 rfl (by rfl) ?_
  refine aw_istoreE (pc := 10) hX [.ref 77, .int x1, .int x2, .int (0 : Int32), .int (r1 (77) 21)] dX7_row_10 (by decide) rfl rfl ?_
  exact AW.lo (t_X7_row_12 hX hZ 2000 r1 x1 x2 (0 : Int32) (r1 (77) 21) h) (And.intro (Or.inr rfl) (And.intro (Or.inr rfl) (And.intro (Or.inr rfl) (And.intro (Or.inr rfl) (And.intro (Or.inr rfl) trivial)))))
def f_X7_isLeaf (I : Hi)  : Option (Bool × Hi) := if (I (77) 24) = (5 : Int32) then (some (false, I)) else ((f_X7_row I (1 : Int32) (6 : Int32)).bind fun r14 => if r14.1 = (0 : Int32) then (some (false, r14.2)) else (if vinb (r14.2 (77) 24) 5 then (some (u2 r14.2 (89) ((r14.2 (77) 24)).toNatClampNeg r14.1)).bind fun I33 => (some (u2 I33 (77) 24 ((I33 (77) 24) + (1 : Int32)))).bind fun I41 => some (true, I41) else none))
set_option maxRecDepth 100000 in
set_option maxHeartbeats 4000000 in
theorem s_X7_isLeaf {G : GP} {c d : Nat} {I : Hi} {L : Hl}  {p : Bool × Hi} (h : f_X7_isLeaf I = some p) : CD G mi_X7_isLeaf [.ref 77] S0 I (R0 c d) L (some (.int (bI p.1))) S0 p.2 (R0 c d) L := by
  refine CD.intro 1 rfl (by decide) rfl fun X hX hZ => ?_
  rw [f_X7_isLeaf] at h
  show AW G X 0 0 S0 I (R0 c d) L 0 [.ref 77, .null] []
  refine aw_aload_n (pc := 0) hX 0 dX7_isLeaf_0 rfl rfl ?_
  refine aw_getI (pc := 1) hX dX7_isLeaf_1 f_X7_121 rfl (by rfl) ?_
  refine aw_iconst (pc := 4) hX (5 : Int32) dX7_isLeaf_4 (by decide) ?_
  refine aw_icmp_ne (pc := 5) hX 10 dX7_isLeaf_5 rfl (fun hc5 => ?_) (fun hc5 => ?_)
  · have h := ite_f h hc5
    refine aw_aload_n (pc := 10) hX 0 dX7_isLeaf_10 rfl rfl ?_
    refine aw_iconst (pc := 11) hX (1 : Int32) dX7_isLeaf_11 (by decide) ?_
    refine aw_bipush (pc := 12) hX (6 : Int32) dX7_isLeaf_12 (by decide) ?_
    obtain ⟨r14, hq14, h⟩ := bind_s h
    refine aw_V2i (pc := 14) hX h_X7_row l_X7_124 dX7_isLeaf_14 (by rfl) (by decide) (by rfl) rfl rfl rfl (Nat.le_of_ble_eq_true rfl) (s_X7_row  hq14) ?_
    refine aw_istore_nE (pc := 17) hX 1 [.ref 77, .int r14.1] dX7_isLeaf_17 rfl (by decide) rfl rfl ?_
    refine aw_iload_n (pc := 18) hX 1 dX7_isLeaf_18 rfl rfl ?_
    refine aw_if_ne (pc := 19) hX 24 dX7_isLeaf_19 rfl (fun hc19 => ?_) (fun hc19 => ?_)
    · have h := ite_f h hc19
      refine aw_aload_n (pc := 24) hX 0 dX7_isLeaf_24 rfl rfl ?_
      refine aw_getR (pc := 25) hX dX7_isLeaf_25 f_X7_48 rfl (by rfl) (q := 89) (by rfl) ?_
      refine aw_aload_n (pc := 28) hX 0 dX7_isLeaf_28 rfl rfl ?_
      refine aw_getI (pc := 29) hX dX7_isLeaf_29 f_X7_121 rfl (by rfl) ?_
      refine aw_iload_n (pc := 32) hX 1 dX7_isLeaf_32 rfl rfl ?_
      obtain ⟨hv33, h⟩ := ite_g h
      refine aw_iastore (pc := 33) hX dX7_isLeaf_33 (by rfl) (vinb_in hv33) ?_
      obtain ⟨I33, hi33, h⟩ := bind_s h
      refine AW.iEq hi33 ?_
      refine aw_aload_n (pc := 34) hX 0 dX7_isLeaf_34 rfl rfl ?_
      refine aw_dup (pc := 35) hX dX7_isLeaf_35 rfl ?_
      refine aw_getI (pc := 36) hX dX7_isLeaf_36 f_X7_121 rfl (by rfl) ?_
      refine aw_iconst (pc := 39) hX (1 : Int32) dX7_isLeaf_39 (by decide) ?_
      refine aw_iadd (pc := 40) hX dX7_isLeaf_40 ?_
      refine aw_putI (pc := 41) hX dX7_isLeaf_41 f_X7_121 rfl rfl (by first | rfl | decide) (by first | rfl | decide) (by rfl) ?_
      obtain ⟨I41, hi41, h⟩ := bind_s h
      refine AW.iEq hi41 ?_
      refine aw_iconst (pc := 44) hX (1 : Int32) dX7_isLeaf_44 (by decide) ?_
      have e := Option.some.inj h
      subst e
      exact aw_zret hX hZ dX7_isLeaf_45 rfl (bI01 _) rfl rfl rfl rfl rfl rfl (Nat.le_refl _)
    · have h := ite_t h hc19
      refine aw_iconst (pc := 22) hX (0 : Int32) dX7_isLeaf_22 (by decide) ?_
      have e := Option.some.inj h
      subst e
      exact aw_zret hX hZ dX7_isLeaf_23 rfl (bI01 _) rfl rfl rfl rfl rfl rfl (Nat.le_refl _)
  · have h := ite_t h hc5
    refine aw_iconst (pc := 8) hX (0 : Int32) dX7_isLeaf_8 (by decide) ?_
    have e := Option.some.inj h
    subst e
    exact aw_zret hX hZ dX7_isLeaf_9 rfl (bI01 _) rfl rfl rfl rfl rfl rfl (Nat.le_refl _)
def f_X7_isGoer (I : Hi)  : Option (Bool × Hi) := if (I (77) 26) = (6 : Int32) then (some (false, I)) else ((f_X7_row I (1 : Int32) (6 : Int32)).bind fun r15 => if r15.1 = (0 : Int32) then (some (false, r15.2)) else (if vinb (r15.2 (77) 26) 6 then (some (u2 r15.2 (90) ((r15.2 (77) 26)).toNatClampNeg r15.1)).bind fun I34 => (some (u2 I34 (77) 26 ((I34 (77) 26) + (1 : Int32)))).bind fun I42 => some (true, I42) else none))
set_option maxRecDepth 100000 in
set_option maxHeartbeats 4000000 in
theorem s_X7_isGoer {G : GP} {c d : Nat} {I : Hi} {L : Hl}  {p : Bool × Hi} (h : f_X7_isGoer I = some p) : CD G mi_X7_isGoer [.ref 77] S0 I (R0 c d) L (some (.int (bI p.1))) S0 p.2 (R0 c d) L := by
  refine CD.intro 1 rfl (by decide) rfl fun X hX hZ => ?_
  rw [f_X7_isGoer] at h
  show AW G X 0 0 S0 I (R0 c d) L 0 [.ref 77, .null] []
  refine aw_aload_n (pc := 0) hX 0 dX7_isGoer_0 rfl rfl ?_
  refine aw_getI (pc := 1) hX dX7_isGoer_1 f_X7_128 rfl (by rfl) ?_
  refine aw_bipush (pc := 4) hX (6 : Int32) dX7_isGoer_4 (by decide) ?_
  refine aw_icmp_ne (pc := 6) hX 11 dX7_isGoer_6 rfl (fun hc6 => ?_) (fun hc6 => ?_)
  · have h := ite_f h hc6
    refine aw_aload_n (pc := 11) hX 0 dX7_isGoer_11 rfl rfl ?_
    refine aw_iconst (pc := 12) hX (1 : Int32) dX7_isGoer_12 (by decide) ?_
    refine aw_bipush (pc := 13) hX (6 : Int32) dX7_isGoer_13 (by decide) ?_
    obtain ⟨r15, hq15, h⟩ := bind_s h
    refine aw_V2i (pc := 15) hX h_X7_row l_X7_124 dX7_isGoer_15 (by rfl) (by decide) (by rfl) rfl rfl rfl (Nat.le_of_ble_eq_true rfl) (s_X7_row  hq15) ?_
    refine aw_istore_nE (pc := 18) hX 1 [.ref 77, .int r15.1] dX7_isGoer_18 rfl (by decide) rfl rfl ?_
    refine aw_iload_n (pc := 19) hX 1 dX7_isGoer_19 rfl rfl ?_
    refine aw_if_ne (pc := 20) hX 25 dX7_isGoer_20 rfl (fun hc20 => ?_) (fun hc20 => ?_)
    · have h := ite_f h hc20
      refine aw_aload_n (pc := 25) hX 0 dX7_isGoer_25 rfl rfl ?_
      refine aw_getR (pc := 26) hX dX7_isGoer_26 f_X7_51 rfl (by rfl) (q := 90) (by rfl) ?_
      refine aw_aload_n (pc := 29) hX 0 dX7_isGoer_29 rfl rfl ?_
      refine aw_getI (pc := 30) hX dX7_isGoer_30 f_X7_128 rfl (by rfl) ?_
      refine aw_iload_n (pc := 33) hX 1 dX7_isGoer_33 rfl rfl ?_
      obtain ⟨hv34, h⟩ := ite_g h
      refine aw_iastore (pc := 34) hX dX7_isGoer_34 (by rfl) (vinb_in hv34) ?_
      obtain ⟨I34, hi34, h⟩ := bind_s h
      refine AW.iEq hi34 ?_
      refine aw_aload_n (pc := 35) hX 0 dX7_isGoer_35 rfl rfl ?_
      refine aw_dup (pc := 36) hX dX7_isGoer_36 rfl ?_
      refine aw_getI (pc := 37) hX dX7_isGoer_37 f_X7_128 rfl (by rfl) ?_
      refine aw_iconst (pc := 40) hX (1 : Int32) dX7_isGoer_40 (by decide) ?_
      refine aw_iadd (pc := 41) hX dX7_isGoer_41 ?_
      refine aw_putI (pc := 42) hX dX7_isGoer_42 f_X7_128 rfl rfl (by first | rfl | decide) (by first | rfl | decide) (by rfl) ?_
      obtain ⟨I42, hi42, h⟩ := bind_s h
      refine AW.iEq hi42 ?_
      refine aw_iconst (pc := 45) hX (1 : Int32) dX7_isGoer_45 (by decide) ?_
      have e := Option.some.inj h
      subst e
      exact aw_zret hX hZ dX7_isGoer_46 rfl (bI01 _) rfl rfl rfl rfl rfl rfl (Nat.le_refl _)
    · have h := ite_t h hc20
      refine aw_iconst (pc := 23) hX (0 : Int32) dX7_isGoer_23 (by decide) ?_
      have e := Option.some.inj h
      subst e
      exact aw_zret hX hZ dX7_isGoer_24 rfl (bI01 _) rfl rfl rfl rfl rfl rfl (Nat.le_refl _)
  · have h := ite_t h hc6
    refine aw_iconst (pc := 9) hX (0 : Int32) dX7_isGoer_9 (by decide) ?_
    have e := Option.some.inj h
    subst e
    exact aw_zret hX hZ dX7_isGoer_10 rfl (bI01 _) rfl rfl rfl rfl rfl rfl (Nat.le_refl _)
def b_X7_isSister_63   (I : Hi) : Option (Bool × Hi) := (some (u2 I (77) 28 ((I (77) 28) + (1 : Int32)))).bind fun I70 => some (true, I70)
set_option maxRecDepth 100000 in
set_option maxHeartbeats 4000000 in
theorem t_X7_isSister_63 {G : GP} {X : CX} (hX : XOK G X mi_X7_isSister) {c d : Nat} {L : Hl} {p : Bool × Hi} (hZ : XZ G X mi_X7_isSister (some (.int (bI p.1))) S0 p.2 (R0 c d) L) (I : Hi) (h : b_X7_isSister_63 I = some p) : AW G X 0 0 S0 I (R0 c d) L 63 [.ref 77, .null] [] := by
  rw [b_X7_isSister_63] at h
  refine aw_aload_n (pc := 63) hX 0 dX7_isSister_63 rfl rfl ?_
  refine aw_dup (pc := 64) hX dX7_isSister_64 rfl ?_
  refine aw_getI (pc := 65) hX dX7_isSister_65 f_X7_131 rfl (by rfl) ?_
  refine aw_iconst (pc := 68) hX (1 : Int32) dX7_isSister_68 (by decide) ?_
  refine aw_iadd (pc := 69) hX dX7_isSister_69 ?_
  refine aw_putI (pc := 70) hX dX7_isSister_70 f_X7_131 rfl rfl (by first | rfl | decide) (by first | rfl | decide) (by rfl) ?_
  obtain ⟨I70, hi70, h⟩ := bind_s h
  refine AW.iEq hi70 ?_
  refine aw_iconst (pc := 73) hX (1 : Int32) dX7_isSister_73 (by decide) ?_
  have e := Option.some.inj h
  subst e
  exact aw_zret hX hZ dX7_isSister_74 rfl (bI01 _) rfl rfl rfl rfl rfl rfl (Nat.le_refl _)
def b_X7_isSister_23   : Nat → Hi → Int32 → Option (Bool × Hi)
  | 0, _, _ => none
  | n + 1, I, x1 => if (6 : Int32) ≤ x1 then (b_X7_isSister_63 I) else (if vinb ((I (77) 21) + x1) 160 then if vinb (((6 : Int32) * (I (77) 28)) + x1) 24 then (some (u2 I (91) ((((6 : Int32) * (I (77) 28)) + x1)).toNatClampNeg ((I (88) (((I (77) 21) + x1)).toNatClampNeg) - (97 : Int32)))).bind fun I56 => b_X7_isSister_23 n I56 (x1 + 1) else none else none)
set_option maxRecDepth 100000 in
set_option maxHeartbeats 4000000 in
theorem t_X7_isSister_23 {G : GP} {X : CX} (hX : XOK G X mi_X7_isSister) {c d : Nat} {L : Hl} {p : Bool × Hi} (hZ : XZ G X mi_X7_isSister (some (.int (bI p.1))) S0 p.2 (R0 c d) L) : ∀ (n : Nat) (I : Hi) (x1 : Int32), b_X7_isSister_23 n I x1 = some p → AW G X 0 0 S0 I (R0 c d) L 23 [.ref 77, .int x1] [] := by
  intro n
  induction n with
  | zero => intro I x1 h; cases h
  | succ n ih =>
    intro I x1 h
    rw [b_X7_isSister_23] at h
    refine aw_iload_n (pc := 23) hX 1 dX7_isSister_23 rfl rfl ?_
    refine aw_bipush (pc := 24) hX (6 : Int32) dX7_isSister_24 (by decide) ?_
    refine aw_icmp_ge (pc := 26) hX 63 dX7_isSister_26 rfl (fun hc26 => ?_) (fun hc26 => ?_)
    · have h := ite_t h hc26
      exact AW.lo (t_X7_isSister_63 hX hZ I h) (And.intro (Or.inr rfl) (And.intro (Or.inl rfl) trivial))
    · have h := ite_f h hc26
      refine aw_aload_n (pc := 29) hX 0 dX7_isSister_29 rfl rfl ?_
      refine aw_getR (pc := 30) hX dX7_isSister_30 f_X7_54 rfl (by rfl) (q := 91) (by rfl) ?_
      refine aw_bipush (pc := 33) hX (6 : Int32) dX7_isSister_33 (by decide) ?_
      refine aw_aload_n (pc := 35) hX 0 dX7_isSister_35 rfl rfl ?_
      refine aw_getI (pc := 36) hX dX7_isSister_36 f_X7_131 rfl (by rfl) ?_
      refine aw_imul (pc := 39) hX dX7_isSister_39 ?_
      refine aw_iload_n (pc := 40) hX 1 dX7_isSister_40 rfl rfl ?_
      refine aw_iadd (pc := 41) hX dX7_isSister_41 ?_
      refine aw_aload_n (pc := 42) hX 0 dX7_isSister_42 rfl rfl ?_
      refine aw_getR (pc := 43) hX dX7_isSister_43 f_X7_45 rfl (by rfl) (q := 88) (by rfl) ?_
      refine aw_aload_n (pc := 46) hX 0 dX7_isSister_46 rfl rfl ?_
      refine aw_getI (pc := 47) hX dX7_isSister_47 f_X7_97 rfl (by rfl) ?_
      refine aw_iload_n (pc := 50) hX 1 dX7_isSister_50 rfl rfl ?_
      refine aw_iadd (pc := 51) hX dX7_isSister_51 ?_
      obtain ⟨hv52, h⟩ := ite_g h
      refine aw_iaload (pc := 52) hX dX7_isSister_52 (by rfl) (vinb_in hv52) ?_
      refine aw_bipush (pc := 53) hX (97 : Int32) dX7_isSister_53 (by decide) ?_
      refine aw_isub (pc := 55) hX dX7_isSister_55 ?_
      obtain ⟨hv56, h⟩ := ite_g h
      refine aw_iastore (pc := 56) hX dX7_isSister_56 (by rfl) (vinb_in hv56) ?_
      obtain ⟨I56, hi56, h⟩ := bind_s h
      refine AW.iEq hi56 ?_
      refine aw_iincE (pc := 57) hX (x1 + 1) [.ref 77, .int (x1 + 1)] dX7_isSister_57 rfl rfl (by decide) rfl rfl ?_
      refine aw_goto (pc := 60) hX 23 dX7_isSister_60 rfl ?_
      exact AW.lo (ih I56 (x1 + 1)  h) (And.intro (Or.inr rfl) (And.intro (Or.inr rfl) trivial))
def f_X7_isSister (I : Hi)  : Option (Bool × Hi) := if (I (77) 28) = (4 : Int32) then (some (false, I)) else ((f_X7_row I (6 : Int32) (6 : Int32)).bind fun r13 => if r13.1 = (0 : Int32) then (some (false, r13.2)) else (b_X7_isSister_23 2000 r13.2 (0 : Int32)))
set_option maxRecDepth 100000 in
set_option maxHeartbeats 4000000 in
theorem s_X7_isSister {G : GP} {c d : Nat} {I : Hi} {L : Hl}  {p : Bool × Hi} (h : f_X7_isSister I = some p) : CD G mi_X7_isSister [.ref 77] S0 I (R0 c d) L (some (.int (bI p.1))) S0 p.2 (R0 c d) L := by
  refine CD.intro 1 rfl (by decide) rfl fun X hX hZ => ?_
  rw [f_X7_isSister] at h
  show AW G X 0 0 S0 I (R0 c d) L 0 [.ref 77, .null] []
  refine aw_aload_n (pc := 0) hX 0 dX7_isSister_0 rfl rfl ?_
  refine aw_getI (pc := 1) hX dX7_isSister_1 f_X7_131 rfl (by rfl) ?_
  refine aw_iconst (pc := 4) hX (4 : Int32) dX7_isSister_4 (by decide) ?_
  refine aw_icmp_eq (pc := 5) hX 19 dX7_isSister_5 rfl (fun hc5 => ?_) (fun hc5 => ?_)
  · have h := ite_t h hc5
    refine aw_iconst (pc := 19) hX (0 : Int32) dX7_isSister_19 (by decide) ?_
    have e := Option.some.inj h
    subst e
    exact aw_zret hX hZ dX7_isSister_20 rfl (bI01 _) rfl rfl rfl rfl rfl rfl (Nat.le_refl _)
  · have h := ite_f h hc5
    refine aw_aload_n (pc := 8) hX 0 dX7_isSister_8 rfl rfl ?_
    refine aw_bipush (pc := 9) hX (6 : Int32) dX7_isSister_9 (by decide) ?_
    refine aw_bipush (pc := 11) hX (6 : Int32) dX7_isSister_11 (by decide) ?_
    obtain ⟨r13, hq13, h⟩ := bind_s h
    refine aw_V2i (pc := 13) hX h_X7_row l_X7_124 dX7_isSister_13 (by rfl) (by decide) (by rfl) rfl rfl rfl (Nat.le_of_ble_eq_true rfl) (s_X7_row  hq13) ?_
    refine aw_if_ne (pc := 16) hX 21 dX7_isSister_16 rfl (fun hc16 => ?_) (fun hc16 => ?_)
    · have h := ite_f h hc16
      refine aw_iconst (pc := 21) hX (0 : Int32) dX7_isSister_21 (by decide) ?_
      refine aw_istore_nE (pc := 22) hX 1 [.ref 77, .int (0 : Int32)] dX7_isSister_22 rfl (by decide) rfl rfl ?_
      exact AW.lo (t_X7_isSister_23 hX hZ 2000 r13.2 (0 : Int32) h) (And.intro (Or.inr rfl) (And.intro (Or.inr rfl) trivial))
    · have h := ite_t h hc16
      refine aw_iconst (pc := 19) hX (0 : Int32) dX7_isSister_19 (by decide) ?_
      have e := Option.some.inj h
      subst e
      exact aw_zret hX hZ dX7_isSister_20 rfl (bI01 _) rfl rfl rfl rfl rfl rfl (Nat.le_refl _)
def f_X7_isFriday (I : Hi)  : Option (Bool × Hi) := if (I (77) 30) = (3 : Int32) then (some (false, I)) else ((f_X7_number I (2 : Int32) (12 : Int32)).bind fun r12 => if r12.1 = true then ((f_X7_number r12.2 (0 : Int32) ((r12.2 (77) 23) - (1 : Int32))).bind fun r30 => if r30.1 = true then (if vinb (r30.2 (77) 30) 3 then (some (u2 r30.2 (92) ((r30.2 (77) 30)).toNatClampNeg (r12.2 (77) 23))).bind fun I47 => if vinb (I47 (77) 30) 3 then (some (u2 I47 (93) ((I47 (77) 30)).toNatClampNeg (I47 (77) 23))).bind fun I60 => (some (u2 I60 (77) 30 ((I60 (77) 30) + (1 : Int32)))).bind fun I68 => some (true, I68) else none else none) else (some (false, r30.2))) else (some (false, r12.2)))
set_option maxRecDepth 100000 in
set_option maxHeartbeats 4000000 in
theorem s_X7_isFriday {G : GP} {c d : Nat} {I : Hi} {L : Hl}  {p : Bool × Hi} (h : f_X7_isFriday I = some p) : CD G mi_X7_isFriday [.ref 77] S0 I (R0 c d) L (some (.int (bI p.1))) S0 p.2 (R0 c d) L := by
  refine CD.intro 1 rfl (by decide) rfl fun X hX hZ => ?_
  rw [f_X7_isFriday] at h
  show AW G X 0 0 S0 I (R0 c d) L 0 [.ref 77, .null] []
  refine aw_aload_n (pc := 0) hX 0 dX7_isFriday_0 rfl rfl ?_
  refine aw_getI (pc := 1) hX dX7_isFriday_1 f_X7_134 rfl (by rfl) ?_
  refine aw_iconst (pc := 4) hX (3 : Int32) dX7_isFriday_4 (by decide) ?_
  refine aw_icmp_eq (pc := 5) hX 18 dX7_isFriday_5 rfl (fun hc5 => ?_) (fun hc5 => ?_)
  · have h := ite_t h hc5
    refine aw_iconst (pc := 18) hX (0 : Int32) dX7_isFriday_18 (by decide) ?_
    have e := Option.some.inj h
    subst e
    exact aw_zret hX hZ dX7_isFriday_19 rfl (bI01 _) rfl rfl rfl rfl rfl rfl (Nat.le_refl _)
  · have h := ite_f h hc5
    refine aw_aload_n (pc := 8) hX 0 dX7_isFriday_8 rfl rfl ?_
    refine aw_iconst (pc := 9) hX (2 : Int32) dX7_isFriday_9 (by decide) ?_
    refine aw_bipush (pc := 10) hX (12 : Int32) dX7_isFriday_10 (by decide) ?_
    obtain ⟨r12, hq12, h⟩ := bind_s h
    refine aw_V2i (pc := 12) hX h_X7_number l_X7_137 dX7_isFriday_12 (by rfl) (by decide) (by rfl) rfl rfl rfl (Nat.le_of_ble_eq_true rfl) (s_X7_number  hq12) ?_
    refine aw_if_ne (pc := 15) hX 20 dX7_isFriday_15 rfl (fun hc15 => ?_) (fun hc15 => ?_)
    · have h := ite_t h (bI1 hc15)
      refine aw_aload_n (pc := 20) hX 0 dX7_isFriday_20 rfl rfl ?_
      refine aw_getI (pc := 21) hX dX7_isFriday_21 f_X7_100 rfl (by rfl) ?_
      refine aw_istore_nE (pc := 24) hX 1 [.ref 77, .int (r12.2 (77) 23)] dX7_isFriday_24 rfl (by decide) rfl rfl ?_
      refine aw_aload_n (pc := 25) hX 0 dX7_isFriday_25 rfl rfl ?_
      refine aw_iconst (pc := 26) hX (0 : Int32) dX7_isFriday_26 (by decide) ?_
      refine aw_iload_n (pc := 27) hX 1 dX7_isFriday_27 rfl rfl ?_
      refine aw_iconst (pc := 28) hX (1 : Int32) dX7_isFriday_28 (by decide) ?_
      refine aw_isub (pc := 29) hX dX7_isFriday_29 ?_
      obtain ⟨r30, hq30, h⟩ := bind_s h
      refine aw_V2i (pc := 30) hX h_X7_number l_X7_137 dX7_isFriday_30 (by rfl) (by decide) (by rfl) rfl rfl rfl (Nat.le_of_ble_eq_true rfl) (s_X7_number  hq30) ?_
      refine aw_if_ne (pc := 33) hX 38 dX7_isFriday_33 rfl (fun hc33 => ?_) (fun hc33 => ?_)
      · have h := ite_t h (bI1 hc33)
        refine aw_aload_n (pc := 38) hX 0 dX7_isFriday_38 rfl rfl ?_
        refine aw_getR (pc := 39) hX dX7_isFriday_39 f_X7_57 rfl (by rfl) (q := 92) (by rfl) ?_
        refine aw_aload_n (pc := 42) hX 0 dX7_isFriday_42 rfl rfl ?_
        refine aw_getI (pc := 43) hX dX7_isFriday_43 f_X7_134 rfl (by rfl) ?_
        refine aw_iload_n (pc := 46) hX 1 dX7_isFriday_46 rfl rfl ?_
        obtain ⟨hv47, h⟩ := ite_g h
        refine aw_iastore (pc := 47) hX dX7_isFriday_47 (by rfl) (vinb_in hv47) ?_
        obtain ⟨I47, hi47, h⟩ := bind_s h
        refine AW.iEq hi47 ?_
        refine aw_aload_n (pc := 48) hX 0 dX7_isFriday_48 rfl rfl ?_
        refine aw_getR (pc := 49) hX dX7_isFriday_49 f_X7_60 rfl (by rfl) (q := 93) (by rfl) ?_
        refine aw_aload_n (pc := 52) hX 0 dX7_isFriday_52 rfl rfl ?_
        refine aw_getI (pc := 53) hX dX7_isFriday_53 f_X7_134 rfl (by rfl) ?_
        refine aw_aload_n (pc := 56) hX 0 dX7_isFriday_56 rfl rfl ?_
        refine aw_getI (pc := 57) hX dX7_isFriday_57 f_X7_100 rfl (by rfl) ?_
        obtain ⟨hv60, h⟩ := ite_g h
        refine aw_iastore (pc := 60) hX dX7_isFriday_60 (by rfl) (vinb_in hv60) ?_
        obtain ⟨I60, hi60, h⟩ := bind_s h
        refine AW.iEq hi60 ?_
        refine aw_aload_n (pc := 61) hX 0 dX7_isFriday_61 rfl rfl ?_
        refine aw_dup (pc := 62) hX dX7_isFriday_62 rfl ?_
        refine aw_getI (pc := 63) hX dX7_isFriday_63 f_X7_134 rfl (by rfl) ?_
        refine aw_iconst (pc := 66) hX (1 : Int32) dX7_isFriday_66 (by decide) ?_
        refine aw_iadd (pc := 67) hX dX7_isFriday_67 ?_
        refine aw_putI (pc := 68) hX dX7_isFriday_68 f_X7_134 rfl rfl (by first | rfl | decide) (by first | rfl | decide) (by rfl) ?_
        obtain ⟨I68, hi68, h⟩ := bind_s h
        refine AW.iEq hi68 ?_
        refine aw_iconst (pc := 71) hX (1 : Int32) dX7_isFriday_71 (by decide) ?_
        have e := Option.some.inj h
        subst e
        exact aw_zret hX hZ dX7_isFriday_72 rfl (bI01 _) rfl rfl rfl rfl rfl rfl (Nat.le_refl _)
      · have h := ite_f h (bI0 hc33)
        refine aw_iconst (pc := 36) hX (0 : Int32) dX7_isFriday_36 (by decide) ?_
        have e := Option.some.inj h
        subst e
        exact aw_zret hX hZ dX7_isFriday_37 rfl (bI01 _) rfl rfl rfl rfl rfl rfl (Nat.le_refl _)
    · have h := ite_f h (bI0 hc15)
      refine aw_iconst (pc := 18) hX (0 : Int32) dX7_isFriday_18 (by decide) ?_
      have e := Option.some.inj h
      subst e
      exact aw_zret hX hZ dX7_isFriday_19 rfl (bI01 _) rfl rfl rfl rfl rfl rfl (Nat.le_refl _)
