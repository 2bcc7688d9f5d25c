def f_X7_isLane (I : Hi)  : Option (Bool × Hi) := if (0 : Int32) < (I (77) 33) then (some (false, I)) else ((f_X7_number I (1 : Int32) (9 : Int32)).bind fun r11 => if r11.1 = true then ((some (u2 r11.2 (77) 33 (r11.2 (77) 23))).bind fun I24 => some (true, I24)) else (some (false, r11.2)))
set_option maxRecDepth 100000 in
set_option maxHeartbeats 4000000 in
theorem s_X7_isLane {G : GP} {c d : Nat} {I : Hi} {L : Hl}  {p : Bool × Hi} (h : f_X7_isLane I = some p) : CD G mi_X7_isLane [.ref 77] S0 I (R0 c d) L (some (.int (bI p.1))) S0 p.2 (R0 c d) L := by
  refine CD.intro 0 rfl (by decide) rfl fun X hX hZ => ?_
  rw [f_X7_isLane] at h
  show AW G X 0 0 S0 I (R0 c d) L 0 [.ref 77] []
  refine aw_aload_n (pc := 0) hX 0 dX7_isLane_0 rfl rfl ?_
  refine aw_getI (pc := 1) hX dX7_isLane_1 f_X7_140 rfl (by rfl) ?_
  refine aw_if_gt (pc := 4) hX 17 dX7_isLane_4 rfl (fun hc4 => ?_) (fun hc4 => ?_)
  · have h := ite_t h hc4
    refine aw_iconst (pc := 17) hX (0 : Int32) dX7_isLane_17 (by decide) ?_
    have e := Option.some.inj h
    subst e
    exact aw_zret hX hZ dX7_isLane_18 rfl (bI01 _) rfl rfl rfl rfl rfl rfl (Nat.le_refl _)
  · have h := ite_f h hc4
    refine aw_aload_n (pc := 7) hX 0 dX7_isLane_7 rfl rfl ?_
    refine aw_iconst (pc := 8) hX (1 : Int32) dX7_isLane_8 (by decide) ?_
    refine aw_bipush (pc := 9) hX (9 : Int32) dX7_isLane_9 (by decide) ?_
    obtain ⟨r11, hq11, h⟩ := bind_s h
    refine aw_V2i (pc := 11) hX h_X7_number l_X7_137 dX7_isLane_11 (by rfl) (by decide) (by rfl) rfl rfl rfl (Nat.le_of_ble_eq_true rfl) (s_X7_number  hq11) ?_
    refine aw_if_ne (pc := 14) hX 19 dX7_isLane_14 rfl (fun hc14 => ?_) (fun hc14 => ?_)
    · have h := ite_t h (bI1 hc14)
      refine aw_aload_n (pc := 19) hX 0 dX7_isLane_19 rfl rfl ?_
      refine aw_aload_n (pc := 20) hX 0 dX7_isLane_20 rfl rfl ?_
      refine aw_getI (pc := 21) hX dX7_isLane_21 f_X7_100 rfl (by rfl) ?_
      refine aw_putI (pc := 24) hX dX7_isLane_24 f_X7_140 rfl rfl (by first | rfl | decide) (by first | rfl | decide) (by rfl) ?_
      obtain ⟨I24, hi24, h⟩ := bind_s h
      refine AW.iEq hi24 ?_
      refine aw_iconst (pc := 27) hX (1 : Int32) dX7_isLane_27 (by decide) ?_
      have e := Option.some.inj h
      subst e
      exact aw_zret hX hZ dX7_isLane_28 rfl (bI01 _) rfl rfl rfl rfl rfl rfl (Nat.le_refl _)
    · have h := ite_f h (bI0 hc14)
      refine aw_iconst (pc := 17) hX (0 : Int32) dX7_isLane_17 (by decide) ?_
      have e := Option.some.inj h
      subst e
      exact aw_zret hX hZ dX7_isLane_18 rfl (bI01 _) rfl rfl rfl rfl rfl rfl (Nat.le_refl _)
def f_X7_isItem (I : Hi)  : Option (Bool × Hi) := if (I (77) 22) = (1 : Int32) then (if ((I (77) 20) - (I (77) 21)) = (1 : Int32) then (if vinb (I (77) 21) 160 then if (I (88) ((I (77) 21)).toNatClampNeg) = (103 : Int32) then ((f_X7_isGoer I).bind fun r90 => some (r90.1, r90.2)) else (if (I (88) ((I (77) 21)).toNatClampNeg) = (107 : Int32) then ((f_X7_isFriday I).bind fun r100 => some (r100.1, r100.2)) else (if (I (88) ((I (77) 21)).toNatClampNeg) = (110 : Int32) then ((f_X7_isLane I).bind fun r105 => some (r105.1, r105.2)) else (if (I (88) ((I (77) 21)).toNatClampNeg) = (118 : Int32) then ((f_X7_isLeaf I).bind fun r85 => some (r85.1, r85.2)) else (if (I (88) ((I (77) 21)).toNatClampNeg) = (121 : Int32) then ((f_X7_isSister I).bind fun r95 => some (r95.1, r95.2)) else (some (false, I)))))) else none) else (some (false, I))) else (some (false, I))
set_option maxRecDepth 100000 in
set_option maxHeartbeats 4000000 in
theorem s_X7_isItem {G : GP} {c d : Nat} {I : Hi} {L : Hl}  {p : Bool × Hi} (h : f_X7_isItem I = some p) : CD G mi_X7_isItem [.ref 77] S0 I (R0 c d) L (some (.int (bI p.1))) S0 p.2 (R0 c d) L := by
  refine CD.intro 0 rfl (by decide) rfl fun X hX hZ => ?_
  rw [f_X7_isItem] at h
  show AW G X 0 0 S0 I (R0 c d) L 0 [.ref 77] []
  refine aw_aload_n (pc := 0) hX 0 dX7_isItem_0 rfl rfl ?_
  refine aw_getI (pc := 1) hX dX7_isItem_1 f_X7_103 rfl (by rfl) ?_
  refine aw_iconst (pc := 4) hX (1 : Int32) dX7_isItem_4 (by decide) ?_
  refine aw_icmp_ne (pc := 5) hX 21 dX7_isItem_5 rfl (fun hc5 => ?_) (fun hc5 => ?_)
  · have h := ite_f h hc5
    refine aw_iconst (pc := 21) hX (0 : Int32) dX7_isItem_21 (by decide) ?_
    have e := Option.some.inj h
    subst e
    exact aw_zret hX hZ dX7_isItem_22 rfl (bI01 _) rfl rfl rfl rfl rfl rfl (Nat.le_refl _)
  · have h := ite_t h hc5
    refine aw_aload_n (pc := 8) hX 0 dX7_isItem_8 rfl rfl ?_
    refine aw_getI (pc := 9) hX dX7_isItem_9 f_X7_82 rfl (by rfl) ?_
    refine aw_aload_n (pc := 12) hX 0 dX7_isItem_12 rfl rfl ?_
    refine aw_getI (pc := 13) hX dX7_isItem_13 f_X7_97 rfl (by rfl) ?_
    refine aw_isub (pc := 16) hX dX7_isItem_16 ?_
    refine aw_iconst (pc := 17) hX (1 : Int32) dX7_isItem_17 (by decide) ?_
    refine aw_icmp_eq (pc := 18) hX 23 dX7_isItem_18 rfl (fun hc18 => ?_) (fun hc18 => ?_)
    · have h := ite_t h hc18
      refine aw_aload_n (pc := 23) hX 0 dX7_isItem_23 rfl rfl ?_
      refine aw_getR (pc := 24) hX dX7_isItem_24 f_X7_45 rfl (by rfl) (q := 88) (by rfl) ?_
      refine aw_aload_n (pc := 27) hX 0 dX7_isItem_27 rfl rfl ?_
      refine aw_getI (pc := 28) hX dX7_isItem_28 f_X7_97 rfl (by rfl) ?_
      obtain ⟨hv31, h⟩ := ite_g h
      refine aw_iaload (pc := 31) hX dX7_isItem_31 (by rfl) (vinb_in hv31) ?_
      by_cases hs32_0 : (I (88) ((I (77) 21)).toNatClampNeg) = (103 : Int32)
      · have h := ite_t h hs32_0
        refine aw_lcase (pc := 32) (off := 57) hX (103 : Int32) 89 dX7_isItem_32 hs32_0 (by decide) (by decide) rfl ?_
        refine aw_aload_n (pc := 89) hX 0 dX7_isItem_89 rfl rfl ?_
        obtain ⟨r90, hq90, h⟩ := bind_s h
        refine aw_V0i (pc := 90) hX h_X7_isGoer l_X7_146 dX7_isItem_90 (by rfl) (by decide) (by rfl) rfl rfl rfl (Nat.le_of_ble_eq_true rfl) (s_X7_isGoer  hq90) ?_
        have e := Option.some.inj h
        subst e
        exact aw_zret hX hZ dX7_isItem_93 rfl (bI01 _) rfl rfl rfl rfl rfl rfl (Nat.le_refl _)
      have h := ite_f h hs32_0
      by_cases hs32_1 : (I (88) ((I (77) 21)).toNatClampNeg) = (107 : Int32)
      · have h := ite_t h hs32_1
        refine aw_lcase (pc := 32) (off := 67) hX (107 : Int32) 99 dX7_isItem_32 hs32_1 (by decide) (by decide) rfl ?_
        refine aw_aload_n (pc := 99) hX 0 dX7_isItem_99 rfl rfl ?_
        obtain ⟨r100, hq100, h⟩ := bind_s h
        refine aw_V0i (pc := 100) hX h_X7_isFriday l_X7_152 dX7_isItem_100 (by rfl) (by decide) (by rfl) rfl rfl rfl (Nat.le_of_ble_eq_true rfl) (s_X7_isFriday  hq100) ?_
        have e := Option.some.inj h
        subst e
        exact aw_zret hX hZ dX7_isItem_103 rfl (bI01 _) rfl rfl rfl rfl rfl rfl (Nat.le_refl _)
      have h := ite_f h hs32_1
      by_cases hs32_2 : (I (88) ((I (77) 21)).toNatClampNeg) = (110 : Int32)
      · have h := ite_t h hs32_2
        refine aw_lcase (pc := 32) (off := 72) hX (110 : Int32) 104 dX7_isItem_32 hs32_2 (by decide) (by decide) rfl ?_
        refine aw_aload_n (pc := 104) hX 0 dX7_isItem_104 rfl rfl ?_
        obtain ⟨r105, hq105, h⟩ := bind_s h
        refine aw_V0i (pc := 105) hX h_X7_isLane l_X7_155 dX7_isItem_105 (by rfl) (by decide) (by rfl) rfl rfl rfl (Nat.le_of_ble_eq_true rfl) (s_X7_isLane  hq105) ?_
        have e := Option.some.inj h
        subst e
        exact aw_zret hX hZ dX7_isItem_108 rfl (bI01 _) rfl rfl rfl rfl rfl rfl (Nat.le_refl _)
      have h := ite_f h hs32_2
      by_cases hs32_3 : (I (88) ((I (77) 21)).toNatClampNeg) = (118 : Int32)
      · have h := ite_t h hs32_3
        refine aw_lcase (pc := 32) (off := 52) hX (118 : Int32) 84 dX7_isItem_32 hs32_3 (by decide) (by decide) rfl ?_
        refine aw_aload_n (pc := 84) hX 0 dX7_isItem_84 rfl rfl ?_
        obtain ⟨r85, hq85, h⟩ := bind_s h
        refine aw_V0i (pc := 85) hX h_X7_isLeaf l_X7_143 dX7_isItem_85 (by rfl) (by decide) (by rfl) rfl rfl rfl (Nat.le_of_ble_eq_true rfl) (s_X7_isLeaf  hq85) ?_
        have e := Option.some.inj h
        subst e
        exact aw_zret hX hZ dX7_isItem_88 rfl (bI01 _) rfl rfl rfl rfl rfl rfl (Nat.le_refl _)
      have h := ite_f h hs32_3
      by_cases hs32_4 : (I (88) ((I (77) 21)).toNatClampNeg) = (121 : Int32)
      · have h := ite_t h hs32_4
        refine aw_lcase (pc := 32) (off := 62) hX (121 : Int32) 94 dX7_isItem_32 hs32_4 (by decide) (by decide) rfl ?_
        refine aw_aload_n (pc := 94) hX 0 dX7_isItem_94 rfl rfl ?_
        obtain ⟨r95, hq95, h⟩ := bind_s h
        refine aw_V0i (pc := 95) hX h_X7_isSister l_X7_149 dX7_isItem_95 (by rfl) (by decide) (by rfl) rfl rfl rfl (Nat.le_of_ble_eq_true rfl) (s_X7_isSister  hq95) ?_
        have e := Option.some.inj h
        subst e
        exact aw_zret hX hZ dX7_isItem_98 rfl (bI01 _) rfl rfl rfl rfl rfl rfl (Nat.le_refl _)
      have h := ite_f h hs32_4
      refine aw_lookup (pc := 32) (off := 77) hX 109 dX7_isItem_32 (by decide) (by rw [lv_osw hs32_0 (by decide), lv_osw hs32_1 (by decide), lv_osw hs32_2 (by decide), lv_osw hs32_3 (by decide), lv_osw hs32_4 (by decide)] <;> rfl) rfl ?_
      refine aw_iconst (pc := 109) hX (0 : Int32) dX7_isItem_109 (by decide) ?_
      have e := Option.some.inj h
      subst e
      exact aw_zret hX hZ dX7_isItem_110 rfl (bI01 _) rfl rfl rfl rfl rfl rfl (Nat.le_refl _)
    · have h := ite_f h hc18
      refine aw_iconst (pc := 21) hX (0 : Int32) dX7_isItem_21 (by decide) ?_
      have e := Option.some.inj h
      subst e
      exact aw_zret hX hZ dX7_isItem_22 rfl (bI01 _) rfl rfl rfl rfl rfl rfl (Nat.le_refl _)
def b_X7_reads_70   (I : Hi) : Option (Int32 × Hi) := some (((-10 : Int32) - (I (77) 21)), I)
set_option maxRecDepth 100000 in
set_option maxHeartbeats 4000000 in
theorem t_X7_reads_70 {G : GP} {X : CX} (hX : XOK G X mi_X7_reads) {c d : Nat} {L : Hl} {p : Int32 × Hi} (hZ : XZ G X mi_X7_reads (some (.int p.1)) S0 p.2 (R0 c d) L) (I : Hi) (h : b_X7_reads_70 I = some p) : AW G X 0 0 S0 I (R0 c d) L 70 [.ref 77, .null] [] := by
  rw [b_X7_reads_70] at h
  refine aw_bipush (pc := 70) hX (-10 : Int32) dX7_reads_70 (by decide) ?_
  refine aw_aload_n (pc := 72) hX 0 dX7_reads_72 rfl rfl ?_
  refine aw_getI (pc := 73) hX dX7_reads_73 f_X7_97 rfl (by rfl) ?_
  refine aw_isub (pc := 76) hX dX7_reads_76 ?_
  have e := Option.some.inj h
  subst e
  exact aw_iret hX hZ dX7_reads_77 rfl rfl rfl rfl rfl rfl rfl (Nat.le_refl _)
def b_X7_reads_50   (I : Hi) : Option (Int32 × Hi) := some (((-10 : Int32) - (I (77) 21)), I)
set_option maxRecDepth 100000 in
set_option maxHeartbeats 4000000 in
theorem t_X7_reads_50 {G : GP} {X : CX} (hX : XOK G X mi_X7_reads) {c d : Nat} {L : Hl} {p : Int32 × Hi} (hZ : XZ G X mi_X7_reads (some (.int p.1)) S0 p.2 (R0 c d) L) (I : Hi) (h : b_X7_reads_50 I = some p) : AW G X 0 0 S0 I (R0 c d) L 50 [.ref 77, .null] [] := by
  rw [b_X7_reads_50] at h
  refine aw_bipush (pc := 50) hX (-10 : Int32) dX7_reads_50 (by decide) ?_
  refine aw_aload_n (pc := 52) hX 0 dX7_reads_52 rfl rfl ?_
  refine aw_getI (pc := 53) hX dX7_reads_53 f_X7_97 rfl (by rfl) ?_
  refine aw_isub (pc := 56) hX dX7_reads_56 ?_
  have e := Option.some.inj h
  subst e
  exact aw_iret hX hZ dX7_reads_57 rfl rfl rfl rfl rfl rfl rfl (Nat.le_refl _)
def b_X7_reads_36   : Nat → Hi → Int32 → Option (Int32 × Hi)
  | 0, _, _ => none
  | n + 1, I, x1 => if (I (77) 22) = (0 : Int32) then (some (x1, I)) else ((f_X7_isItem I).bind fun r44 => if r44.1 = true then ((f_X7_step r44.2).bind fun r59 => if (r59 (77) 22) = (3 : Int32) then ((f_X7_step r59).bind fun r82 => b_X7_reads_36 n r82 (x1 + 1)) else (b_X7_reads_70 r59)) else (b_X7_reads_50 r44.2))
set_option maxRecDepth 100000 in
set_option maxHeartbeats 4000000 in
theorem t_X7_reads_36 {G : GP} {X : CX} (hX : XOK G X mi_X7_reads) {c d : Nat} {L : Hl} {p : Int32 × Hi} (hZ : XZ G X mi_X7_reads (some (.int p.1)) S0 p.2 (R0 c d) L) : ∀ (n : Nat) (I : Hi) (x1 : Int32), b_X7_reads_36 n I x1 = some p → AW G X 0 0 S0 I (R0 c d) L 36 [.ref 77, .int x1] [] := by
  intro n
  induction n with
  | zero => intro I x1 h; cases h
  | succ n ih =>
    intro I x1 h
    rw [b_X7_reads_36] at h
    refine aw_aload_n (pc := 36) hX 0 dX7_reads_36 rfl rfl ?_
    refine aw_getI (pc := 37) hX dX7_reads_37 f_X7_103 rfl (by rfl) ?_
    refine aw_if_eq (pc := 40) hX 88 dX7_reads_40 rfl (fun hc40 => ?_) (fun hc40 => ?_)
    · have h := ite_t h hc40
      refine aw_iload_n (pc := 88) hX 1 dX7_reads_88 rfl rfl ?_
      have e := Option.some.inj h
      subst e
      exact aw_iret hX hZ dX7_reads_89 rfl rfl rfl rfl rfl rfl rfl (Nat.le_refl _)
    · have h := ite_f h hc40
      refine aw_aload_n (pc := 43) hX 0 dX7_reads_43 rfl rfl ?_
      obtain ⟨r44, hq44, h⟩ := bind_s h
      refine aw_V0i (pc := 44) hX h_X7_isItem l_X7_158 dX7_reads_44 (by rfl) (by decide) (by rfl) rfl rfl rfl (Nat.le_of_ble_eq_true rfl) (s_X7_isItem  hq44) ?_
      refine aw_if_ne (pc := 47) hX 58 dX7_reads_47 rfl (fun hc47 => ?_) (fun hc47 => ?_)
      · have h := ite_t h (bI1 hc47)
        refine aw_aload_n (pc := 58) hX 0 dX7_reads_58 rfl rfl ?_
        obtain ⟨r59, hq59, h⟩ := bind_s h
        refine aw_V0v (pc := 59) hX h_X7_step l_X7_116 dX7_reads_59 (by rfl) (by decide) (by rfl) rfl rfl rfl (Nat.le_of_ble_eq_true rfl) (s_X7_step  hq59) ?_
        refine aw_aload_n (pc := 62) hX 0 dX7_reads_62 rfl rfl ?_
        refine aw_getI (pc := 63) hX dX7_reads_63 f_X7_103 rfl (by rfl) ?_
        refine aw_iconst (pc := 66) hX (3 : Int32) dX7_reads_66 (by decide) ?_
        refine aw_icmp_eq (pc := 67) hX 78 dX7_reads_67 rfl (fun hc67 => ?_) (fun hc67 => ?_)
        · have h := ite_t h hc67
          refine aw_iincE (pc := 78) hX (x1 + 1) [.ref 77, .int (x1 + 1)] dX7_reads_78 rfl rfl (by decide) rfl rfl ?_
          refine aw_aload_n (pc := 81) hX 0 dX7_reads_81 rfl rfl ?_
          obtain ⟨r82, hq82, h⟩ := bind_s h
          refine aw_V0v (pc := 82) hX h_X7_step l_X7_116 dX7_reads_82 (by rfl) (by decide) (by rfl) rfl rfl rfl (Nat.le_of_ble_eq_true rfl) (s_X7_step  hq82) ?_
          refine aw_goto (pc := 85) hX 36 dX7_reads_85 rfl ?_
          exact AW.lo (ih r82 (x1 + 1)  h) (And.intro (Or.inr rfl) (And.intro (Or.inr rfl) trivial))
        · have h := ite_f h hc67
          exact AW.lo (t_X7_reads_70 hX hZ r59 h) (And.intro (Or.inr rfl) (And.intro (Or.inl rfl) trivial))
      · have h := ite_f h (bI0 hc47)
        exact AW.lo (t_X7_reads_50 hX hZ r44.2 h) (And.intro (Or.inr rfl) (And.intro (Or.inl rfl) trivial))
def f_X7_reads (I : Hi)  : Option (Int32 × Hi) := (some (u2 I (77) 24 (0 : Int32))).bind fun I2 => (some (u2 I2 (77) 26 (0 : Int32))).bind fun I7 => (some (u2 I7 (77) 28 (0 : Int32))).bind fun I12 => (some (u2 I12 (77) 30 (0 : Int32))).bind fun I17 => (some (u2 I17 (77) 33 (0 : Int32))).bind fun I22 => (some (u2 I22 (77) 20 (0 : Int32))).bind fun I27 => (f_X7_step I27).bind fun r33 => b_X7_reads_36 2000 r33 (0 : Int32)
set_option maxRecDepth 100000 in
set_option maxHeartbeats 4000000 in
theorem s_X7_reads {G : GP} {c d : Nat} {I : Hi} {L : Hl}  {p : Int32 × Hi} (h : f_X7_reads I = some p) : CD G mi_X7_reads [.ref 77] S0 I (R0 c d) L (some (.int p.1)) S0 p.2 (R0 c d) L := by
  refine CD.intro 1 rfl (by decide) rfl fun X hX hZ => ?_
  rw [f_X7_reads] at h
  show AW G X 0 0 S0 I (R0 c d) L 0 [.ref 77, .null] []
  refine aw_aload_n (pc := 0) hX 0 dX7_reads_0 rfl rfl ?_
  refine aw_iconst (pc := 1) hX (0 : Int32) dX7_reads_1 (by decide) ?_
  refine aw_putI (pc := 2) hX dX7_reads_2 f_X7_121 rfl rfl (by first | rfl | decide) (by first | rfl | decide) (by rfl) ?_
  obtain ⟨I2, hi2, h⟩ := bind_s h
  refine AW.iEq hi2 ?_
  refine aw_aload_n (pc := 5) hX 0 dX7_reads_5 rfl rfl ?_
  refine aw_iconst (pc := 6) hX (0 : Int32) dX7_reads_6 (by decide) ?_
  refine aw_putI (pc := 7) hX dX7_reads_7 f_X7_128 rfl rfl (by first | rfl | decide) (by first | rfl | decide) (by rfl) ?_
  obtain ⟨I7, hi7, h⟩ := bind_s h
  refine AW.iEq hi7 ?_
  refine aw_aload_n (pc := 10) hX 0 dX7_reads_10 rfl rfl ?_
  refine aw_iconst (pc := 11) hX (0 : Int32) dX7_reads_11 (by decide) ?_
  refine aw_putI (pc := 12) hX dX7_reads_12 f_X7_131 rfl rfl (by first | rfl | decide) (by first | rfl | decide) (by rfl) ?_
  obtain ⟨I12, hi12, h⟩ := bind_s h
  refine AW.iEq hi12 ?_
  refine aw_aload_n (pc := 15) hX 0 dX7_reads_15 rfl rfl ?_
  refine aw_iconst (pc := 16) hX (0 : Int32) dX7_reads_16 (by decide) ?_
  refine aw_putI (pc := 17) hX dX7_reads_17 f_X7_134 rfl rfl (by first | rfl | decide) (by first | rfl | decide) (by rfl) ?_
  obtain ⟨I17, hi17, h⟩ := bind_s h
  refine AW.iEq hi17 ?_
  refine aw_aload_n (pc := 20) hX 0 dX7_reads_20 rfl rfl ?_
  refine aw_iconst (pc := 21) hX (0 : Int32) dX7_reads_21 (by decide) ?_
  refine aw_putI (pc := 22) hX dX7_reads_22 f_X7_140 rfl rfl (by first | rfl | decide) (by first | rfl | decide) (by rfl) ?_
  obtain ⟨I22, hi22, h⟩ := bind_s h
  refine AW.iEq hi22 ?_
  refine aw_aload_n (pc := 25) hX 0 dX7_reads_25 rfl rfl ?_
  refine aw_iconst (pc := 26) hX (0 : Int32) dX7_reads_26 (by decide) ?_
  refine aw_putI (pc := 27) hX dX7_reads_27 f_X7_82 rfl rfl (by first | rfl | decide) (by first | rfl | decide) (by rfl) ?_
  obtain ⟨I27, hi27, h⟩ := bind_s h
  refine AW.iEq hi27 ?_
  refine aw_iconst (pc := 30) hX (0 : Int32) dX7_reads_30 (by decide) ?_
  refine aw_istore_nE (pc := 31) hX 1 [.ref 77, .int (0 : Int32)] dX7_reads_31 rfl (by decide) rfl rfl ?_
  refine aw_aload_n (pc := 32) hX 0 dX7_reads_32 rfl rfl ?_
  obtain ⟨r33, hq33, h⟩ := bind_s h
  refine aw_V0v (pc := 33) hX h_X7_step l_X7_116 dX7_reads_33 (by rfl) (by decide) (by rfl) rfl rfl rfl (Nat.le_of_ble_eq_true rfl) (s_X7_step  hq33) ?_
  exact AW.lo (t_X7_reads_36 hX hZ 2000 r33 (0 : Int32) h) (And.intro (Or.inr rfl) (And.intro (Or.inr rfl) trivial))
def b_X7_court_155   (I : Hi) (x1 : Int32) : Option (Int32 × Hi) := (some (u2 I (77) 12 (0 : Int32))).bind fun I157 => (some (u2 I157 (77) 16 (0 : Int32))).bind fun I162 => if vinb (0 : Int32) 2 then (some (u2 I162 (86) ((0 : Int32)).toNatClampNeg (0 : Int32))).bind fun I171 => if vinb (1 : Int32) 2 then (some (u2 I171 (86) ((1 : Int32)).toNatClampNeg (0 : Int32))).bind fun I178 => (some (u2 I178 (77) 19 (0 : Int32))).bind fun I181 => some (x1, I181) else none else none
set_option maxRecDepth 100000 in
set_option maxHeartbeats 4000000 in
theorem t_X7_court_155 {G : GP} {X : CX} (hX : XOK G X mi_X7_court) {c d : Nat} {L : Hl} {p : Int32 × Hi} (hZ : XZ G X mi_X7_court (some (.int p.1)) S0 p.2 (R0 c d) L) (I : Hi) (x1 : Int32) (h : b_X7_court_155 I x1 = some p) : AW G X 0 0 S0 I (R0 c d) L 155 [.ref 77, .int x1, .null] [] := by
  rw [b_X7_court_155] at h
  refine aw_aload_n (pc := 155) hX 0 dX7_court_155 rfl rfl ?_
  refine aw_iconst (pc := 156) hX (0 : Int32) dX7_court_156 (by decide) ?_
  refine aw_putI (pc := 157) hX dX7_court_157 f_X7_180 rfl rfl (by first | rfl | decide) (by first | rfl | decide) (by rfl) ?_
  obtain ⟨I157, hi157, h⟩ := bind_s h
  refine AW.iEq hi157 ?_
  refine aw_aload_n (pc := 160) hX 0 dX7_court_160 rfl rfl ?_
  refine aw_iconst (pc := 161) hX (0 : Int32) dX7_court_161 (by decide) ?_
  refine aw_putI (pc := 162) hX dX7_court_162 f_X7_183 rfl rfl (by first | rfl | decide) (by first | rfl | decide) (by rfl) ?_
  obtain ⟨I162, hi162, h⟩ := bind_s h
  refine AW.iEq hi162 ?_
  refine aw_aload_n (pc := 165) hX 0 dX7_court_165 rfl rfl ?_
  refine aw_getR (pc := 166) hX dX7_court_166 f_X7_38 rfl (by rfl) (q := 86) (by rfl) ?_
  refine aw_iconst (pc := 169) hX (0 : Int32) dX7_court_169 (by decide) ?_
  refine aw_iconst (pc := 170) hX (0 : Int32) dX7_court_170 (by decide) ?_
  obtain ⟨hv171, h⟩ := ite_g h
  refine aw_bastore (pc := 171) hX dX7_court_171 (by rfl) (vinb_in hv171) (by decide) ?_
  obtain ⟨I171, hi171, h⟩ := bind_s h
  refine AW.iEq hi171 ?_
  refine aw_aload_n (pc := 172) hX 0 dX7_court_172 rfl rfl ?_
  refine aw_getR (pc := 173) hX dX7_court_173 f_X7_38 rfl (by rfl) (q := 86) (by rfl) ?_
  refine aw_iconst (pc := 176) hX (1 : Int32) dX7_court_176 (by decide) ?_
  refine aw_iconst (pc := 177) hX (0 : Int32) dX7_court_177 (by decide) ?_
  obtain ⟨hv178, h⟩ := ite_g h
  refine aw_bastore (pc := 178) hX dX7_court_178 (by rfl) (vinb_in hv178) (by decide) ?_
  obtain ⟨I178, hi178, h⟩ := bind_s h
  refine AW.iEq hi178 ?_
  refine aw_aload_n (pc := 179) hX 0 dX7_court_179 rfl rfl ?_
  refine aw_iconst (pc := 180) hX (0 : Int32) dX7_court_180 (by decide) ?_
  refine aw_putI (pc := 181) hX dX7_court_181 f_X7_79 rfl rfl (by first | rfl | decide) (by first | rfl | decide) (by rfl) ?_
  obtain ⟨I181, hi181, h⟩ := bind_s h
  refine AW.iEq hi181 ?_
  refine aw_iload_n (pc := 184) hX 1 dX7_court_184 rfl rfl ?_
  have e := Option.some.inj h
  subst e
  exact aw_iret hX hZ dX7_court_185 rfl rfl rfl rfl rfl rfl rfl (Nat.le_refl _)
def b_X7_court_136   : Nat → Hi → Int32 → Int32 → Option (Int32 × Hi)
  | 0, _, _, _ => none
  | n + 1, I, x1, x2 => if (21 : Int32) ≤ x2 then (b_X7_court_155 I x1) else (if vinb x2 21 then (some (u2 I (83) (x2).toNatClampNeg (0 : Int32))).bind fun I148 => b_X7_court_136 n I148 x1 (x2 + 1) else none)
set_option maxRecDepth 100000 in
set_option maxHeartbeats 4000000 in
theorem t_X7_court_136 {G : GP} {X : CX} (hX : XOK G X mi_X7_court) {c d : Nat} {L : Hl} {p : Int32 × Hi} (hZ : XZ G X mi_X7_court (some (.int p.1)) S0 p.2 (R0 c d) L) : ∀ (n : Nat) (I : Hi) (x1 : Int32) (x2 : Int32), b_X7_court_136 n I x1 x2 = some p → AW G X 0 0 S0 I (R0 c d) L 136 [.ref 77, .int x1, .int x2] [] := by
  intro n
  induction n with
  | zero => intro I x1 x2 h; cases h
  | succ n ih =>
    intro I x1 x2 h
    rw [b_X7_court_136] at h
    refine aw_iload_n (pc := 136) hX 2 dX7_court_136 rfl rfl ?_
    refine aw_bipush (pc := 137) hX (21 : Int32) dX7_court_137 (by decide) ?_
    refine aw_icmp_ge (pc := 139) hX 155 dX7_court_139 rfl (fun hc139 => ?_) (fun hc139 => ?_)
    · have h := ite_t h hc139
      exact AW.lo (t_X7_court_155 hX hZ I x1 h) (And.intro (Or.inr rfl) (And.intro (Or.inr rfl) (And.intro (Or.inl rfl) trivial)))
    · have h := ite_f h hc139
      refine aw_aload_n (pc := 142) hX 0 dX7_court_142 rfl rfl ?_
      refine aw_getR (pc := 143) hX dX7_court_143 f_X7_29 rfl (by rfl) (q := 83) (by rfl) ?_
      refine aw_iload_n (pc := 146) hX 2 dX7_court_146 rfl rfl ?_
      refine aw_iconst (pc := 147) hX (0 : Int32) dX7_court_147 (by decide) ?_
      obtain ⟨hv148, h⟩ := ite_g h
      refine aw_iastore (pc := 148) hX dX7_court_148 (by rfl) (vinb_in hv148) ?_
      obtain ⟨I148, hi148, h⟩ := bind_s h
      refine AW.iEq hi148 ?_
      refine aw_iincE (pc := 149) hX (x2 + 1) [.ref 77, .int x1, .int (x2 + 1)] dX7_court_149 rfl rfl (by decide) rfl rfl ?_
      refine aw_goto (pc := 152) hX 136 dX7_court_152 rfl ?_
      exact AW.lo (ih I148 x1 (x2 + 1)  h) (And.intro (Or.inr rfl) (And.intro (Or.inr rfl) (And.intro (Or.inr rfl) trivial)))
def b_X7_court_59   (I : Hi) (x1 : Int32) (xs0 : Int32) : Option (Int32 × Hi) := (some (u2 I (77) 9 xs0)).bind fun I59 => (f_X7_copies (89) 5 (78) 5 I59 (0 : Int32) (0 : Int32) (5 : Int32)).bind fun r73 => (f_X7_copies (90) 6 (79) 6 r73 (0 : Int32) (0 : Int32) (6 : Int32)).bind fun r88 => (f_X7_copies (91) 24 (80) 24 r88 (0 : Int32) (0 : Int32) (24 : Int32)).bind fun r103 => (f_X7_copies (92) 3 (81) 3 r103 (0 : Int32) (0 : Int32) (3 : Int32)).bind fun r117 => (f_X7_copies (93) 3 (82) 3 r117 (0 : Int32) (0 : Int32) (3 : Int32)).bind fun r131 => b_X7_court_136 2000 r131 x1 (0 : Int32)
set_option maxRecDepth 100000 in
set_option maxHeartbeats 4000000 in
theorem t_X7_court_59 {G : GP} {X : CX} (hX : XOK G X mi_X7_court) {c d : Nat} {L : Hl} {p : Int32 × Hi} (hZ : XZ G X mi_X7_court (some (.int p.1)) S0 p.2 (R0 c d) L) (I : Hi) (x1 : Int32) (xs0 : Int32) (h : b_X7_court_59 I x1 xs0 = some p) : AW G X 0 0 S0 I (R0 c d) L 59 [.ref 77, .int x1, .null] [.int xs0, .ref 77] := by
  rw [b_X7_court_59] at h
  refine aw_putI (pc := 59) hX dX7_court_59 f_X7_25 rfl rfl (by first | rfl | decide) (by first | rfl | decide) (by rfl) ?_
  obtain ⟨I59, hi59, h⟩ := bind_s h
  refine AW.iEq hi59 ?_
  refine aw_aload_n (pc := 62) hX 0 dX7_court_62 rfl rfl ?_
  refine aw_getR (pc := 63) hX dX7_court_63 f_X7_48 rfl (by rfl) (q := 89) (by rfl) ?_
  refine aw_iconst (pc := 66) hX (0 : Int32) dX7_court_66 (by decide) ?_
  refine aw_aload_n (pc := 67) hX 0 dX7_court_67 rfl rfl ?_
  refine aw_getR (pc := 68) hX dX7_court_68 f_X7_7 rfl (by rfl) (q := 78) (by rfl) ?_
  refine aw_iconst (pc := 71) hX (0 : Int32) dX7_court_71 (by decide) ?_
  refine aw_iconst (pc := 72) hX (5 : Int32) dX7_court_72 (by decide) ?_
  obtain ⟨r73, hq73, h⟩ := bind_s h
  refine aw_S5v (pc := 73) hX h_X7_copies l_X7_176 dX7_court_73 rfl rfl rfl (Nat.le_of_ble_eq_true rfl) (s_X7_copies (by rfl) (by rfl) hq73) ?_
  refine aw_aload_n (pc := 76) hX 0 dX7_court_76 rfl rfl ?_
  refine aw_getR (pc := 77) hX dX7_court_77 f_X7_51 rfl (by rfl) (q := 90) (by rfl) ?_
  refine aw_iconst (pc := 80) hX (0 : Int32) dX7_court_80 (by decide) ?_
  refine aw_aload_n (pc := 81) hX 0 dX7_court_81 rfl rfl ?_
  refine aw_getR (pc := 82) hX dX7_court_82 f_X7_13 rfl (by rfl) (q := 79) (by rfl) ?_
  refine aw_iconst (pc := 85) hX (0 : Int32) dX7_court_85 (by decide) ?_
  refine aw_bipush (pc := 86) hX (6 : Int32) dX7_court_86 (by decide) ?_
  obtain ⟨r88, hq88, h⟩ := bind_s h
  refine aw_S5v (pc := 88) hX h_X7_copies l_X7_176 dX7_court_88 rfl rfl rfl (Nat.le_of_ble_eq_true rfl) (s_X7_copies (by rfl) (by rfl) hq88) ?_
  refine aw_aload_n (pc := 91) hX 0 dX7_court_91 rfl rfl ?_
  refine aw_getR (pc := 92) hX dX7_court_92 f_X7_54 rfl (by rfl) (q := 91) (by rfl) ?_
  refine aw_iconst (pc := 95) hX (0 : Int32) dX7_court_95 (by decide) ?_
  refine aw_aload_n (pc := 96) hX 0 dX7_court_96 rfl rfl ?_
  refine aw_getR (pc := 97) hX dX7_court_97 f_X7_16 rfl (by rfl) (q := 80) (by rfl) ?_
  refine aw_iconst (pc := 100) hX (0 : Int32) dX7_court_100 (by decide) ?_
  refine aw_bipush (pc := 101) hX (24 : Int32) dX7_court_101 (by decide) ?_
  obtain ⟨r103, hq103, h⟩ := bind_s h
  refine aw_S5v (pc := 103) hX h_X7_copies l_X7_176 dX7_court_103 rfl rfl rfl (Nat.le_of_ble_eq_true rfl) (s_X7_copies (by rfl) (by rfl) hq103) ?_
  refine aw_aload_n (pc := 106) hX 0 dX7_court_106 rfl rfl ?_
  refine aw_getR (pc := 107) hX dX7_court_107 f_X7_57 rfl (by rfl) (q := 92) (by rfl) ?_
  refine aw_iconst (pc := 110) hX (0 : Int32) dX7_court_110 (by decide) ?_
  refine aw_aload_n (pc := 111) hX 0 dX7_court_111 rfl rfl ?_
  refine aw_getR (pc := 112) hX dX7_court_112 f_X7_19 rfl (by rfl) (q := 81) (by rfl) ?_
  refine aw_iconst (pc := 115) hX (0 : Int32) dX7_court_115 (by decide) ?_
  refine aw_iconst (pc := 116) hX (3 : Int32) dX7_court_116 (by decide) ?_
  obtain ⟨r117, hq117, h⟩ := bind_s h
  refine aw_S5v (pc := 117) hX h_X7_copies l_X7_176 dX7_court_117 rfl rfl rfl (Nat.le_of_ble_eq_true rfl) (s_X7_copies (by rfl) (by rfl) hq117) ?_
  refine aw_aload_n (pc := 120) hX 0 dX7_court_120 rfl rfl ?_
  refine aw_getR (pc := 121) hX dX7_court_121 f_X7_60 rfl (by rfl) (q := 93) (by rfl) ?_
  refine aw_iconst (pc := 124) hX (0 : Int32) dX7_court_124 (by decide) ?_
  refine aw_aload_n (pc := 125) hX 0 dX7_court_125 rfl rfl ?_
  refine aw_getR (pc := 126) hX dX7_court_126 f_X7_22 rfl (by rfl) (q := 82) (by rfl) ?_
  refine aw_iconst (pc := 129) hX (0 : Int32) dX7_court_129 (by decide) ?_
  refine aw_iconst (pc := 130) hX (3 : Int32) dX7_court_130 (by decide) ?_
  obtain ⟨r131, hq131, h⟩ := bind_s h
  refine aw_S5v (pc := 131) hX h_X7_copies l_X7_176 dX7_court_131 rfl rfl rfl (Nat.le_of_ble_eq_true rfl) (s_X7_copies (by rfl) (by rfl) hq131) ?_
  refine aw_iconst (pc := 134) hX (0 : Int32) dX7_court_134 (by decide) ?_
  refine aw_istore_nE (pc := 135) hX 2 [.ref 77, .int x1, .int (0 : Int32)] dX7_court_135 rfl (by decide) rfl rfl ?_
  exact AW.lo (t_X7_court_136 hX hZ 2000 r131 x1 (0 : Int32) h) (And.intro (Or.inr rfl) (And.intro (Or.inr rfl) (And.intro (Or.inr rfl) trivial)))
def f_X7_court (I : Hi)  : Option (Int32 × Hi) := (f_X7_reads I).bind fun r1 => if (0 : Int32) ≤ r1.1 then ((some (u2 r1.2 (77) 0 (r1.2 (77) 24))).bind fun I16 => (some (u2 I16 (77) 2 (I16 (77) 26))).bind fun I24 => (some (u2 I24 (77) 4 (I24 (77) 28))).bind fun I32 => (some (u2 I32 (77) 6 (I32 (77) 30))).bind fun I40 => if (I40 (77) 33) = (0 : Int32) then (b_X7_court_59 I40 r1.1 (3 : Int32)) else (b_X7_court_59 I40 r1.1 (I40 (77) 33))) else (some (r1.1, r1.2))
set_option maxRecDepth 100000 in
set_option maxHeartbeats 4000000 in
theorem s_X7_court {G : GP} {c d : Nat} {I : Hi} {L : Hl}  {p : Int32 × Hi} (h : f_X7_court I = some p) : CD G mi_X7_court [.ref 77] S0 I (R0 c d) L (some (.int p.1)) S0 p.2 (R0 c d) L := by
  refine CD.intro 2 rfl (by decide) rfl fun X hX hZ => ?_
  rw [f_X7_court] at h
  show AW G X 0 0 S0 I (R0 c d) L 0 [.ref 77, .null, .null] []
  refine aw_aload_n (pc := 0) hX 0 dX7_court_0 rfl rfl ?_
  obtain ⟨r1, hq1, h⟩ := bind_s h
  refine aw_V0i (pc := 1) hX h_X7_reads l_X7_161 dX7_court_1 (by rfl) (by decide) (by rfl) rfl rfl rfl (Nat.le_of_ble_eq_true rfl) (s_X7_reads  hq1) ?_
  refine aw_istore_nE (pc := 4) hX 1 [.ref 77, .int r1.1, .null] dX7_court_4 rfl (by decide) rfl rfl ?_
  refine aw_iload_n (pc := 5) hX 1 dX7_court_5 rfl rfl ?_
  refine aw_if_ge (pc := 6) hX 11 dX7_court_6 rfl (fun hc6 => ?_) (fun hc6 => ?_)
  · have h := ite_t h hc6
    refine aw_aload_n (pc := 11) hX 0 dX7_court_11 rfl rfl ?_
    refine aw_aload_n (pc := 12) hX 0 dX7_court_12 rfl rfl ?_
    refine aw_getI (pc := 13) hX dX7_court_13 f_X7_121 rfl (by rfl) ?_
    refine aw_putI (pc := 16) hX dX7_court_16 f_X7_164 rfl rfl (by first | rfl | decide) (by first | rfl | decide) (by rfl) ?_
    obtain ⟨I16, hi16, h⟩ := bind_s h
    refine AW.iEq hi16 ?_
    refine aw_aload_n (pc := 19) hX 0 dX7_court_19 rfl rfl ?_
    refine aw_aload_n (pc := 20) hX 0 dX7_court_20 rfl rfl ?_
    refine aw_getI (pc := 21) hX dX7_court_21 f_X7_128 rfl (by rfl) ?_
    refine aw_putI (pc := 24) hX dX7_court_24 f_X7_167 rfl rfl (by first | rfl | decide) (by first | rfl | decide) (by rfl) ?_
    obtain ⟨I24, hi24, h⟩ := bind_s h
    refine AW.iEq hi24 ?_
    refine aw_aload_n (pc := 27) hX 0 dX7_court_27 rfl rfl ?_
    refine aw_aload_n (pc := 28) hX 0 dX7_court_28 rfl rfl ?_
    refine aw_getI (pc := 29) hX dX7_court_29 f_X7_131 rfl (by rfl) ?_
    refine aw_putI (pc := 32) hX dX7_court_32 f_X7_170 rfl rfl (by first | rfl | decide) (by first | rfl | decide) (by rfl) ?_
    obtain ⟨I32, hi32, h⟩ := bind_s h
    refine AW.iEq hi32 ?_
    refine aw_aload_n (pc := 35) hX 0 dX7_court_35 rfl rfl ?_
    refine aw_aload_n (pc := 36) hX 0 dX7_court_36 rfl rfl ?_
    refine aw_getI (pc := 37) hX dX7_court_37 f_X7_134 rfl (by rfl) ?_
    refine aw_putI (pc := 40) hX dX7_court_40 f_X7_173 rfl rfl (by first | rfl | decide) (by first | rfl | decide) (by rfl) ?_
    obtain ⟨I40, hi40, h⟩ := bind_s h
    refine AW.iEq hi40 ?_
    refine aw_aload_n (pc := 43) hX 0 dX7_court_43 rfl rfl ?_
    refine aw_aload_n (pc := 44) hX 0 dX7_court_44 rfl rfl ?_
    refine aw_getI (pc := 45) hX dX7_court_45 f_X7_140 rfl (by rfl) ?_
    refine aw_if_ne (pc := 48) hX 55 dX7_court_48 rfl (fun hc48 => ?_) (fun hc48 => ?_)
    · have h := ite_f h hc48
      refine aw_aload_n (pc := 55) hX 0 dX7_court_55 rfl rfl ?_
      refine aw_getI (pc := 56) hX dX7_court_56 f_X7_140 rfl (by rfl) ?_
      exact AW.lo (t_X7_court_59 hX hZ I40 r1.1 (I40 (77) 33) h) (And.intro (Or.inr rfl) (And.intro (Or.inr rfl) (And.intro (Or.inl rfl) trivial)))
    · have h := ite_t h hc48
      refine aw_iconst (pc := 51) hX (3 : Int32) dX7_court_51 (by decide) ?_
      refine aw_goto (pc := 52) hX 59 dX7_court_52 rfl ?_
      exact AW.lo (t_X7_court_59 hX hZ I40 r1.1 (3 : Int32) h) (And.intro (Or.inr rfl) (And.intro (Or.inr rfl) (And.intro (Or.inl rfl) trivial)))
  · have h := ite_f h hc6
    refine aw_iload_n (pc := 9) hX 1 dX7_court_9 rfl rfl ?_
    have e := Option.some.inj h
    subst e
    exact aw_iret hX hZ dX7_court_10 rfl rfl rfl rfl rfl rfl rfl (Nat.le_refl _)
def f_X7_isTheLeaf (I : Hi) (x1 : Int32) : Option (Bool) := (f_X7_in (x1).toInt64 (0 : Int64) (((I (77) 0) - (1 : Int32))).toInt64).bind fun r10 => some (r10)
set_option maxRecDepth 100000 in
set_option maxHeartbeats 4000000 in
theorem s_X7_isTheLeaf {G : GP} {c d : Nat} {I : Hi} {L : Hl} {x1 : Int32} {p : Bool} (h : f_X7_isTheLeaf I x1 = some p) : CD G mi_X7_isTheLeaf [.ref 77, .int x1] S0 I (R0 c d) L (some (.int (bI p))) S0 I (R0 c d) L := by
  refine CD.intro 0 rfl (by decide) rfl fun X hX hZ => ?_
  rw [f_X7_isTheLeaf] at h
  show AW G X 0 0 S0 I (R0 c d) L 0 [.ref 77, .int x1] []
  refine aw_iload_n (pc := 0) hX 1 dX7_isTheLeaf_0 rfl rfl ?_
  refine aw_i2l (pc := 1) hX dX7_isTheLeaf_1 ?_
  refine aw_lconst (pc := 2) hX (0 : Int64) dX7_isTheLeaf_2 (by decide) ?_
  refine aw_aload_n (pc := 3) hX 0 dX7_isTheLeaf_3 rfl rfl ?_
  refine aw_getI (pc := 4) hX dX7_isTheLeaf_4 f_X7_164 rfl (by rfl) ?_
  refine aw_iconst (pc := 7) hX (1 : Int32) dX7_isTheLeaf_7 (by decide) ?_
  refine aw_isub (pc := 8) hX dX7_isTheLeaf_8 ?_
  refine aw_i2l (pc := 9) hX dX7_isTheLeaf_9 ?_
  obtain ⟨r10, hq10, h⟩ := bind_s h
  refine aw_S3i (pc := 10) hX h_X7_in l_X7_75 dX7_isTheLeaf_10 rfl rfl rfl (Nat.le_of_ble_eq_true rfl) (s_X7_in  hq10) ?_
  have e := Option.some.inj h
  subst e
  exact aw_zret hX hZ dX7_isTheLeaf_13 rfl (bI01 _) rfl rfl rfl rfl rfl rfl (Nat.le_refl _)
def f_X7_isOne (I : Hi) (x1 : Int32) : Option (Bool) := (f_X7_in (x1).toInt64 (0 : Int64) (((I (77) 2) - (1 : Int32))).toInt64).bind fun r10 => some (r10)
set_option maxRecDepth 100000 in
set_option maxHeartbeats 4000000 in
theorem s_X7_isOne {G : GP} {c d : Nat} {I : Hi} {L : Hl} {x1 : Int32} {p : Bool} (h : f_X7_isOne I x1 = some p) : CD G mi_X7_isOne [.ref 77, .int x1] S0 I (R0 c d) L (some (.int (bI p))) S0 I (R0 c d) L := by
  refine CD.intro 0 rfl (by decide) rfl fun X hX hZ => ?_
  rw [f_X7_isOne] at h
  show AW G X 0 0 S0 I (R0 c d) L 0 [.ref 77, .int x1] []
  refine aw_iload_n (pc := 0) hX 1 dX7_isOne_0 rfl rfl ?_
  refine aw_i2l (pc := 1) hX dX7_isOne_1 ?_
  refine aw_lconst (pc := 2) hX (0 : Int64) dX7_isOne_2 (by decide) ?_
  refine aw_aload_n (pc := 3) hX 0 dX7_isOne_3 rfl rfl ?_
  refine aw_getI (pc := 4) hX dX7_isOne_4 f_X7_167 rfl (by rfl) ?_
  refine aw_iconst (pc := 7) hX (1 : Int32) dX7_isOne_7 (by decide) ?_
  refine aw_isub (pc := 8) hX dX7_isOne_8 ?_
  refine aw_i2l (pc := 9) hX dX7_isOne_9 ?_
  obtain ⟨r10, hq10, h⟩ := bind_s h
  refine aw_S3i (pc := 10) hX h_X7_in l_X7_75 dX7_isOne_10 rfl rfl rfl (Nat.le_of_ble_eq_true rfl) (s_X7_in  hq10) ?_
  have e := Option.some.inj h
  subst e
  exact aw_zret hX hZ dX7_isOne_13 rfl (bI01 _) rfl rfl rfl rfl rfl rfl (Nat.le_refl _)
def f_X7_isTaste  (x0 : Int32) : Option (Bool) := (f_X7_in (x0).toInt64 (0 : Int64) (5 : Int64)).bind fun r6 => some (r6)
set_option maxRecDepth 100000 in
set_option maxHeartbeats 4000000 in
theorem s_X7_isTaste {G : GP} {c d : Nat} {I : Hi} {L : Hl} {x0 : Int32} {p : Bool} (h : f_X7_isTaste x0 = some p) : CD G mi_X7_isTaste [.int x0] S0 I (R0 c d) L (some (.int (bI p))) S0 I (R0 c d) L := by
  refine CD.intro 0 rfl (by decide) rfl fun X hX hZ => ?_
  rw [f_X7_isTaste] at h
  show AW G X 0 0 S0 I (R0 c d) L 0 [.int x0] []
  refine aw_iload_n (pc := 0) hX 0 dX7_isTaste_0 rfl rfl ?_
  refine aw_i2l (pc := 1) hX dX7_isTaste_1 ?_
  refine aw_lconst (pc := 2) hX (0 : Int64) dX7_isTaste_2 (by decide) ?_
  refine aw_ldc2 (pc := 3) hX dX7_isTaste_3 v_X7_186 ?_
  obtain ⟨r6, hq6, h⟩ := bind_s h
  refine aw_S3i (pc := 6) hX h_X7_in l_X7_75 dX7_isTaste_6 rfl rfl rfl (Nat.le_of_ble_eq_true rfl) (s_X7_in  hq6) ?_
  have e := Option.some.inj h
  subst e
  exact aw_zret hX hZ dX7_isTaste_9 rfl (bI01 _) rfl rfl rfl rfl rfl rfl (Nat.le_refl _)
def f_X7_isBit  (x0 : Int32) : Option (Bool) := (f_X7_in (x0).toInt64 (0 : Int64) (1 : Int64)).bind fun r4 => some (r4)
set_option maxRecDepth 100000 in
set_option maxHeartbeats 4000000 in
theorem s_X7_isBit {G : GP} {c d : Nat} {I : Hi} {L : Hl} {x0 : Int32} {p : Bool} (h : f_X7_isBit x0 = some p) : CD G mi_X7_isBit [.int x0] S0 I (R0 c d) L (some (.int (bI p))) S0 I (R0 c d) L := by
  refine CD.intro 0 rfl (by decide) rfl fun X hX hZ => ?_
  rw [f_X7_isBit] at h
  show AW G X 0 0 S0 I (R0 c d) L 0 [.int x0] []
  refine aw_iload_n (pc := 0) hX 0 dX7_isBit_0 rfl rfl ?_
  refine aw_i2l (pc := 1) hX dX7_isBit_1 ?_
  refine aw_lconst (pc := 2) hX (0 : Int64) dX7_isBit_2 (by decide) ?_
  refine aw_lconst (pc := 3) hX (1 : Int64) dX7_isBit_3 (by decide) ?_
  obtain ⟨r4, hq4, h⟩ := bind_s h
  refine aw_S3i (pc := 4) hX h_X7_in l_X7_75 dX7_isBit_4 rfl rfl rfl (Nat.le_of_ble_eq_true rfl) (s_X7_in  hq4) ?_
  have e := Option.some.inj h
  subst e
  exact aw_zret hX hZ dX7_isBit_7 rfl (bI01 _) rfl rfl rfl rfl rfl rfl (Nat.le_refl _)
def f_X7_lets (I : Hi) (x1 : Int32) (x2 : Int32) : Option (Bool) := if vinb x1 5 then if vinb x2 6 then if ((I (78) (x1).toNatClampNeg) &&& (I (79) (x2).toNatClampNeg)) = (0 : Int32) then (some (false)) else (some (true)) else none else none
set_option maxRecDepth 100000 in
set_option maxHeartbeats 4000000 in
theorem s_X7_lets {G : GP} {c d : Nat} {I : Hi} {L : Hl} {x1 : Int32} {x2 : Int32} {p : Bool} (h : f_X7_lets I x1 x2 = some p) : CD G mi_X7_lets [.ref 77, .int x1, .int x2] S0 I (R0 c d) L (some (.int (bI p))) S0 I (R0 c d) L := by
  refine CD.intro 0 rfl (by decide) rfl fun X hX hZ => ?_
  rw [f_X7_lets] at h
  show AW G X 0 0 S0 I (R0 c d) L 0 [.ref 77, .int x1, .int x2] []
  refine aw_aload_n (pc := 0) hX 0 dX7_lets_0 rfl rfl ?_
  refine aw_getR (pc := 1) hX dX7_lets_1 f_X7_7 rfl (by rfl) (q := 78) (by rfl) ?_
  refine aw_iload_n (pc := 4) hX 1 dX7_lets_4 rfl rfl ?_
  obtain ⟨hv5, h⟩ := ite_g h
  refine aw_iaload (pc := 5) hX dX7_lets_5 (by rfl) (vinb_in hv5) ?_
  refine aw_aload_n (pc := 6) hX 0 dX7_lets_6 rfl rfl ?_
  refine aw_getR (pc := 7) hX dX7_lets_7 f_X7_13 rfl (by rfl) (q := 79) (by rfl) ?_
  refine aw_iload_n (pc := 10) hX 2 dX7_lets_10 rfl rfl ?_
  obtain ⟨hv11, h⟩ := ite_g h
  refine aw_iaload (pc := 11) hX dX7_lets_11 (by rfl) (vinb_in hv11) ?_
  refine aw_iand (pc := 12) hX dX7_lets_12 ?_
  refine aw_if_eq (pc := 13) hX 20 dX7_lets_13 rfl (fun hc13 => ?_) (fun hc13 => ?_)
  · have h := ite_t h hc13
    refine aw_iconst (pc := 20) hX (0 : Int32) dX7_lets_20 (by decide) ?_
    have e := Option.some.inj h
    subst e
    exact aw_zret hX hZ dX7_lets_21 rfl (bI01 _) rfl rfl rfl rfl rfl rfl (Nat.le_refl _)
  · have h := ite_f h hc13
    refine aw_iconst (pc := 16) hX (1 : Int32) dX7_lets_16 (by decide) ?_
    refine aw_goto (pc := 17) hX 21 dX7_lets_17 rfl ?_
    have e := Option.some.inj h
    subst e
    exact aw_zret hX hZ dX7_lets_21 rfl (bI01 _) rfl rfl rfl rfl rfl rfl (Nat.le_refl _)
def b_X7_letsBy_29 (I : Hi) (k4 : Int32 → Int32 → Int32 → Option (Int32)) (x1 : Int32) (x3 : Int32) (xs0 : Int32) (xs1 : Int32) : Option (Int32) := k4 x1 (xs1 ||| xs0) (x3 + 1)
set_option maxRecDepth 100000 in
set_option maxHeartbeats 4000000 in
theorem t_X7_letsBy_29 {G : GP} {X : CX} (hX : XOK G X mi_X7_letsBy) {c d : Nat} {I : Hi} {L : Hl} {p : Int32} (hZ : XZ G X mi_X7_letsBy (some (.int p)) S0 I (R0 c d) L) {k4 : Int32 → Int32 → Int32 → Option (Int32)} (hk4 : ∀ (x1 : Int32) (x2 : Int32) (x3 : Int32), k4 x1 x2 x3 = some p → AW G X 0 0 S0 I (R0 c d) L 4 [.ref 77, .int x1, .int x2, .int x3] []) (x1 : Int32) (x3 : Int32) (xs0 : Int32) (xs1 : Int32) (h : b_X7_letsBy_29 I k4 x1 x3 xs0 xs1 = some p) : AW G X 0 0 S0 I (R0 c d) L 29 [.ref 77, .int x1, .null, .int x3] [.int xs0, .int xs1] := by
  rw [b_X7_letsBy_29] at h
  refine aw_ior (pc := 29) hX dX7_letsBy_29 ?_
  refine aw_istore_nE (pc := 30) hX 2 [.ref 77, .int x1, .int (xs1 ||| xs0), .int x3] dX7_letsBy_30 rfl (by decide) rfl rfl ?_
  refine aw_iincE (pc := 31) hX (x3 + 1) [.ref 77, .int x1, .int (xs1 ||| xs0), .int (x3 + 1)] dX7_letsBy_31 rfl rfl (by decide) rfl rfl ?_
  refine aw_goto (pc := 34) hX 4 dX7_letsBy_34 rfl ?_
  exact AW.lo (hk4 x1 (xs1 ||| xs0) (x3 + 1)  h) (And.intro (Or.inr rfl) (And.intro (Or.inr rfl) (And.intro (Or.inr rfl) (And.intro (Or.inr rfl) trivial))))
def b_X7_letsBy_4 (I : Hi)  : Nat → Int32 → Int32 → Int32 → Option (Int32)
  | 0, _, _, _ => none
  | n + 1, x1, x2, x3 => if (I (77) 2) ≤ x3 then (some (x2)) else ((f_X7_lets I x1 x3).bind fun r16 => if r16 = true then (b_X7_letsBy_29 I (b_X7_letsBy_4 I n) x1 x3 ((1 : Int32) <<< (x3 &&& 31)) x2) else (b_X7_letsBy_29 I (b_X7_letsBy_4 I n) x1 x3 (0 : Int32) x2))
set_option maxRecDepth 100000 in
set_option maxHeartbeats 4000000 in
theorem t_X7_letsBy_4 {G : GP} {X : CX} (hX : XOK G X mi_X7_letsBy) {c d : Nat} {I : Hi} {L : Hl} {p : Int32} (hZ : XZ G X mi_X7_letsBy (some (.int p)) S0 I (R0 c d) L) : ∀ (n : Nat) (x1 : Int32) (x2 : Int32) (x3 : Int32), b_X7_letsBy_4 I n x1 x2 x3 = some p → AW G X 0 0 S0 I (R0 c d) L 4 [.ref 77, .int x1, .int x2, .int x3] [] := by
  intro n
  induction n with
  | zero => intro x1 x2 x3 h; cases h
  | succ n ih =>
    intro x1 x2 x3 h
    rw [b_X7_letsBy_4] at h
    refine aw_iload_n (pc := 4) hX 3 dX7_letsBy_4 rfl rfl ?_
    refine aw_aload_n (pc := 5) hX 0 dX7_letsBy_5 rfl rfl ?_
    refine aw_getI (pc := 6) hX dX7_letsBy_6 f_X7_167 rfl (by rfl) ?_
    refine aw_icmp_ge (pc := 9) hX 37 dX7_letsBy_9 rfl (fun hc9 => ?_) (fun hc9 => ?_)
    · have h := ite_t h hc9
      refine aw_iload_n (pc := 37) hX 2 dX7_letsBy_37 rfl rfl ?_
      have e := Option.some.inj h
      subst e
      exact aw_iret hX hZ dX7_letsBy_38 rfl rfl rfl rfl rfl rfl rfl (Nat.le_refl _)
    · have h := ite_f h hc9
      refine aw_iload_n (pc := 12) hX 2 dX7_letsBy_12 rfl rfl ?_
      refine aw_aload_n (pc := 13) hX 0 dX7_letsBy_13 rfl rfl ?_
      refine aw_iload_n (pc := 14) hX 1 dX7_letsBy_14 rfl rfl ?_
      refine aw_iload_n (pc := 15) hX 3 dX7_letsBy_15 rfl rfl ?_
      obtain ⟨r16, hq16, h⟩ := bind_s h
      refine aw_V2i (pc := 16) hX h_X7_lets l_X7_188 dX7_letsBy_16 (by rfl) (by decide) (by rfl) rfl rfl rfl (Nat.le_of_ble_eq_true rfl) (s_X7_lets  hq16) ?_
      refine aw_if_eq (pc := 19) hX 28 dX7_letsBy_19 rfl (fun hc19 => ?_) (fun hc19 => ?_)
      · have h := ite_f h (bI0 hc19)
        refine aw_iconst (pc := 28) hX (0 : Int32) dX7_letsBy_28 (by decide) ?_
        exact AW.lo (t_X7_letsBy_29 hX hZ (ih) x1 x3 (0 : Int32) x2 h) (And.intro (Or.inr rfl) (And.intro (Or.inr rfl) (And.intro (Or.inl rfl) (And.intro (Or.inr rfl) trivial))))
      · have h := ite_t h (bI1 hc19)
        refine aw_iconst (pc := 22) hX (1 : Int32) dX7_letsBy_22 (by decide) ?_
        refine aw_iload_n (pc := 23) hX 3 dX7_letsBy_23 rfl rfl ?_
        refine aw_ishl (pc := 24) hX dX7_letsBy_24 ?_
        refine aw_goto (pc := 25) hX 29 dX7_letsBy_25 rfl ?_
        exact AW.lo (t_X7_letsBy_29 hX hZ (ih) x1 x3 ((1 : Int32) <<< (x3 &&& 31)) x2 h) (And.intro (Or.inr rfl) (And.intro (Or.inr rfl) (And.intro (Or.inl rfl) (And.intro (Or.inr rfl) trivial))))
def f_X7_letsBy (I : Hi) (x1 : Int32) : Option (Int32) := b_X7_letsBy_4 I 2000 x1 (0 : Int32) (0 : Int32)
set_option maxRecDepth 100000 in
set_option maxHeartbeats 4000000 in
theorem s_X7_letsBy {G : GP} {c d : Nat} {I : Hi} {L : Hl} {x1 : Int32} {p : Int32} (h : f_X7_letsBy I x1 = some p) : CD G mi_X7_letsBy [.ref 77, .int x1] S0 I (R0 c d) L (some (.int p)) S0 I (R0 c d) L := by
  refine CD.intro 2 rfl (by decide) rfl fun X hX hZ => ?_
  rw [f_X7_letsBy] at h
  show AW G X 0 0 S0 I (R0 c d) L 0 [.ref 77, .int x1, .null, .null] []
  refine aw_iconst (pc := 0) hX (0 : Int32) dX7_letsBy_0 (by decide) ?_
  refine aw_istore_nE (pc := 1) hX 2 [.ref 77, .int x1, .int (0 : Int32), .null] dX7_letsBy_1 rfl (by decide) rfl rfl ?_
  refine aw_iconst (pc := 2) hX (0 : Int32) dX7_letsBy_2 (by decide) ?_
  refine aw_istore_nE (pc := 3) hX 3 [.ref 77, .int x1, .int (0 : Int32), .int (0 : Int32)] dX7_letsBy_3 rfl (by decide) rfl rfl ?_
  exact AW.lo (t_X7_letsBy_4 hX hZ 2000 x1 (0 : Int32) (0 : Int32) h) (And.intro (Or.inr rfl) (And.intro (Or.inr rfl) (And.intro (Or.inr rfl) (And.intro (Or.inr rfl) trivial))))
def b_X7_leavesOf_29 (I : Hi) (k4 : Int32 → Int32 → Int32 → Option (Int32)) (x1 : Int32) (x3 : Int32) (xs0 : Int32) (xs1 : Int32) : Option (Int32) := k4 x1 (xs1 ||| xs0) (x3 + 1)
set_option maxRecDepth 100000 in
set_option maxHeartbeats 4000000 in
theorem t_X7_leavesOf_29 {G : GP} {X : CX} (hX : XOK G X mi_X7_leavesOf) {c d : Nat} {I : Hi} {L : Hl} {p : Int32} (hZ : XZ G X mi_X7_leavesOf (some (.int p)) S0 I (R0 c d) L) {k4 : Int32 → Int32 → Int32 → Option (Int32)} (hk4 : ∀ (x1 : Int32) (x2 : Int32) (x3 : Int32), k4 x1 x2 x3 = some p → AW G X 0 0 S0 I (R0 c d) L 4 [.ref 77, .int x1, .int x2, .int x3] []) (x1 : Int32) (x3 : Int32) (xs0 : Int32) (xs1 : Int32) (h : b_X7_leavesOf_29 I k4 x1 x3 xs0 xs1 = some p) : AW G X 0 0 S0 I (R0 c d) L 29 [.ref 77, .int x1, .null, .int x3] [.int xs0, .int xs1] := by
  rw [b_X7_leavesOf_29] at h
  refine aw_ior (pc := 29) hX dX7_leavesOf_29 ?_
  refine aw_istore_nE (pc := 30) hX 2 [.ref 77, .int x1, .int (xs1 ||| xs0), .int x3] dX7_leavesOf_30 rfl (by decide) rfl rfl ?_
  refine aw_iincE (pc := 31) hX (x3 + 1) [.ref 77, .int x1, .int (xs1 ||| xs0), .int (x3 + 1)] dX7_leavesOf_31 rfl rfl (by decide) rfl rfl ?_
  refine aw_goto (pc := 34) hX 4 dX7_leavesOf_34 rfl ?_
  exact AW.lo (hk4 x1 (xs1 ||| xs0) (x3 + 1)  h) (And.intro (Or.inr rfl) (And.intro (Or.inr rfl) (And.intro (Or.inr rfl) (And.intro (Or.inr rfl) trivial))))
def b_X7_leavesOf_4 (I : Hi)  : Nat → Int32 → Int32 → Int32 → Option (Int32)
  | 0, _, _, _ => none
  | n + 1, x1, x2, x3 => if (I (77) 0) ≤ x3 then (some (x2)) else ((f_X7_lets I x3 x1).bind fun r16 => if r16 = true then (b_X7_leavesOf_29 I (b_X7_leavesOf_4 I n) x1 x3 ((1 : Int32) <<< (x3 &&& 31)) x2) else (b_X7_leavesOf_29 I (b_X7_leavesOf_4 I n) x1 x3 (0 : Int32) x2))
set_option maxRecDepth 100000 in
set_option maxHeartbeats 4000000 in
theorem t_X7_leavesOf_4 {G : GP} {X : CX} (hX : XOK G X mi_X7_leavesOf) {c d : Nat} {I : Hi} {L : Hl} {p : Int32} (hZ : XZ G X mi_X7_leavesOf (some (.int p)) S0 I (R0 c d) L) : ∀ (n : Nat) (x1 : Int32) (x2 : Int32) (x3 : Int32), b_X7_leavesOf_4 I n x1 x2 x3 = some p → AW G X 0 0 S0 I (R0 c d) L 4 [.ref 77, .int x1, .int x2, .int x3] [] := by
  intro n
  induction n with
  | zero => intro x1 x2 x3 h; cases h
  | succ n ih =>
    intro x1 x2 x3 h
    rw [b_X7_leavesOf_4] at h
    refine aw_iload_n (pc := 4) hX 3 dX7_leavesOf_4 rfl rfl ?_
    refine aw_aload_n (pc := 5) hX 0 dX7_leavesOf_5 rfl rfl ?_
    refine aw_getI (pc := 6) hX dX7_leavesOf_6 f_X7_164 rfl (by rfl) ?_
    refine aw_icmp_ge (pc := 9) hX 37 dX7_leavesOf_9 rfl (fun hc9 => ?_) (fun hc9 => ?_)
    · have h := ite_t h hc9
      refine aw_iload_n (pc := 37) hX 2 dX7_leavesOf_37 rfl rfl ?_
      have e := Option.some.inj h
      subst e
      exact aw_iret hX hZ dX7_leavesOf_38 rfl rfl rfl rfl rfl rfl rfl (Nat.le_refl _)
    · have h := ite_f h hc9
      refine aw_iload_n (pc := 12) hX 2 dX7_leavesOf_12 rfl rfl ?_
      refine aw_aload_n (pc := 13) hX 0 dX7_leavesOf_13 rfl rfl ?_
      refine aw_iload_n (pc := 14) hX 3 dX7_leavesOf_14 rfl rfl ?_
      refine aw_iload_n (pc := 15) hX 1 dX7_leavesOf_15 rfl rfl ?_
      obtain ⟨r16, hq16, h⟩ := bind_s h
      refine aw_V2i (pc := 16) hX h_X7_lets l_X7_188 dX7_leavesOf_16 (by rfl) (by decide) (by rfl) rfl rfl rfl (Nat.le_of_ble_eq_true rfl) (s_X7_lets  hq16) ?_
      refine aw_if_eq (pc := 19) hX 28 dX7_leavesOf_19 rfl (fun hc19 => ?_) (fun hc19 => ?_)
      · have h := ite_f h (bI0 hc19)
        refine aw_iconst (pc := 28) hX (0 : Int32) dX7_leavesOf_28 (by decide) ?_
        exact AW.lo (t_X7_leavesOf_29 hX hZ (ih) x1 x3 (0 : Int32) x2 h) (And.intro (Or.inr rfl) (And.intro (Or.inr rfl) (And.intro (Or.inl rfl) (And.intro (Or.inr rfl) trivial))))
      · have h := ite_t h (bI1 hc19)
        refine aw_iconst (pc := 22) hX (1 : Int32) dX7_leavesOf_22 (by decide) ?_
        refine aw_iload_n (pc := 23) hX 3 dX7_leavesOf_23 rfl rfl ?_
        refine aw_ishl (pc := 24) hX dX7_leavesOf_24 ?_
        refine aw_goto (pc := 25) hX 29 dX7_leavesOf_25 rfl ?_
        exact AW.lo (t_X7_leavesOf_29 hX hZ (ih) x1 x3 ((1 : Int32) <<< (x3 &&& 31)) x2 h) (And.intro (Or.inr rfl) (And.intro (Or.inr rfl) (And.intro (Or.inl rfl) (And.intro (Or.inr rfl) trivial))))
def f_X7_leavesOf (I : Hi) (x1 : Int32) : Option (Int32) := b_X7_leavesOf_4 I 2000 x1 (0 : Int32) (0 : Int32)
set_option maxRecDepth 100000 in
set_option maxHeartbeats 4000000 in
theorem s_X7_leavesOf {G : GP} {c d : Nat} {I : Hi} {L : Hl} {x1 : Int32} {p : Int32} (h : f_X7_leavesOf I x1 = some p) : CD G mi_X7_leavesOf [.ref 77, .int x1] S0 I (R0 c d) L (some (.int p)) S0 I (R0 c d) L := by
  refine CD.intro 2 rfl (by decide) rfl fun X hX hZ => ?_
  rw [f_X7_leavesOf] at h
  show AW G X 0 0 S0 I (R0 c d) L 0 [.ref 77, .int x1, .null, .null] []
  refine aw_iconst (pc := 0) hX (0 : Int32) dX7_leavesOf_0 (by decide) ?_
  refine aw_istore_nE (pc := 1) hX 2 [.ref 77, .int x1, .int (0 : Int32), .null] dX7_leavesOf_1 rfl (by decide) rfl rfl ?_
  refine aw_iconst (pc := 2) hX (0 : Int32) dX7_leavesOf_2 (by decide) ?_
  refine aw_istore_nE (pc := 3) hX 3 [.ref 77, .int x1, .int (0 : Int32), .int (0 : Int32)] dX7_leavesOf_3 rfl (by decide) rfl rfl ?_
  exact AW.lo (t_X7_leavesOf_4 hX hZ 2000 x1 (0 : Int32) (0 : Int32) h) (And.intro (Or.inr rfl) (And.intro (Or.inr rfl) (And.intro (Or.inr rfl) (And.intro (Or.inr rfl) trivial))))
def b_X7_those_32 (I : Hi) (k4 : Int32 → Int32 → Int32 → Option (Int32)) (x1 : Int32) (x3 : Int32) (xs0 : Int32) (xs1 : Int32) : Option (Int32) := k4 x1 (xs1 ||| xs0) (x3 + 1)
set_option maxRecDepth 100000 in
set_option maxHeartbeats 4000000 in
theorem t_X7_those_32 {G : GP} {X : CX} (hX : XOK G X mi_X7_those) {c d : Nat} {I : Hi} {L : Hl} {p : Int32} (hZ : XZ G X mi_X7_those (some (.int p)) S0 I (R0 c d) L) {k4 : Int32 → Int32 → Int32 → Option (Int32)} (hk4 : ∀ (x1 : Int32) (x2 : Int32) (x3 : Int32), k4 x1 x2 x3 = some p → AW G X 0 0 S0 I (R0 c d) L 4 [.ref 77, .int x1, .int x2, .int x3] []) (x1 : Int32) (x3 : Int32) (xs0 : Int32) (xs1 : Int32) (h : b_X7_those_32 I k4 x1 x3 xs0 xs1 = some p) : AW G X 0 0 S0 I (R0 c d) L 32 [.ref 77, .int x1, .null, .int x3] [.int xs0, .int xs1] := by
  rw [b_X7_those_32] at h
  refine aw_ior (pc := 32) hX dX7_those_32 ?_
  refine aw_istore_nE (pc := 33) hX 2 [.ref 77, .int x1, .int (xs1 ||| xs0), .int x3] dX7_those_33 rfl (by decide) rfl rfl ?_
  refine aw_iincE (pc := 34) hX (x3 + 1) [.ref 77, .int x1, .int (xs1 ||| xs0), .int (x3 + 1)] dX7_those_34 rfl rfl (by decide) rfl rfl ?_
  refine aw_goto (pc := 37) hX 4 dX7_those_37 rfl ?_
  exact AW.lo (hk4 x1 (xs1 ||| xs0) (x3 + 1)  h) (And.intro (Or.inr rfl) (And.intro (Or.inr rfl) (And.intro (Or.inr rfl) (And.intro (Or.inr rfl) trivial))))
def b_X7_those_4 (I : Hi)  : Nat → Int32 → Int32 → Int32 → Option (Int32)
  | 0, _, _, _ => none
  | n + 1, x1, x2, x3 => if (I (77) 2) ≤ x3 then (some (x2)) else (if vinb ((3 : Int32) + x3) 21 then if (I (83) (((3 : Int32) + x3)).toNatClampNeg) = x1 then (b_X7_those_32 I (b_X7_those_4 I n) x1 x3 ((1 : Int32) <<< (x3 &&& 31)) x2) else (b_X7_those_32 I (b_X7_those_4 I n) x1 x3 (0 : Int32) x2) else none)
set_option maxRecDepth 100000 in
set_option maxHeartbeats 4000000 in
theorem t_X7_those_4 {G : GP} {X : CX} (hX : XOK G X mi_X7_those) {c d : Nat} {I : Hi} {L : Hl} {p : Int32} (hZ : XZ G X mi_X7_those (some (.int p)) S0 I (R0 c d) L) : ∀ (n : Nat) (x1 : Int32) (x2 : Int32) (x3 : Int32), b_X7_those_4 I n x1 x2 x3 = some p → AW G X 0 0 S0 I (R0 c d) L 4 [.ref 77, .int x1, .int x2, .int x3] [] := by
  intro n
  induction n with
  | zero => intro x1 x2 x3 h; cases h
  | succ n ih =>
    intro x1 x2 x3 h
    rw [b_X7_those_4] at h
    refine aw_iload_n (pc := 4) hX 3 dX7_those_4 rfl rfl ?_
    refine aw_aload_n (pc := 5) hX 0 dX7_those_5 rfl rfl ?_
    refine aw_getI (pc := 6) hX dX7_those_6 f_X7_167 rfl (by rfl) ?_
    refine aw_icmp_ge (pc := 9) hX 40 dX7_those_9 rfl (fun hc9 => ?_) (fun hc9 => ?_)
    · have h := ite_t h hc9
      refine aw_iload_n (pc := 40) hX 2 dX7_those_40 rfl rfl ?_
      have e := Option.some.inj h
      subst e
      exact aw_iret hX hZ dX7_those_41 rfl rfl rfl rfl rfl rfl rfl (Nat.le_refl _)
    · have h := ite_f h hc9
      refine aw_iload_n (pc := 12) hX 2 dX7_those_12 rfl rfl ?_
      refine aw_aload_n (pc := 13) hX 0 dX7_those_13 rfl rfl ?_
      refine aw_getR (pc := 14) hX dX7_those_14 f_X7_29 rfl (by rfl) (q := 83) (by rfl) ?_
      refine aw_iconst (pc := 17) hX (3 : Int32) dX7_those_17 (by decide) ?_
      refine aw_iload_n (pc := 18) hX 3 dX7_those_18 rfl rfl ?_
      refine aw_iadd (pc := 19) hX dX7_those_19 ?_
      obtain ⟨hv20, h⟩ := ite_g h
      refine aw_iaload (pc := 20) hX dX7_those_20 (by rfl) (vinb_in hv20) ?_
      refine aw_iload_n (pc := 21) hX 1 dX7_those_21 rfl rfl ?_
      refine aw_icmp_ne (pc := 22) hX 31 dX7_those_22 rfl (fun hc22 => ?_) (fun hc22 => ?_)
      · have h := ite_f h hc22
        refine aw_iconst (pc := 31) hX (0 : Int32) dX7_those_31 (by decide) ?_
        exact AW.lo (t_X7_those_32 hX hZ (ih) x1 x3 (0 : Int32) x2 h) (And.intro (Or.inr rfl) (And.intro (Or.inr rfl) (And.intro (Or.inl rfl) (And.intro (Or.inr rfl) trivial))))
      · have h := ite_t h hc22
        refine aw_iconst (pc := 25) hX (1 : Int32) dX7_those_25 (by decide) ?_
        refine aw_iload_n (pc := 26) hX 3 dX7_those_26 rfl rfl ?_
        refine aw_ishl (pc := 27) hX dX7_those_27 ?_
        refine aw_goto (pc := 28) hX 32 dX7_those_28 rfl ?_
        exact AW.lo (t_X7_those_32 hX hZ (ih) x1 x3 ((1 : Int32) <<< (x3 &&& 31)) x2 h) (And.intro (Or.inr rfl) (And.intro (Or.inr rfl) (And.intro (Or.inl rfl) (And.intro (Or.inr rfl) trivial))))
def f_X7_those (I : Hi) (x1 : Int32) : Option (Int32) := b_X7_those_4 I 2000 x1 (0 : Int32) (0 : Int32)
set_option maxRecDepth 100000 in
set_option maxHeartbeats 4000000 in
theorem s_X7_those {G : GP} {c d : Nat} {I : Hi} {L : Hl} {x1 : Int32} {p : Int32} (h : f_X7_those I x1 = some p) : CD G mi_X7_those [.ref 77, .int x1] S0 I (R0 c d) L (some (.int p)) S0 I (R0 c d) L := by
  refine CD.intro 2 rfl (by decide) rfl fun X hX hZ => ?_
  rw [f_X7_those] at h
  show AW G X 0 0 S0 I (R0 c d) L 0 [.ref 77, .int x1, .null, .null] []
  refine aw_iconst (pc := 0) hX (0 : Int32) dX7_those_0 (by decide) ?_
  refine aw_istore_nE (pc := 1) hX 2 [.ref 77, .int x1, .int (0 : Int32), .null] dX7_those_1 rfl (by decide) rfl rfl ?_
  refine aw_iconst (pc := 2) hX (0 : Int32) dX7_those_2 (by decide) ?_
  refine aw_istore_nE (pc := 3) hX 3 [.ref 77, .int x1, .int (0 : Int32), .int (0 : Int32)] dX7_those_3 rfl (by decide) rfl rfl ?_
  exact AW.lo (t_X7_those_4 hX hZ 2000 x1 (0 : Int32) (0 : Int32) h) (And.intro (Or.inr rfl) (And.intro (Or.inr rfl) (And.intro (Or.inr rfl) (And.intro (Or.inr rfl) trivial))))
def b_X7_cover_91 (I : Hi) (k5 : Int32 → Int32 → Option (Int32)) (x2 : Int32) (xs0 : Int32) : Option (Int32) := k5 xs0 (x2 + 1)
set_option maxRecDepth 100000 in
set_option maxHeartbeats 4000000 in
theorem t_X7_cover_91 {G : GP} {X : CX} (hX : XOK G X mi_X7_cover) {c d : Nat} {I : Hi} {L : Hl} {p : Int32} (hZ : XZ G X mi_X7_cover (some (.int p)) S0 I (R0 c d) L) {k5 : Int32 → Int32 → Option (Int32)} (hk5 : ∀ (x1 : Int32) (x2 : Int32), k5 x1 x2 = some p → AW G X 0 0 S0 I (R0 c d) L 5 [.ref 77, .int x1, .int x2, .null, .null] []) (x2 : Int32) (xs0 : Int32) (h : b_X7_cover_91 I k5 x2 xs0 = some p) : AW G X 0 0 S0 I (R0 c d) L 91 [.ref 77, .null, .int x2, .null, .null] [.int xs0] := by
  rw [b_X7_cover_91] at h
  refine aw_istore_nE (pc := 91) hX 1 [.ref 77, .int xs0, .int x2, .null, .null] dX7_cover_91 rfl (by decide) rfl rfl ?_
  refine aw_iincE (pc := 92) hX (x2 + 1) [.ref 77, .int xs0, .int (x2 + 1), .null, .null] dX7_cover_92 rfl rfl (by decide) rfl rfl ?_
  refine aw_goto (pc := 95) hX 5 dX7_cover_95 rfl ?_
  exact AW.lo (hk5 xs0 (x2 + 1)  h) (And.intro (Or.inr rfl) (And.intro (Or.inr rfl) (And.intro (Or.inr rfl) (And.intro (Or.inl rfl) (And.intro (Or.inl rfl) trivial)))))
def b_X7_cover_90 (I : Hi) (k5 : Int32 → Int32 → Option (Int32)) (x1 : Int32) (x2 : Int32) : Option (Int32) := b_X7_cover_91 I (k5) x2 x1
set_option maxRecDepth 100000 in
set_option maxHeartbeats 4000000 in
theorem t_X7_cover_90 {G : GP} {X : CX} (hX : XOK G X mi_X7_cover) {c d : Nat} {I : Hi} {L : Hl} {p : Int32} (hZ : XZ G X mi_X7_cover (some (.int p)) S0 I (R0 c d) L) {k5 : Int32 → Int32 → Option (Int32)} (hk5 : ∀ (x1 : Int32) (x2 : Int32), k5 x1 x2 = some p → AW G X 0 0 S0 I (R0 c d) L 5 [.ref 77, .int x1, .int x2, .null, .null] []) (x1 : Int32) (x2 : Int32) (h : b_X7_cover_90 I k5 x1 x2 = some p) : AW G X 0 0 S0 I (R0 c d) L 90 [.ref 77, .int x1, .int x2, .null, .null] [] := by
  rw [b_X7_cover_90] at h
  refine aw_iload_n (pc := 90) hX 1 dX7_cover_90 rfl rfl ?_
  exact AW.lo (t_X7_cover_91 hX hZ (hk5) x2 x1 h) (And.intro (Or.inr rfl) (And.intro (Or.inl rfl) (And.intro (Or.inr rfl) (And.intro (Or.inl rfl) (And.intro (Or.inl rfl) trivial)))))
def b_X7_cover_86 (I : Hi) (k5 : Int32 → Int32 → Option (Int32)) (x2 : Int32) : Option (Int32) := b_X7_cover_91 I (k5) x2 x2
set_option maxRecDepth 100000 in
set_option maxHeartbeats 4000000 in
theorem t_X7_cover_86 {G : GP} {X : CX} (hX : XOK G X mi_X7_cover) {c d : Nat} {I : Hi} {L : Hl} {p : Int32} (hZ : XZ G X mi_X7_cover (some (.int p)) S0 I (R0 c d) L) {k5 : Int32 → Int32 → Option (Int32)} (hk5 : ∀ (x1 : Int32) (x2 : Int32), k5 x1 x2 = some p → AW G X 0 0 S0 I (R0 c d) L 5 [.ref 77, .int x1, .int x2, .null, .null] []) (x2 : Int32) (h : b_X7_cover_86 I k5 x2 = some p) : AW G X 0 0 S0 I (R0 c d) L 86 [.ref 77, .null, .int x2, .null, .null] [] := by
  rw [b_X7_cover_86] at h
  refine aw_iload_n (pc := 86) hX 2 dX7_cover_86 rfl rfl ?_
  refine aw_goto (pc := 87) hX 91 dX7_cover_87 rfl ?_
  exact AW.lo (t_X7_cover_91 hX hZ (hk5) x2 x2 h) (And.intro (Or.inr rfl) (And.intro (Or.inl rfl) (And.intro (Or.inr rfl) (And.intro (Or.inl rfl) (And.intro (Or.inl rfl) trivial)))))
def b_X7_cover_57 (I : Hi) (k5 : Int32 → Int32 → Option (Int32)) (x1 : Int32) (x2 : Int32) (x3 : Int32) : Option (Int32) := if x3 = (((1 : Int32) <<< ((I (77) 2) &&& 31)) - (1 : Int32)) then (if x1 = (-9 : Int32) then (b_X7_cover_86 I (k5) x2) else ((f_X7_bits x2).bind fun r76 => (f_X7_bits x1).bind fun r80 => if r80 ≤ r76 then (b_X7_cover_90 I (k5) x1 x2) else (b_X7_cover_86 I (k5) x2))) else (b_X7_cover_90 I (k5) x1 x2)
set_option maxRecDepth 100000 in
set_option maxHeartbeats 4000000 in
theorem t_X7_cover_57 {G : GP} {X : CX} (hX : XOK G X mi_X7_cover) {c d : Nat} {I : Hi} {L : Hl} {p : Int32} (hZ : XZ G X mi_X7_cover (some (.int p)) S0 I (R0 c d) L) {k5 : Int32 → Int32 → Option (Int32)} (hk5 : ∀ (x1 : Int32) (x2 : Int32), k5 x1 x2 = some p → AW G X 0 0 S0 I (R0 c d) L 5 [.ref 77, .int x1, .int x2, .null, .null] []) (x1 : Int32) (x2 : Int32) (x3 : Int32) (h : b_X7_cover_57 I k5 x1 x2 x3 = some p) : AW G X 0 0 S0 I (R0 c d) L 57 [.ref 77, .int x1, .int x2, .int x3, .null] [] := by
  rw [b_X7_cover_57] at h
  refine aw_iload_n (pc := 57) hX 3 dX7_cover_57 rfl rfl ?_
  refine aw_iconst (pc := 58) hX (1 : Int32) dX7_cover_58 (by decide) ?_
  refine aw_aload_n (pc := 59) hX 0 dX7_cover_59 rfl rfl ?_
  refine aw_getI (pc := 60) hX dX7_cover_60 f_X7_167 rfl (by rfl) ?_
  refine aw_ishl (pc := 63) hX dX7_cover_63 ?_
  refine aw_iconst (pc := 64) hX (1 : Int32) dX7_cover_64 (by decide) ?_
  refine aw_isub (pc := 65) hX dX7_cover_65 ?_
  refine aw_icmp_ne (pc := 66) hX 90 dX7_cover_66 rfl (fun hc66 => ?_) (fun hc66 => ?_)
  · have h := ite_f h hc66
    exact AW.lo (t_X7_cover_90 hX hZ (hk5) x1 x2 h) (And.intro (Or.inr rfl) (And.intro (Or.inr rfl) (And.intro (Or.inr rfl) (And.intro (Or.inl rfl) (And.intro (Or.inl rfl) trivial)))))
  · have h := ite_t h hc66
    refine aw_iload_n (pc := 69) hX 1 dX7_cover_69 rfl rfl ?_
    refine aw_bipush (pc := 70) hX (-9 : Int32) dX7_cover_70 (by decide) ?_
    refine aw_icmp_eq (pc := 72) hX 86 dX7_cover_72 rfl (fun hc72 => ?_) (fun hc72 => ?_)
    · have h := ite_t h hc72
      exact AW.lo (t_X7_cover_86 hX hZ (hk5) x2 h) (And.intro (Or.inr rfl) (And.intro (Or.inl rfl) (And.intro (Or.inr rfl) (And.intro (Or.inl rfl) (And.intro (Or.inl rfl) trivial)))))
    · have h := ite_f h hc72
      refine aw_iload_n (pc := 75) hX 2 dX7_cover_75 rfl rfl ?_
      obtain ⟨r76, hq76, h⟩ := bind_s h
      refine aw_S1i (pc := 76) hX h_X7_bits l_X7_195 dX7_cover_76 rfl rfl rfl (Nat.le_of_ble_eq_true rfl) (s_X7_bits  hq76) ?_
      refine aw_iload_n (pc := 79) hX 1 dX7_cover_79 rfl rfl ?_
      obtain ⟨r80, hq80, h⟩ := bind_s h
      refine aw_S1i (pc := 80) hX h_X7_bits l_X7_195 dX7_cover_80 rfl rfl rfl (Nat.le_of_ble_eq_true rfl) (s_X7_bits  hq80) ?_
      refine aw_icmp_ge (pc := 83) hX 90 dX7_cover_83 rfl (fun hc83 => ?_) (fun hc83 => ?_)
      · have h := ite_t h hc83
        exact AW.lo (t_X7_cover_90 hX hZ (hk5) x1 x2 h) (And.intro (Or.inr rfl) (And.intro (Or.inr rfl) (And.intro (Or.inr rfl) (And.intro (Or.inl rfl) (And.intro (Or.inl rfl) trivial)))))
      · have h := ite_f h hc83
        exact AW.lo (t_X7_cover_86 hX hZ (hk5) x2 h) (And.intro (Or.inr rfl) (And.intro (Or.inl rfl) (And.intro (Or.inr rfl) (And.intro (Or.inl rfl) (And.intro (Or.inl rfl) trivial)))))
def b_X7_cover_49 (I : Hi) (k5 : Int32 → Int32 → Option (Int32)) (k20 : Int32 → Int32 → Int32 → Int32 → Option (Int32)) (x1 : Int32) (x2 : Int32) (x4 : Int32) (xs0 : Int32) (xs1 : Int32) : Option (Int32) := k20 x1 x2 (xs1 ||| xs0) (x4 + 1)
set_option maxRecDepth 100000 in
set_option maxHeartbeats 4000000 in
theorem t_X7_cover_49 {G : GP} {X : CX} (hX : XOK G X mi_X7_cover) {c d : Nat} {I : Hi} {L : Hl} {p : Int32} (hZ : XZ G X mi_X7_cover (some (.int p)) S0 I (R0 c d) L) {k5 : Int32 → Int32 → Option (Int32)} (hk5 : ∀ (x1 : Int32) (x2 : Int32), k5 x1 x2 = some p → AW G X 0 0 S0 I (R0 c d) L 5 [.ref 77, .int x1, .int x2, .null, .null] []) {k20 : Int32 → Int32 → Int32 → Int32 → Option (Int32)} (hk20 : ∀ (x1 : Int32) (x2 : Int32) (x3 : Int32) (x4 : Int32), k20 x1 x2 x3 x4 = some p → AW G X 0 0 S0 I (R0 c d) L 20 [.ref 77, .int x1, .int x2, .int x3, .int x4] []) (x1 : Int32) (x2 : Int32) (x4 : Int32) (xs0 : Int32) (xs1 : Int32) (h : b_X7_cover_49 I k5 k20 x1 x2 x4 xs0 xs1 = some p) : AW G X 0 0 S0 I (R0 c d) L 49 [.ref 77, .int x1, .int x2, .null, .int x4] [.int xs0, .int xs1] := by
  rw [b_X7_cover_49] at h
  refine aw_ior (pc := 49) hX dX7_cover_49 ?_
  refine aw_istore_nE (pc := 50) hX 3 [.ref 77, .int x1, .int x2, .int (xs1 ||| xs0), .int x4] dX7_cover_50 rfl (by decide) rfl rfl ?_
  refine aw_iincE (pc := 51) hX (x4 + 1) [.ref 77, .int x1, .int x2, .int (xs1 ||| xs0), .int (x4 + 1)] dX7_cover_51 rfl rfl (by decide) rfl rfl ?_
  refine aw_goto (pc := 54) hX 20 dX7_cover_54 rfl ?_
  exact AW.lo (hk20 x1 x2 (xs1 ||| xs0) (x4 + 1)  h) (And.intro (Or.inr rfl) (And.intro (Or.inr rfl) (And.intro (Or.inr rfl) (And.intro (Or.inr rfl) (And.intro (Or.inr rfl) trivial)))))
def b_X7_cover_20 (I : Hi) (k5 : Int32 → Int32 → Option (Int32)) : Nat → Int32 → Int32 → Int32 → Int32 → Option (Int32)
  | 0, _, _, _, _ => none
  | n + 1, x1, x2, x3, x4 => if (I (77) 0) ≤ x4 then (b_X7_cover_57 I (k5) x1 x2 x3) else ((f_X7_has x2 x4).bind fun r33 => if r33 = true then ((f_X7_letsBy I x4).bind fun r42 => b_X7_cover_49 I (k5) (b_X7_cover_20 I k5 n) x1 x2 x4 r42 x3) else (b_X7_cover_49 I (k5) (b_X7_cover_20 I k5 n) x1 x2 x4 (0 : Int32) x3))
set_option maxRecDepth 100000 in
set_option maxHeartbeats 4000000 in
theorem t_X7_cover_20 {G : GP} {X : CX} (hX : XOK G X mi_X7_cover) {c d : Nat} {I : Hi} {L : Hl} {p : Int32} (hZ : XZ G X mi_X7_cover (some (.int p)) S0 I (R0 c d) L) {k5 : Int32 → Int32 → Option (Int32)} (hk5 : ∀ (x1 : Int32) (x2 : Int32), k5 x1 x2 = some p → AW G X 0 0 S0 I (R0 c d) L 5 [.ref 77, .int x1, .int x2, .null, .null] []) : ∀ (n : Nat) (x1 : Int32) (x2 : Int32) (x3 : Int32) (x4 : Int32), b_X7_cover_20 I k5 n x1 x2 x3 x4 = some p → AW G X 0 0 S0 I (R0 c d) L 20 [.ref 77, .int x1, .int x2, .int x3, .int x4] [] := by
  intro n
  induction n with
  | zero => intro x1 x2 x3 x4 h; cases h
  | succ n ih =>
    intro x1 x2 x3 x4 h
    rw [b_X7_cover_20] at h
    refine aw_iload (pc := 20) hX dX7_cover_20 rfl ?_
    refine aw_aload_n (pc := 22) hX 0 dX7_cover_22 rfl rfl ?_
    refine aw_getI (pc := 23) hX dX7_cover_23 f_X7_164 rfl (by rfl) ?_
    refine aw_icmp_ge (pc := 26) hX 57 dX7_cover_26 rfl (fun hc26 => ?_) (fun hc26 => ?_)
    · have h := ite_t h hc26
      exact AW.lo (t_X7_cover_57 hX hZ (hk5) x1 x2 x3 h) (And.intro (Or.inr rfl) (And.intro (Or.inr rfl) (And.intro (Or.inr rfl) (And.intro (Or.inr rfl) (And.intro (Or.inl rfl) trivial)))))
    · have h := ite_f h hc26
      refine aw_iload_n (pc := 29) hX 3 dX7_cover_29 rfl rfl ?_
      refine aw_iload_n (pc := 30) hX 2 dX7_cover_30 rfl rfl ?_
      refine aw_iload (pc := 31) hX dX7_cover_31 rfl ?_
      obtain ⟨r33, hq33, h⟩ := bind_s h
      refine aw_S2i (pc := 33) hX h_X7_has l_X7_69 dX7_cover_33 rfl rfl rfl (Nat.le_of_ble_eq_true rfl) (s_X7_has  hq33) ?_
      refine aw_if_eq (pc := 36) hX 48 dX7_cover_36 rfl (fun hc36 => ?_) (fun hc36 => ?_)
      · have h := ite_f h (bI0 hc36)
        refine aw_iconst (pc := 48) hX (0 : Int32) dX7_cover_48 (by decide) ?_
        exact AW.lo (t_X7_cover_49 hX hZ (hk5) (ih) x1 x2 x4 (0 : Int32) x3 h) (And.intro (Or.inr rfl) (And.intro (Or.inr rfl) (And.intro (Or.inr rfl) (And.intro (Or.inl rfl) (And.intro (Or.inr rfl) trivial)))))
      · have h := ite_t h (bI1 hc36)
        refine aw_aload_n (pc := 39) hX 0 dX7_cover_39 rfl rfl ?_
        refine aw_iload (pc := 40) hX dX7_cover_40 rfl ?_
        obtain ⟨r42, hq42, h⟩ := bind_s h
        refine aw_V1i (pc := 42) hX h_X7_letsBy l_X7_191 dX7_cover_42 (by rfl) (by decide) (by rfl) rfl rfl rfl (Nat.le_of_ble_eq_true rfl) (s_X7_letsBy  hq42) ?_
        refine aw_goto (pc := 45) hX 49 dX7_cover_45 rfl ?_
        exact AW.lo (t_X7_cover_49 hX hZ (hk5) (ih) x1 x2 x4 r42 x3 h) (And.intro (Or.inr rfl) (And.intro (Or.inr rfl) (And.intro (Or.inr rfl) (And.intro (Or.inl rfl) (And.intro (Or.inr rfl) trivial)))))
def b_X7_cover_5 (I : Hi)  : Nat → Int32 → Int32 → Option (Int32)
  | 0, _, _ => none
  | n + 1, x1, x2 => if ((1 : Int32) <<< ((I (77) 0) &&& 31)) ≤ x2 then (some (x1)) else (b_X7_cover_20 I (b_X7_cover_5 I n) 2000 x1 x2 (0 : Int32) (0 : Int32))
set_option maxRecDepth 100000 in
set_option maxHeartbeats 4000000 in
theorem t_X7_cover_5 {G : GP} {X : CX} (hX : XOK G X mi_X7_cover) {c d : Nat} {I : Hi} {L : Hl} {p : Int32} (hZ : XZ G X mi_X7_cover (some (.int p)) S0 I (R0 c d) L) : ∀ (n : Nat) (x1 : Int32) (x2 : Int32), b_X7_cover_5 I n x1 x2 = some p → AW G X 0 0 S0 I (R0 c d) L 5 [.ref 77, .int x1, .int x2, .null, .null] [] := by
  intro n
  induction n with
  | zero => intro x1 x2 h; cases h
  | succ n ih =>
    intro x1 x2 h
    rw [b_X7_cover_5] at h
    refine aw_iload_n (pc := 5) hX 2 dX7_cover_5 rfl rfl ?_
    refine aw_iconst (pc := 6) hX (1 : Int32) dX7_cover_6 (by decide) ?_
    refine aw_aload_n (pc := 7) hX 0 dX7_cover_7 rfl rfl ?_
    refine aw_getI (pc := 8) hX dX7_cover_8 f_X7_164 rfl (by rfl) ?_
    refine aw_ishl (pc := 11) hX dX7_cover_11 ?_
    refine aw_icmp_ge (pc := 12) hX 98 dX7_cover_12 rfl (fun hc12 => ?_) (fun hc12 => ?_)
    · have h := ite_t h hc12
      refine aw_iload_n (pc := 98) hX 1 dX7_cover_98 rfl rfl ?_
      have e := Option.some.inj h
      subst e
      exact aw_iret hX hZ dX7_cover_99 rfl rfl rfl rfl rfl rfl rfl (Nat.le_refl _)
    · have h := ite_f h hc12
      refine aw_iconst (pc := 15) hX (0 : Int32) dX7_cover_15 (by decide) ?_
      refine aw_istore_nE (pc := 16) hX 3 [.ref 77, .int x1, .int x2, .int (0 : Int32), .null] dX7_cover_16 rfl (by decide) rfl rfl ?_
      refine aw_iconst (pc := 17) hX (0 : Int32) dX7_cover_17 (by decide) ?_
      refine aw_istoreE (pc := 18) hX [.ref 77, .int x1, .int x2, .int (0 : Int32), .int (0 : Int32)] dX7_cover_18 (by decide) rfl rfl ?_
      exact AW.lo (t_X7_cover_20 hX hZ (ih) 2000 x1 x2 (0 : Int32) (0 : Int32) h) (And.intro (Or.inr rfl) (And.intro (Or.inr rfl) (And.intro (Or.inr rfl) (And.intro (Or.inr rfl) (And.intro (Or.inr rfl) trivial)))))
def f_X7_cover (I : Hi)  : Option (Int32) := b_X7_cover_5 I 2000 (-9 : Int32) (0 : Int32)
set_option maxRecDepth 100000 in
set_option maxHeartbeats 4000000 in
theorem s_X7_cover {G : GP} {c d : Nat} {I : Hi} {L : Hl}  {p : Int32} (h : f_X7_cover I = some p) : CD G mi_X7_cover [.ref 77] S0 I (R0 c d) L (some (.int p)) S0 I (R0 c d) L := by
  refine CD.intro 4 rfl (by decide) rfl fun X hX hZ => ?_
  rw [f_X7_cover] at h
  show AW G X 0 0 S0 I (R0 c d) L 0 [.ref 77, .null, .null, .null, .null] []
  refine aw_bipush (pc := 0) hX (-9 : Int32) dX7_cover_0 (by decide) ?_
  refine aw_istore_nE (pc := 2) hX 1 [.ref 77, .int (-9 : Int32), .null, .null, .null] dX7_cover_2 rfl (by decide) rfl rfl ?_
  refine aw_iconst (pc := 3) hX (0 : Int32) dX7_cover_3 (by decide) ?_
  refine aw_istore_nE (pc := 4) hX 2 [.ref 77, .int (-9 : Int32), .int (0 : Int32), .null, .null] dX7_cover_4 rfl (by decide) rfl rfl ?_
  exact AW.lo (t_X7_cover_5 hX hZ 2000 (-9 : Int32) (0 : Int32) h) (And.intro (Or.inr rfl) (And.intro (Or.inr rfl) (And.intro (Or.inr rfl) (And.intro (Or.inl rfl) (And.intro (Or.inl rfl) trivial)))))
def f_X7_leaf (I : Hi) (x1 : Int32) (x2 : Int32) : Option (Int32) := (f_X7_isTheLeaf I x1).bind fun r2 => if r2 = true then ((f_X7_isBit x2).bind fun r9 => if r9 = true then (if x2 = (0 : Int32) then (if vinb x1 5 then some ((I (78) (x1).toNatClampNeg)) else none) else ((f_X7_letsBy I x1).bind fun r32 => some (r32))) else (some ((-1 : Int32)))) else (some ((-1 : Int32)))
set_option maxRecDepth 100000 in
set_option maxHeartbeats 4000000 in
theorem s_X7_leaf {G : GP} {c d : Nat} {I : Hi} {L : Hl} {x1 : Int32} {x2 : Int32} {p : Int32} (h : f_X7_leaf I x1 x2 = some p) : CD G mi_X7_leaf [.ref 77, .int x1, .int x2] S0 I (R0 c d) L (some (.int p)) S0 I (R0 c d) L := by
  refine CD.intro 0 rfl (by decide) rfl fun X hX hZ => ?_
  rw [f_X7_leaf] at h
  show AW G X 0 0 S0 I (R0 c d) L 0 [.ref 77, .int x1, .int x2] []
  refine aw_aload_n (pc := 0) hX 0 dX7_leaf_0 rfl rfl ?_
  refine aw_iload_n (pc := 1) hX 1 dX7_leaf_1 rfl rfl ?_
  obtain ⟨r2, hq2, h⟩ := bind_s h
  refine aw_V1i (pc := 2) hX h_X7_isTheLeaf l_X7_198 dX7_leaf_2 (by rfl) (by decide) (by rfl) rfl rfl rfl (Nat.le_of_ble_eq_true rfl) (s_X7_isTheLeaf  hq2) ?_
  refine aw_if_eq (pc := 5) hX 15 dX7_leaf_5 rfl (fun hc5 => ?_) (fun hc5 => ?_)
  · have h := ite_f h (bI0 hc5)
    refine aw_iconst (pc := 15) hX (-1 : Int32) dX7_leaf_15 (by decide) ?_
    have e := Option.some.inj h
    subst e
    exact aw_iret hX hZ dX7_leaf_16 rfl rfl rfl rfl rfl rfl rfl (Nat.le_refl _)
  · have h := ite_t h (bI1 hc5)
    refine aw_iload_n (pc := 8) hX 2 dX7_leaf_8 rfl rfl ?_
    obtain ⟨r9, hq9, h⟩ := bind_s h
    refine aw_S1i (pc := 9) hX h_X7_isBit l_X7_202 dX7_leaf_9 rfl rfl rfl (Nat.le_of_ble_eq_true rfl) (s_X7_isBit  hq9) ?_
    refine aw_if_ne (pc := 12) hX 17 dX7_leaf_12 rfl (fun hc12 => ?_) (fun hc12 => ?_)
    · have h := ite_t h (bI1 hc12)
      refine aw_iload_n (pc := 17) hX 2 dX7_leaf_17 rfl rfl ?_
      refine aw_if_ne (pc := 18) hX 30 dX7_leaf_18 rfl (fun hc18 => ?_) (fun hc18 => ?_)
      · have h := ite_f h hc18
        refine aw_aload_n (pc := 30) hX 0 dX7_leaf_30 rfl rfl ?_
        refine aw_iload_n (pc := 31) hX 1 dX7_leaf_31 rfl rfl ?_
        obtain ⟨r32, hq32, h⟩ := bind_s h
        refine aw_V1i (pc := 32) hX h_X7_letsBy l_X7_191 dX7_leaf_32 (by rfl) (by decide) (by rfl) rfl rfl rfl (Nat.le_of_ble_eq_true rfl) (s_X7_letsBy  hq32) ?_
        have e := Option.some.inj h
        subst e
        exact aw_iret hX hZ dX7_leaf_35 rfl rfl rfl rfl rfl rfl rfl (Nat.le_refl _)
      · have h := ite_t h hc18
        refine aw_aload_n (pc := 21) hX 0 dX7_leaf_21 rfl rfl ?_
        refine aw_getR (pc := 22) hX dX7_leaf_22 f_X7_7 rfl (by rfl) (q := 78) (by rfl) ?_
        refine aw_iload_n (pc := 25) hX 1 dX7_leaf_25 rfl rfl ?_
        obtain ⟨hv26, h⟩ := ite_g h
        refine aw_iaload (pc := 26) hX dX7_leaf_26 (by rfl) (vinb_in hv26) ?_
        refine aw_goto (pc := 27) hX 35 dX7_leaf_27 rfl ?_
        have e := Option.some.inj h
        subst e
        exact aw_iret hX hZ dX7_leaf_35 rfl rfl rfl rfl rfl rfl rfl (Nat.le_refl _)
    · have h := ite_f h (bI0 hc12)
      refine aw_iconst (pc := 15) hX (-1 : Int32) dX7_leaf_15 (by decide) ?_
      have e := Option.some.inj h
      subst e
      exact aw_iret hX hZ dX7_leaf_16 rfl rfl rfl rfl rfl rfl rfl (Nat.le_refl _)
