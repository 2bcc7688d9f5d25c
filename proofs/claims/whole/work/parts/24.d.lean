def b_X6_says_109 (c : Nat) (d : Nat)  (I : Hi) (b3 : Bool) : Option (Int32 × Hi) := (f_X0_leafBehind (c) I (I (15) 1) (1 : Int32)).bind fun r125 => (some (u2 I (15) 1 r125)).bind fun I128 => (some (u2 I128 (15) 2 (jmin (999 : Int32) ((I128 (15) 2) + (1 : Int32))))).bind fun I150 => if b3 = true then (some ((1 : Int32), I150)) else (some ((0 : Int32), I150))
set_option maxRecDepth 100000 in
set_option maxHeartbeats 4000000 in
theorem t_X6_says_109 {G : GP} {X : CX} (hX : XOK G X mi_X6_says) {c d : Nat} (hc : isC c) (hd : isC d) {L : Hl} {p : Int32 × Hi} (hZ : XZ G X mi_X6_says (some (.int p.1)) S0 p.2 (R0 c d) L) (I : Hi) (b3 : Bool) (h : b_X6_says_109 c d I b3 = some p) : AW G X 0 0 S0 I (R0 c d) L 109 [.ref 0, .null, .null, .int (bI b3)] [] := by
  rw [b_X6_says_109] at h
  refine aw_aload_n (pc := 109) hX 0 dX6_says_109 rfl rfl ?_
  refine aw_getR (pc := 110) hX dX6_says_110 f_X6_29 rfl (by rfl) (q := 15) (by rfl) ?_
  refine aw_aload_n (pc := 113) hX 0 dX6_says_113 rfl rfl ?_
  refine aw_getR (pc := 114) hX dX6_says_114 f_X6_19 rfl (by rfl) (q := c) (by rfl) ?_
  refine aw_aload_n (pc := 117) hX 0 dX6_says_117 rfl rfl ?_
  refine aw_getR (pc := 118) hX dX6_says_118 f_X6_29 rfl (by rfl) (q := 15) (by rfl) ?_
  refine aw_getI (pc := 121) hX dX6_says_121 f_X6_129 rfl (by rfl) ?_
  refine aw_iconst (pc := 124) hX (1 : Int32) dX6_says_124 (by decide) ?_
  obtain ⟨r125, hq125, h⟩ := bind_s h
  refine aw_V2i (pc := 125) hX h_X0_leafBehind l_X6_168 dX6_says_125 (csh0 hc) (by decide) (by rfl) rfl rfl rfl (Nat.le_of_ble_eq_true rfl) (s_X0_leafBehind hc hq125) ?_
  refine aw_putI (pc := 128) hX dX6_says_128 f_X6_129 rfl rfl (by first | rfl | decide) (by first | rfl | decide) (by rfl) ?_
  obtain ⟨I128, hi128, h⟩ := bind_s h
  refine AW.iEq hi128 ?_
  refine aw_aload_n (pc := 131) hX 0 dX6_says_131 rfl rfl ?_
  refine aw_getR (pc := 132) hX dX6_says_132 f_X6_29 rfl (by rfl) (q := 15) (by rfl) ?_
  refine aw_sipush (pc := 135) hX (999 : Int32) dX6_says_135 (by decide) ?_
  refine aw_aload_n (pc := 138) hX 0 dX6_says_138 rfl rfl ?_
  refine aw_getR (pc := 139) hX dX6_says_139 f_X6_29 rfl (by rfl) (q := 15) (by rfl) ?_
  refine aw_getI (pc := 142) hX dX6_says_142 f_X6_132 rfl (by rfl) ?_
  refine aw_iconst (pc := 145) hX (1 : Int32) dX6_says_145 (by decide) ?_
  refine aw_iadd (pc := 146) hX dX6_says_146 ?_
  refine aw_min (pc := 147) hX dX6_says_147 l_X6_171 w_stat_J9_min_7cf53 w_ini_RJ9 w_code_J9_min_7cf53 (by decide) (Nat.le_of_ble_eq_true rfl) (Nat.le_refl _) (Nat.le_refl _) ?_
  refine aw_putI (pc := 150) hX dX6_says_150 f_X6_132 rfl rfl (by first | rfl | decide) (by first | rfl | decide) (by rfl) ?_
  obtain ⟨I150, hi150, h⟩ := bind_s h
  refine AW.iEq hi150 ?_
  refine aw_iload_n (pc := 153) hX 3 dX6_says_153 rfl rfl ?_
  refine aw_if_eq (pc := 154) hX 161 dX6_says_154 rfl (fun hc154 => ?_) (fun hc154 => ?_)
  · have h := ite_f h (bI0 hc154)
    refine aw_iconst (pc := 161) hX (0 : Int32) dX6_says_161 (by decide) ?_
    have e := Option.some.inj h
    subst e
    exact aw_iret hX hZ dX6_says_162 rfl rfl rfl rfl rfl rfl rfl (Nat.le_refl _)
  · have h := ite_t h (bI1 hc154)
    refine aw_iconst (pc := 157) hX (1 : Int32) dX6_says_157 (by decide) ?_
    refine aw_goto (pc := 158) hX 162 dX6_says_158 rfl ?_
    have e := Option.some.inj h
    subst e
    exact aw_iret hX hZ dX6_says_162 rfl rfl rfl rfl rfl rfl rfl (Nat.le_refl _)
def f_X6_says (c : Nat) (d : Nat) (I : Hi) (x1 : Int32) (x2 : Int32) : Option (Int32 × Hi) := (f_X0_hasGoer (c) I x1).bind fun r5 => if r5 = true then ((f_X6_isTaste x2).bind fun r12 => if r12 = true then (if vinb x1 6 then if (I (16) (x1).toNatClampNeg) = (1 : Int32) then (if (I (c) 5) = (0 : Int32) then (some ((-2 : Int32), I)) else ((f_X1_remember (15) I).bind fun r54 => (f_X0_goodTastes (c) r54 (r54 (15) 1) x1).bind fun r69 => (f_X6_hasBit r69 x2).bind fun r73 => if r73 = true then (if vinb x1 6 then (some (u2 r54 (16) (x1).toNatClampNeg (3 : Int32))).bind fun I90 => b_X6_says_109 c d I90 r73 else none) else ((f_X3_sendRound (15) r54 x1 (r54 (c) 9)).bind fun r106 => b_X6_says_109 c d r106 r73))) else (some ((-2 : Int32), I)) else none) else (some ((-1 : Int32), I))) else (some ((-1 : Int32), I))
set_option maxRecDepth 100000 in
set_option maxHeartbeats 4000000 in
theorem s_X6_says {G : GP} {c d : Nat} (hc : isC c) (hd : isC d) {I : Hi} {L : Hl} {x1 : Int32} {x2 : Int32} {p : Int32 × Hi} (h : f_X6_says c d I x1 x2 = some p) : CD G mi_X6_says [.ref 0, .int x1, .int x2] S0 I (R0 c d) L (some (.int p.1)) S0 p.2 (R0 c d) L := by
  refine CD.intro 1 rfl (by decide) rfl fun X hX hZ => ?_
  rw [f_X6_says] at h
  show AW G X 0 0 S0 I (R0 c d) L 0 [.ref 0, .int x1, .int x2, .null] []
  refine aw_aload_n (pc := 0) hX 0 dX6_says_0 rfl rfl ?_
  refine aw_getR (pc := 1) hX dX6_says_1 f_X6_19 rfl (by rfl) (q := c) (by rfl) ?_
  refine aw_iload_n (pc := 4) hX 1 dX6_says_4 rfl rfl ?_
  obtain ⟨r5, hq5, h⟩ := bind_s h
  refine aw_V1i (pc := 5) hX h_X0_hasGoer l_X6_98 dX6_says_5 (csh0 hc) (by decide) (by rfl) rfl rfl rfl (Nat.le_of_ble_eq_true rfl) (s_X0_hasGoer hc hq5) ?_
  refine aw_if_eq (pc := 8) hX 18 dX6_says_8 rfl (fun hc8 => ?_) (fun hc8 => ?_)
  · have h := ite_f h (bI0 hc8)
    refine aw_iconst (pc := 18) hX (-1 : Int32) dX6_says_18 (by decide) ?_
    have e := Option.some.inj h
    subst e
    exact aw_iret hX hZ dX6_says_19 rfl rfl rfl rfl rfl rfl rfl (Nat.le_refl _)
  · have h := ite_t h (bI1 hc8)
    refine aw_iload_n (pc := 11) hX 2 dX6_says_11 rfl rfl ?_
    obtain ⟨r12, hq12, h⟩ := bind_s h
    refine aw_S1i (pc := 12) hX h_X6_isTaste l_X6_122 dX6_says_12 rfl rfl rfl (Nat.le_of_ble_eq_true rfl) (s_X6_isTaste  hq12) ?_
    refine aw_if_ne (pc := 15) hX 20 dX6_says_15 rfl (fun hc15 => ?_) (fun hc15 => ?_)
    · have h := ite_t h (bI1 hc15)
      refine aw_aload_n (pc := 20) hX 0 dX6_says_20 rfl rfl ?_
      refine aw_getR (pc := 21) hX dX6_says_21 f_X6_29 rfl (by rfl) (q := 15) (by rfl) ?_
      refine aw_getR (pc := 24) hX dX6_says_24 f_X6_104 rfl (by rfl) (q := 16) (by rfl) ?_
      refine aw_iload_n (pc := 27) hX 1 dX6_says_27 rfl rfl ?_
      obtain ⟨hv28, h⟩ := ite_g h
      refine aw_iaload (pc := 28) hX dX6_says_28 (by rfl) (vinb_in hv28) ?_
      refine aw_iconst (pc := 29) hX (1 : Int32) dX6_says_29 (by decide) ?_
      refine aw_icmp_ne (pc := 30) hX 43 dX6_says_30 rfl (fun hc30 => ?_) (fun hc30 => ?_)
      · have h := ite_f h hc30
        refine aw_bipush (pc := 43) hX (-2 : Int32) dX6_says_43 (by decide) ?_
        have e := Option.some.inj h
        subst e
        exact aw_iret hX hZ dX6_says_45 rfl rfl rfl rfl rfl rfl rfl (Nat.le_refl _)
      · have h := ite_t h hc30
        refine aw_aload_n (pc := 33) hX 0 dX6_says_33 rfl rfl ?_
        refine aw_getR (pc := 34) hX dX6_says_34 f_X6_19 rfl (by rfl) (q := c) (by rfl) ?_
        refine aw_getI (pc := 37) hX dX6_says_37 f_X6_151 rfl (csh0 hc) ?_
        refine aw_if_ne (pc := 40) hX 46 dX6_says_40 rfl (fun hc40 => ?_) (fun hc40 => ?_)
        · have h := ite_f h hc40
          refine aw_aload_n (pc := 46) hX 0 dX6_says_46 rfl rfl ?_
          refine aw_getR (pc := 47) hX dX6_says_47 f_X6_36 rfl (by rfl) (q := 19) (by rfl) ?_
          refine aw_aload_n (pc := 50) hX 0 dX6_says_50 rfl rfl ?_
          refine aw_getR (pc := 51) hX dX6_says_51 f_X6_29 rfl (by rfl) (q := 15) (by rfl) ?_
          obtain ⟨r54, hq54, h⟩ := bind_s h
          refine aw_V1v (pc := 54) hX h_X1_remember l_X6_142 dX6_says_54 (by rfl) (by decide) (by rfl) rfl rfl rfl (Nat.le_of_ble_eq_true rfl) (s_X1_remember (isNb (by decide)) hq54) ?_
          refine aw_aload_n (pc := 57) hX 0 dX6_says_57 rfl rfl ?_
          refine aw_getR (pc := 58) hX dX6_says_58 f_X6_19 rfl (by rfl) (q := c) (by rfl) ?_
          refine aw_aload_n (pc := 61) hX 0 dX6_says_61 rfl rfl ?_
          refine aw_getR (pc := 62) hX dX6_says_62 f_X6_29 rfl (by rfl) (q := 15) (by rfl) ?_
          refine aw_getI (pc := 65) hX dX6_says_65 f_X6_129 rfl (by rfl) ?_
          refine aw_iload_n (pc := 68) hX 1 dX6_says_68 rfl rfl ?_
          obtain ⟨r69, hq69, h⟩ := bind_s h
          refine aw_V2i (pc := 69) hX h_X0_goodTastes l_X6_154 dX6_says_69 (csh0 hc) (by decide) (by rfl) rfl rfl rfl (Nat.le_of_ble_eq_true rfl) (s_X0_goodTastes hc hq69) ?_
          refine aw_iload_n (pc := 72) hX 2 dX6_says_72 rfl rfl ?_
          obtain ⟨r73, hq73, h⟩ := bind_s h
          refine aw_S2i (pc := 73) hX h_X6_hasBit l_X6_157 dX6_says_73 rfl rfl rfl (Nat.le_of_ble_eq_true rfl) (s_X6_hasBit  hq73) ?_
          refine aw_istore_nE (pc := 76) hX 3 [.ref 0, .int x1, .int x2, .int (bI r73)] dX6_says_76 rfl (by decide) rfl rfl ?_
          refine aw_iload_n (pc := 77) hX 3 dX6_says_77 rfl rfl ?_
          refine aw_if_eq (pc := 78) hX 94 dX6_says_78 rfl (fun hc78 => ?_) (fun hc78 => ?_)
          · have h := ite_f h (bI0 hc78)
            refine aw_aload_n (pc := 94) hX 0 dX6_says_94 rfl rfl ?_
            refine aw_getR (pc := 95) hX dX6_says_95 f_X6_29 rfl (by rfl) (q := 15) (by rfl) ?_
            refine aw_iload_n (pc := 98) hX 1 dX6_says_98 rfl rfl ?_
            refine aw_aload_n (pc := 99) hX 0 dX6_says_99 rfl rfl ?_
            refine aw_getR (pc := 100) hX dX6_says_100 f_X6_19 rfl (by rfl) (q := c) (by rfl) ?_
            refine aw_getI (pc := 103) hX dX6_says_103 f_X6_161 rfl (csh0 hc) ?_
            obtain ⟨r106, hq106, h⟩ := bind_s h
            refine aw_V2v (pc := 106) hX h_X3_sendRound l_X6_164 dX6_says_106 (by rfl) (by decide) (by rfl) rfl rfl rfl (Nat.le_of_ble_eq_true rfl) (s_X3_sendRound (isNb (by decide)) hq106) ?_
            exact AW.lo (t_X6_says_109 hX hc hd hZ r106 r73 h) (And.intro (Or.inr rfl) (And.intro (Or.inl rfl) (And.intro (Or.inl rfl) (And.intro (Or.inr rfl) trivial))))
          · have h := ite_t h (bI1 hc78)
            refine aw_aload_n (pc := 81) hX 0 dX6_says_81 rfl rfl ?_
            refine aw_getR (pc := 82) hX dX6_says_82 f_X6_29 rfl (by rfl) (q := 15) (by rfl) ?_
            refine aw_getR (pc := 85) hX dX6_says_85 f_X6_104 rfl (by rfl) (q := 16) (by rfl) ?_
            refine aw_iload_n (pc := 88) hX 1 dX6_says_88 rfl rfl ?_
            refine aw_iconst (pc := 89) hX (3 : Int32) dX6_says_89 (by decide) ?_
            obtain ⟨hv90, h⟩ := ite_g h
            refine aw_iastore (pc := 90) hX dX6_says_90 (by rfl) (vinb_in hv90) ?_
            obtain ⟨I90, hi90, h⟩ := bind_s h
            refine AW.iEq hi90 ?_
            refine aw_goto (pc := 91) hX 109 dX6_says_91 rfl ?_
            exact AW.lo (t_X6_says_109 hX hc hd hZ I90 r73 h) (And.intro (Or.inr rfl) (And.intro (Or.inl rfl) (And.intro (Or.inl rfl) (And.intro (Or.inr rfl) trivial))))
        · have h := ite_t h hc40
          refine aw_bipush (pc := 43) hX (-2 : Int32) dX6_says_43 (by decide) ?_
          have e := Option.some.inj h
          subst e
          exact aw_iret hX hZ dX6_says_45 rfl rfl rfl rfl rfl rfl rfl (Nat.le_refl _)
    · have h := ite_f h (bI0 hc15)
      refine aw_iconst (pc := 18) hX (-1 : Int32) dX6_says_18 (by decide) ?_
      have e := Option.some.inj h
      subst e
      exact aw_iret hX hZ dX6_says_19 rfl rfl rfl rfl rfl rfl rfl (Nat.le_refl _)
def f_X6_minutes (I : Hi) (x1 : Int32) : Option (Int32 × Hi) := if x1 < (1 : Int32) then (some ((-1 : Int32), I)) else (if x1 ≤ (9 : Int32) then (if ((I (15) 0) + x1) ≤ (999 : Int32) then ((f_X1_remember (15) I).bind fun r39 => (f_X3_pass (15) r39 x1).bind fun r47 => (f_X3_whoAre (15) r47 (1 : Int32)).bind fun r55 => (f_J6_bitCount_0f7a4 r55).bind fun r58 => some (r58, r47)) else (some ((-2 : Int32), I))) else (some ((-1 : Int32), I)))
set_option maxRecDepth 100000 in
set_option maxHeartbeats 4000000 in
theorem s_X6_minutes {G : GP} {c d : Nat} {I : Hi} {L : Hl} {x1 : Int32} {p : Int32 × Hi} (h : f_X6_minutes I x1 = some p) : CD G mi_X6_minutes [.ref 0, .int x1] S0 I (R0 c d) L (some (.int p.1)) S0 p.2 (R0 c d) L := by
  refine CD.intro 0 rfl (by decide) rfl fun X hX hZ => ?_
  rw [f_X6_minutes] at h
  show AW G X 0 0 S0 I (R0 c d) L 0 [.ref 0, .int x1] []
  refine aw_iload_n (pc := 0) hX 1 dX6_minutes_0 rfl rfl ?_
  refine aw_iconst (pc := 1) hX (1 : Int32) dX6_minutes_1 (by decide) ?_
  refine aw_icmp_lt (pc := 2) hX 11 dX6_minutes_2 rfl (fun hc2 => ?_) (fun hc2 => ?_)
  · have h := ite_t h hc2
    refine aw_iconst (pc := 11) hX (-1 : Int32) dX6_minutes_11 (by decide) ?_
    have e := Option.some.inj h
    subst e
    exact aw_iret hX hZ dX6_minutes_12 rfl rfl rfl rfl rfl rfl rfl (Nat.le_refl _)
  · have h := ite_f h hc2
    refine aw_iload_n (pc := 5) hX 1 dX6_minutes_5 rfl rfl ?_
    refine aw_bipush (pc := 6) hX (9 : Int32) dX6_minutes_6 (by decide) ?_
    refine aw_icmp_le (pc := 8) hX 13 dX6_minutes_8 rfl (fun hc8 => ?_) (fun hc8 => ?_)
    · have h := ite_t h hc8
      refine aw_aload_n (pc := 13) hX 0 dX6_minutes_13 rfl rfl ?_
      refine aw_getR (pc := 14) hX dX6_minutes_14 f_X6_29 rfl (by rfl) (q := 15) (by rfl) ?_
      refine aw_getI (pc := 17) hX dX6_minutes_17 f_X6_110 rfl (by rfl) ?_
      refine aw_iload_n (pc := 20) hX 1 dX6_minutes_20 rfl rfl ?_
      refine aw_iadd (pc := 21) hX dX6_minutes_21 ?_
      refine aw_sipush (pc := 22) hX (999 : Int32) dX6_minutes_22 (by decide) ?_
      refine aw_icmp_le (pc := 25) hX 31 dX6_minutes_25 rfl (fun hc25 => ?_) (fun hc25 => ?_)
      · have h := ite_t h hc25
        refine aw_aload_n (pc := 31) hX 0 dX6_minutes_31 rfl rfl ?_
        refine aw_getR (pc := 32) hX dX6_minutes_32 f_X6_36 rfl (by rfl) (q := 19) (by rfl) ?_
        refine aw_aload_n (pc := 35) hX 0 dX6_minutes_35 rfl rfl ?_
        refine aw_getR (pc := 36) hX dX6_minutes_36 f_X6_29 rfl (by rfl) (q := 15) (by rfl) ?_
        obtain ⟨r39, hq39, h⟩ := bind_s h
        refine aw_V1v (pc := 39) hX h_X1_remember l_X6_142 dX6_minutes_39 (by rfl) (by decide) (by rfl) rfl rfl rfl (Nat.le_of_ble_eq_true rfl) (s_X1_remember (isNb (by decide)) hq39) ?_
        refine aw_aload_n (pc := 42) hX 0 dX6_minutes_42 rfl rfl ?_
        refine aw_getR (pc := 43) hX dX6_minutes_43 f_X6_29 rfl (by rfl) (q := 15) (by rfl) ?_
        refine aw_iload_n (pc := 46) hX 1 dX6_minutes_46 rfl rfl ?_
        obtain ⟨r47, hq47, h⟩ := bind_s h
        refine aw_V1v (pc := 47) hX h_X3_pass l_X6_176 dX6_minutes_47 (by rfl) (by decide) (by rfl) rfl rfl rfl (Nat.le_of_ble_eq_true rfl) (s_X3_pass (isNb (by decide)) hq47) ?_
        refine aw_aload_n (pc := 50) hX 0 dX6_minutes_50 rfl rfl ?_
        refine aw_getR (pc := 51) hX dX6_minutes_51 f_X6_29 rfl (by rfl) (q := 15) (by rfl) ?_
        refine aw_iconst (pc := 54) hX (1 : Int32) dX6_minutes_54 (by decide) ?_
        obtain ⟨r55, hq55, h⟩ := bind_s h
        refine aw_V1i (pc := 55) hX h_X3_whoAre l_X6_135 dX6_minutes_55 (by rfl) (by decide) (by rfl) rfl rfl rfl (Nat.le_of_ble_eq_true rfl) (s_X3_whoAre (isNb (by decide)) hq55) ?_
        obtain ⟨r58, hq58, h⟩ := bind_s h
        refine aw_S1i (pc := 58) hX h_J6_bitCount_0f7a4 l_X6_146 dX6_minutes_58 rfl rfl rfl (Nat.le_of_ble_eq_true rfl) (s_J6_bitCount_0f7a4  hq58) ?_
        have e := Option.some.inj h
        subst e
        exact aw_iret hX hZ dX6_minutes_61 rfl rfl rfl rfl rfl rfl rfl (Nat.le_refl _)
      · have h := ite_f h hc25
        refine aw_bipush (pc := 28) hX (-2 : Int32) dX6_minutes_28 (by decide) ?_
        have e := Option.some.inj h
        subst e
        exact aw_iret hX hZ dX6_minutes_30 rfl rfl rfl rfl rfl rfl rfl (Nat.le_refl _)
    · have h := ite_f h hc8
      refine aw_iconst (pc := 11) hX (-1 : Int32) dX6_minutes_11 (by decide) ?_
      have e := Option.some.inj h
      subst e
      exact aw_iret hX hZ dX6_minutes_12 rfl rfl rfl rfl rfl rfl rfl (Nat.le_refl _)
def f_X6_undo (I : Hi)  : Option (Int32 × Hi) := if (I (19) 1) = (0 : Int32) then (some ((-2 : Int32), I)) else ((f_X1_recall (15) I).bind fun r21 => some ((r21 (19) 1), r21))
set_option maxRecDepth 100000 in
set_option maxHeartbeats 4000000 in
theorem s_X6_undo {G : GP} {c d : Nat} {I : Hi} {L : Hl}  {p : Int32 × Hi} (h : f_X6_undo I = some p) : CD G mi_X6_undo [.ref 0] S0 I (R0 c d) L (some (.int p.1)) S0 p.2 (R0 c d) L := by
  refine CD.intro 0 rfl (by decide) rfl fun X hX hZ => ?_
  rw [f_X6_undo] at h
  show AW G X 0 0 S0 I (R0 c d) L 0 [.ref 0] []
  refine aw_aload_n (pc := 0) hX 0 dX6_undo_0 rfl rfl ?_
  refine aw_getR (pc := 1) hX dX6_undo_1 f_X6_36 rfl (by rfl) (q := 19) (by rfl) ?_
  refine aw_getI (pc := 4) hX dX6_undo_4 f_X6_81 rfl (by rfl) ?_
  refine aw_if_ne (pc := 7) hX 13 dX6_undo_7 rfl (fun hc7 => ?_) (fun hc7 => ?_)
  · have h := ite_f h hc7
    refine aw_aload_n (pc := 13) hX 0 dX6_undo_13 rfl rfl ?_
    refine aw_getR (pc := 14) hX dX6_undo_14 f_X6_36 rfl (by rfl) (q := 19) (by rfl) ?_
    refine aw_aload_n (pc := 17) hX 0 dX6_undo_17 rfl rfl ?_
    refine aw_getR (pc := 18) hX dX6_undo_18 f_X6_29 rfl (by rfl) (q := 15) (by rfl) ?_
    obtain ⟨r21, hq21, h⟩ := bind_s h
    refine aw_V1v (pc := 21) hX h_X1_recall l_X6_180 dX6_undo_21 (by rfl) (by decide) (by rfl) rfl rfl rfl (Nat.le_of_ble_eq_true rfl) (s_X1_recall (isNb (by decide)) hq21) ?_
    refine aw_aload_n (pc := 24) hX 0 dX6_undo_24 rfl rfl ?_
    refine aw_getR (pc := 25) hX dX6_undo_25 f_X6_36 rfl (by rfl) (q := 19) (by rfl) ?_
    refine aw_getI (pc := 28) hX dX6_undo_28 f_X6_81 rfl (by rfl) ?_
    have e := Option.some.inj h
    subst e
    exact aw_iret hX hZ dX6_undo_31 rfl rfl rfl rfl rfl rfl rfl (Nat.le_refl _)
  · have h := ite_t h hc7
    refine aw_bipush (pc := 10) hX (-2 : Int32) dX6_undo_10 (by decide) ?_
    have e := Option.some.inj h
    subst e
    exact aw_iret hX hZ dX6_undo_12 rfl rfl rfl rfl rfl rfl rfl (Nat.le_refl _)
def b_X6_lowestBit_2   : Nat → Int32 → Int32 → Option (Int32)
  | 0, _, _ => none
  | n + 1, x0, x1 => if (31 : Int32) ≤ x1 then (some ((-9 : Int32))) else ((f_X6_hasBit x0 x1).bind fun r10 => if r10 = true then (some (x1)) else (b_X6_lowestBit_2 n x0 (x1 + 1)))
set_option maxRecDepth 100000 in
set_option maxHeartbeats 4000000 in
theorem t_X6_lowestBit_2 {G : GP} {X : CX} (hX : XOK G X mi_X6_lowestBit) {c d : Nat} {I : Hi} {L : Hl} {p : Int32} (hZ : XZ G X mi_X6_lowestBit (some (.int p)) S0 I (R0 c d) L) : ∀ (n : Nat) (x0 : Int32) (x1 : Int32), b_X6_lowestBit_2 n x0 x1 = some p → AW G X 0 0 S0 I (R0 c d) L 2 [.int x0, .int x1] [] := by
  intro n
  induction n with
  | zero => intro x0 x1 h; cases h
  | succ n ih =>
    intro x0 x1 h
    rw [b_X6_lowestBit_2] at h
    refine aw_iload_n (pc := 2) hX 1 dX6_lowestBit_2 rfl rfl ?_
    refine aw_bipush (pc := 3) hX (31 : Int32) dX6_lowestBit_3 (by decide) ?_
    refine aw_icmp_ge (pc := 5) hX 24 dX6_lowestBit_5 rfl (fun hc5 => ?_) (fun hc5 => ?_)
    · have h := ite_t h hc5
      refine aw_bipush (pc := 24) hX (-9 : Int32) dX6_lowestBit_24 (by decide) ?_
      have e := Option.some.inj h
      subst e
      exact aw_iret hX hZ dX6_lowestBit_26 rfl rfl rfl rfl rfl rfl rfl (Nat.le_refl _)
    · have h := ite_f h hc5
      refine aw_iload_n (pc := 8) hX 0 dX6_lowestBit_8 rfl rfl ?_
      refine aw_iload_n (pc := 9) hX 1 dX6_lowestBit_9 rfl rfl ?_
      obtain ⟨r10, hq10, h⟩ := bind_s h
      refine aw_S2i (pc := 10) hX h_X6_hasBit l_X6_157 dX6_lowestBit_10 rfl rfl rfl (Nat.le_of_ble_eq_true rfl) (s_X6_hasBit  hq10) ?_
      refine aw_if_eq (pc := 13) hX 18 dX6_lowestBit_13 rfl (fun hc13 => ?_) (fun hc13 => ?_)
      · have h := ite_f h (bI0 hc13)
        refine aw_iincE (pc := 18) hX (x1 + 1) [.int x0, .int (x1 + 1)] dX6_lowestBit_18 rfl rfl (by decide) rfl rfl ?_
        refine aw_goto (pc := 21) hX 2 dX6_lowestBit_21 rfl ?_
        exact AW.lo (ih x0 (x1 + 1)  h) (And.intro (Or.inr rfl) (And.intro (Or.inr rfl) trivial))
      · have h := ite_t h (bI1 hc13)
        refine aw_iload_n (pc := 16) hX 1 dX6_lowestBit_16 rfl rfl ?_
        have e := Option.some.inj h
        subst e
        exact aw_iret hX hZ dX6_lowestBit_17 rfl rfl rfl rfl rfl rfl rfl (Nat.le_refl _)
def f_X6_lowestBit  (x0 : Int32) : Option (Int32) := b_X6_lowestBit_2 2000 x0 (0 : Int32)
set_option maxRecDepth 100000 in
set_option maxHeartbeats 4000000 in
theorem s_X6_lowestBit {G : GP} {c d : Nat} {I : Hi} {L : Hl} {x0 : Int32} {p : Int32} (h : f_X6_lowestBit x0 = some p) : CD G mi_X6_lowestBit [.int x0] S0 I (R0 c d) L (some (.int p)) S0 I (R0 c d) L := by
  refine CD.intro 1 rfl (by decide) rfl fun X hX hZ => ?_
  rw [f_X6_lowestBit] at h
  show AW G X 0 0 S0 I (R0 c d) L 0 [.int x0, .null] []
  refine aw_iconst (pc := 0) hX (0 : Int32) dX6_lowestBit_0 (by decide) ?_
  refine aw_istore_nE (pc := 1) hX 1 [.int x0, .int (0 : Int32)] dX6_lowestBit_1 rfl (by decide) rfl rfl ?_
  exact AW.lo (t_X6_lowestBit_2 hX hZ 2000 x0 (0 : Int32) h) (And.intro (Or.inr rfl) (And.intro (Or.inr rfl) trivial))
def b_X6_fewest_81 (c : Nat) (d : Nat) (I : Hi)  (x2 : Int32) (x3 : Int32) (x4 : Int32) : Option (Int32) := if x2 = (0 : Int32) then (some ((x3 + (1 : Int32)))) else ((f_X6_lowestBit x4).bind fun r93 => some (r93))
set_option maxRecDepth 100000 in
set_option maxHeartbeats 4000000 in
theorem t_X6_fewest_81 {G : GP} {X : CX} (hX : XOK G X mi_X6_fewest) {c d : Nat} (hc : isC c) (hd : isC d) {I : Hi} {L : Hl} {p : Int32} (hZ : XZ G X mi_X6_fewest (some (.int p)) S0 I (R0 c d) L) (x2 : Int32) (x3 : Int32) (x4 : Int32) (h : b_X6_fewest_81 c d I x2 x3 x4 = some p) : AW G X 0 0 S0 I (R0 c d) L 81 [.null, .null, .int x2, .int x3, .int x4] [] := by
  rw [b_X6_fewest_81] at h
  refine aw_iload_n (pc := 81) hX 2 dX6_fewest_81 rfl rfl ?_
  refine aw_if_ne (pc := 82) hX 91 dX6_fewest_82 rfl (fun hc82 => ?_) (fun hc82 => ?_)
  · have h := ite_f h hc82
    refine aw_iload (pc := 91) hX dX6_fewest_91 rfl ?_
    obtain ⟨r93, hq93, h⟩ := bind_s h
    refine aw_S1i (pc := 93) hX h_X6_lowestBit l_X6_183 dX6_fewest_93 rfl rfl rfl (Nat.le_of_ble_eq_true rfl) (s_X6_lowestBit  hq93) ?_
    have e := Option.some.inj h
    subst e
    exact aw_iret hX hZ dX6_fewest_96 rfl rfl rfl rfl rfl rfl rfl (Nat.le_refl _)
  · have h := ite_t h hc82
    refine aw_iload_n (pc := 85) hX 3 dX6_fewest_85 rfl rfl ?_
    refine aw_iconst (pc := 86) hX (1 : Int32) dX6_fewest_86 (by decide) ?_
    refine aw_iadd (pc := 87) hX dX6_fewest_87 ?_
    refine aw_goto (pc := 88) hX 96 dX6_fewest_88 rfl ?_
    have e := Option.some.inj h
    subst e
    exact aw_iret hX hZ dX6_fewest_96 rfl rfl rfl rfl rfl rfl rfl (Nat.le_refl _)
def b_X6_fewest_40 (c : Nat) (d : Nat) (I : Hi)  : Nat → Int32 → Int32 → Int32 → Option (Int32)
  | 0, _, _, _ => none
  | n + 1, x1, x2, x3 => if (I (c) 5) ≤ x3 then (some ((-9 : Int32))) else ((f_X0_leafBehind (c) I (I (15) 1) x3).bind fun r67 => (f_X0_goodTastes (c) I r67 x1).bind fun r71 => if r71 = (0 : Int32) then (b_X6_fewest_40 c d I n x1 x2 (x3 + 1)) else (b_X6_fewest_81 c d I x2 x3 r71))
set_option maxRecDepth 100000 in
set_option maxHeartbeats 4000000 in
theorem t_X6_fewest_40 {G : GP} {X : CX} (hX : XOK G X mi_X6_fewest) {c d : Nat} (hc : isC c) (hd : isC d) {I : Hi} {L : Hl} {p : Int32} (hZ : XZ G X mi_X6_fewest (some (.int p)) S0 I (R0 c d) L) : ∀ (n : Nat) (x1 : Int32) (x2 : Int32) (x3 : Int32), b_X6_fewest_40 c d I n x1 x2 x3 = some p → AW G X 0 0 S0 I (R0 c d) L 40 [.ref 0, .int x1, .int x2, .int x3, .null] [] := by
  intro n
  induction n with
  | zero => intro x1 x2 x3 h; cases h
  | succ n ih =>
    intro x1 x2 x3 h
    rw [b_X6_fewest_40] at h
    refine aw_iload_n (pc := 40) hX 3 dX6_fewest_40 rfl rfl ?_
    refine aw_aload_n (pc := 41) hX 0 dX6_fewest_41 rfl rfl ?_
    refine aw_getR (pc := 42) hX dX6_fewest_42 f_X6_19 rfl (by rfl) (q := c) (by rfl) ?_
    refine aw_getI (pc := 45) hX dX6_fewest_45 f_X6_151 rfl (csh0 hc) ?_
    refine aw_icmp_ge (pc := 48) hX 103 dX6_fewest_48 rfl (fun hc48 => ?_) (fun hc48 => ?_)
    · have h := ite_t h hc48
      refine aw_bipush (pc := 103) hX (-9 : Int32) dX6_fewest_103 (by decide) ?_
      have e := Option.some.inj h
      subst e
      exact aw_iret hX hZ dX6_fewest_105 rfl rfl rfl rfl rfl rfl rfl (Nat.le_refl _)
    · have h := ite_f h hc48
      refine aw_aload_n (pc := 51) hX 0 dX6_fewest_51 rfl rfl ?_
      refine aw_getR (pc := 52) hX dX6_fewest_52 f_X6_19 rfl (by rfl) (q := c) (by rfl) ?_
      refine aw_aload_n (pc := 55) hX 0 dX6_fewest_55 rfl rfl ?_
      refine aw_getR (pc := 56) hX dX6_fewest_56 f_X6_19 rfl (by rfl) (q := c) (by rfl) ?_
      refine aw_aload_n (pc := 59) hX 0 dX6_fewest_59 rfl rfl ?_
      refine aw_getR (pc := 60) hX dX6_fewest_60 f_X6_29 rfl (by rfl) (q := 15) (by rfl) ?_
      refine aw_getI (pc := 63) hX dX6_fewest_63 f_X6_129 rfl (by rfl) ?_
      refine aw_iload_n (pc := 66) hX 3 dX6_fewest_66 rfl rfl ?_
      obtain ⟨r67, hq67, h⟩ := bind_s h
      refine aw_V2i (pc := 67) hX h_X0_leafBehind l_X6_168 dX6_fewest_67 (csh0 hc) (by decide) (by rfl) rfl rfl rfl (Nat.le_of_ble_eq_true rfl) (s_X0_leafBehind hc hq67) ?_
      refine aw_iload_n (pc := 70) hX 1 dX6_fewest_70 rfl rfl ?_
      obtain ⟨r71, hq71, h⟩ := bind_s h
      refine aw_V2i (pc := 71) hX h_X0_goodTastes l_X6_154 dX6_fewest_71 (csh0 hc) (by decide) (by rfl) rfl rfl rfl (Nat.le_of_ble_eq_true rfl) (s_X0_goodTastes hc hq71) ?_
      refine aw_istoreE (pc := 74) hX [.ref 0, .int x1, .int x2, .int x3, .int r71] dX6_fewest_74 (by decide) rfl rfl ?_
      refine aw_iload (pc := 76) hX dX6_fewest_76 rfl ?_
      refine aw_if_eq (pc := 78) hX 97 dX6_fewest_78 rfl (fun hc78 => ?_) (fun hc78 => ?_)
      · have h := ite_t h hc78
        refine aw_iincE (pc := 97) hX (x3 + 1) [.ref 0, .int x1, .int x2, .int (x3 + 1), .int r71] dX6_fewest_97 rfl rfl (by decide) rfl rfl ?_
        refine aw_goto (pc := 100) hX 40 dX6_fewest_100 rfl ?_
        exact AW.lo (ih x1 x2 (x3 + 1)  h) (And.intro (Or.inr rfl) (And.intro (Or.inr rfl) (And.intro (Or.inr rfl) (And.intro (Or.inr rfl) (And.intro (Or.inl rfl) trivial)))))
      · have h := ite_f h hc78
        exact AW.lo (t_X6_fewest_81 hX hc hd hZ x2 x3 r71 h) (And.intro (Or.inl rfl) (And.intro (Or.inl rfl) (And.intro (Or.inr rfl) (And.intro (Or.inr rfl) (And.intro (Or.inr rfl) trivial)))))
def f_X6_fewest (c : Nat) (d : Nat) (I : Hi) (x1 : Int32) (x2 : Int32) : Option (Int32) := (f_X0_hasGoer (c) I x1).bind fun r5 => if r5 = true then (if x2 < (0 : Int32) then (some ((-1 : Int32))) else (if x2 ≤ (1 : Int32) then (if vinb x1 6 then if (I (16) (x1).toNatClampNeg) = (3 : Int32) then (some ((-2 : Int32))) else (b_X6_fewest_40 c d I 2000 x1 x2 (0 : Int32)) else none) else (some ((-1 : Int32))))) else (some ((-1 : Int32)))
set_option maxRecDepth 100000 in
set_option maxHeartbeats 4000000 in
theorem s_X6_fewest {G : GP} {c d : Nat} (hc : isC c) (hd : isC d) {I : Hi} {L : Hl} {x1 : Int32} {x2 : Int32} {p : Int32} (h : f_X6_fewest c d I x1 x2 = some p) : CD G mi_X6_fewest [.ref 0, .int x1, .int x2] S0 I (R0 c d) L (some (.int p)) S0 I (R0 c d) L := by
  refine CD.intro 2 rfl (by decide) rfl fun X hX hZ => ?_
  rw [f_X6_fewest] at h
  show AW G X 0 0 S0 I (R0 c d) L 0 [.ref 0, .int x1, .int x2, .null, .null] []
  refine aw_aload_n (pc := 0) hX 0 dX6_fewest_0 rfl rfl ?_
  refine aw_getR (pc := 1) hX dX6_fewest_1 f_X6_19 rfl (by rfl) (q := c) (by rfl) ?_
  refine aw_iload_n (pc := 4) hX 1 dX6_fewest_4 rfl rfl ?_
  obtain ⟨r5, hq5, h⟩ := bind_s h
  refine aw_V1i (pc := 5) hX h_X0_hasGoer l_X6_98 dX6_fewest_5 (csh0 hc) (by decide) (by rfl) rfl rfl rfl (Nat.le_of_ble_eq_true rfl) (s_X0_hasGoer hc hq5) ?_
  refine aw_if_eq (pc := 8) hX 20 dX6_fewest_8 rfl (fun hc8 => ?_) (fun hc8 => ?_)
  · have h := ite_f h (bI0 hc8)
    refine aw_iconst (pc := 20) hX (-1 : Int32) dX6_fewest_20 (by decide) ?_
    have e := Option.some.inj h
    subst e
    exact aw_iret hX hZ dX6_fewest_21 rfl rfl rfl rfl rfl rfl rfl (Nat.le_refl _)
  · have h := ite_t h (bI1 hc8)
    refine aw_iload_n (pc := 11) hX 2 dX6_fewest_11 rfl rfl ?_
    refine aw_if_lt (pc := 12) hX 20 dX6_fewest_12 rfl (fun hc12 => ?_) (fun hc12 => ?_)
    · have h := ite_t h hc12
      refine aw_iconst (pc := 20) hX (-1 : Int32) dX6_fewest_20 (by decide) ?_
      have e := Option.some.inj h
      subst e
      exact aw_iret hX hZ dX6_fewest_21 rfl rfl rfl rfl rfl rfl rfl (Nat.le_refl _)
    · have h := ite_f h hc12
      refine aw_iload_n (pc := 15) hX 2 dX6_fewest_15 rfl rfl ?_
      refine aw_iconst (pc := 16) hX (1 : Int32) dX6_fewest_16 (by decide) ?_
      refine aw_icmp_le (pc := 17) hX 22 dX6_fewest_17 rfl (fun hc17 => ?_) (fun hc17 => ?_)
      · have h := ite_t h hc17
        refine aw_aload_n (pc := 22) hX 0 dX6_fewest_22 rfl rfl ?_
        refine aw_getR (pc := 23) hX dX6_fewest_23 f_X6_29 rfl (by rfl) (q := 15) (by rfl) ?_
        refine aw_getR (pc := 26) hX dX6_fewest_26 f_X6_104 rfl (by rfl) (q := 16) (by rfl) ?_
        refine aw_iload_n (pc := 29) hX 1 dX6_fewest_29 rfl rfl ?_
        obtain ⟨hv30, h⟩ := ite_g h
        refine aw_iaload (pc := 30) hX dX6_fewest_30 (by rfl) (vinb_in hv30) ?_
        refine aw_iconst (pc := 31) hX (3 : Int32) dX6_fewest_31 (by decide) ?_
        refine aw_icmp_ne (pc := 32) hX 38 dX6_fewest_32 rfl (fun hc32 => ?_) (fun hc32 => ?_)
        · have h := ite_f h hc32
          refine aw_iconst (pc := 38) hX (0 : Int32) dX6_fewest_38 (by decide) ?_
          refine aw_istore_nE (pc := 39) hX 3 [.ref 0, .int x1, .int x2, .int (0 : Int32), .null] dX6_fewest_39 rfl (by decide) rfl rfl ?_
          exact AW.lo (t_X6_fewest_40 hX hc hd hZ 2000 x1 x2 (0 : Int32) h) (And.intro (Or.inr rfl) (And.intro (Or.inr rfl) (And.intro (Or.inr rfl) (And.intro (Or.inr rfl) (And.intro (Or.inl rfl) trivial)))))
        · have h := ite_t h hc32
          refine aw_bipush (pc := 35) hX (-2 : Int32) dX6_fewest_35 (by decide) ?_
          have e := Option.some.inj h
          subst e
          exact aw_iret hX hZ dX6_fewest_37 rfl rfl rfl rfl rfl rfl rfl (Nat.le_refl _)
      · have h := ite_f h hc17
        refine aw_iconst (pc := 20) hX (-1 : Int32) dX6_fewest_20 (by decide) ?_
        have e := Option.some.inj h
        subst e
        exact aw_iret hX hZ dX6_fewest_21 rfl rfl rfl rfl rfl rfl rfl (Nat.le_refl _)
def f_X6_line (c : Nat) (d : Nat) (I : Hi) (x1 : Int32) : Option (Int32 × Hi) := if x1 < (-1 : Int32) then (some ((-1 : Int32), I)) else (if x1 < (6 : Int32) then ((f_X2_weigh (c) (15) I).bind fun r25 => if x1 = (-1 : Int32) then (if vinb (0 : Int32) 64 then some ((r25 (68) ((0 : Int32)).toNatClampNeg), r25) else none) else ((f_X2_goerAt (c) (15) r25 x1).bind fun r58 => some (r58, r25))) else (some ((-1 : Int32), I)))
set_option maxRecDepth 100000 in
set_option maxHeartbeats 4000000 in
theorem s_X6_line {G : GP} {c d : Nat} (hc : isC c) (hd : isC d) {I : Hi} {L : Hl} {x1 : Int32} {p : Int32 × Hi} (h : f_X6_line c d I x1 = some p) : CD G mi_X6_line [.ref 0, .int x1] S0 I (R0 c d) L (some (.int p.1)) S0 p.2 (R0 c d) L := by
  refine CD.intro 0 rfl (by decide) rfl fun X hX hZ => ?_
  rw [f_X6_line] at h
  show AW G X 0 0 S0 I (R0 c d) L 0 [.ref 0, .int x1] []
  refine aw_iload_n (pc := 0) hX 1 dX6_line_0 rfl rfl ?_
  refine aw_iconst (pc := 1) hX (-1 : Int32) dX6_line_1 (by decide) ?_
  refine aw_icmp_lt (pc := 2) hX 11 dX6_line_2 rfl (fun hc2 => ?_) (fun hc2 => ?_)
  · have h := ite_t h hc2
    refine aw_iconst (pc := 11) hX (-1 : Int32) dX6_line_11 (by decide) ?_
    have e := Option.some.inj h
    subst e
    exact aw_iret hX hZ dX6_line_12 rfl rfl rfl rfl rfl rfl rfl (Nat.le_refl _)
  · have h := ite_f h hc2
    refine aw_iload_n (pc := 5) hX 1 dX6_line_5 rfl rfl ?_
    refine aw_bipush (pc := 6) hX (6 : Int32) dX6_line_6 (by decide) ?_
    refine aw_icmp_lt (pc := 8) hX 13 dX6_line_8 rfl (fun hc8 => ?_) (fun hc8 => ?_)
    · have h := ite_t h hc8
      refine aw_aload_n (pc := 13) hX 0 dX6_line_13 rfl rfl ?_
      refine aw_getR (pc := 14) hX dX6_line_14 f_X6_58 rfl (by rfl) (q := 67) (by rfl) ?_
      refine aw_aload_n (pc := 17) hX 0 dX6_line_17 rfl rfl ?_
      refine aw_getR (pc := 18) hX dX6_line_18 f_X6_19 rfl (by rfl) (q := c) (by rfl) ?_
      refine aw_aload_n (pc := 21) hX 0 dX6_line_21 rfl rfl ?_
      refine aw_getR (pc := 22) hX dX6_line_22 f_X6_29 rfl (by rfl) (q := 15) (by rfl) ?_
      obtain ⟨r25, hq25, h⟩ := bind_s h
      refine aw_V2v (pc := 25) hX h_X2_weigh l_X6_186 dX6_line_25 (by rfl) (by decide) (by rfl) rfl rfl rfl (Nat.le_of_ble_eq_true rfl) (s_X2_weigh hc (isNb (by decide)) hq25) ?_
      refine aw_iload_n (pc := 28) hX 1 dX6_line_28 rfl rfl ?_
      refine aw_iconst (pc := 29) hX (-1 : Int32) dX6_line_29 (by decide) ?_
      refine aw_icmp_ne (pc := 30) hX 45 dX6_line_30 rfl (fun hc30 => ?_) (fun hc30 => ?_)
      · have h := ite_f h hc30
        refine aw_aload_n (pc := 45) hX 0 dX6_line_45 rfl rfl ?_
        refine aw_getR (pc := 46) hX dX6_line_46 f_X6_58 rfl (by rfl) (q := 67) (by rfl) ?_
        refine aw_iload_n (pc := 49) hX 1 dX6_line_49 rfl rfl ?_
        refine aw_aload_n (pc := 50) hX 0 dX6_line_50 rfl rfl ?_
        refine aw_getR (pc := 51) hX dX6_line_51 f_X6_19 rfl (by rfl) (q := c) (by rfl) ?_
        refine aw_aload_n (pc := 54) hX 0 dX6_line_54 rfl rfl ?_
        refine aw_getR (pc := 55) hX dX6_line_55 f_X6_29 rfl (by rfl) (q := 15) (by rfl) ?_
        obtain ⟨r58, hq58, h⟩ := bind_s h
        refine aw_V3i (pc := 58) hX h_X2_goerAt l_X6_193 dX6_line_58 (by rfl) (by decide) (by rfl) rfl rfl rfl (Nat.le_of_ble_eq_true rfl) (s_X2_goerAt hc (isNb (by decide)) hq58) ?_
        have e := Option.some.inj h
        subst e
        exact aw_iret hX hZ dX6_line_61 rfl rfl rfl rfl rfl rfl rfl (Nat.le_refl _)
      · have h := ite_t h hc30
        refine aw_aload_n (pc := 33) hX 0 dX6_line_33 rfl rfl ?_
        refine aw_getR (pc := 34) hX dX6_line_34 f_X6_58 rfl (by rfl) (q := 67) (by rfl) ?_
        refine aw_getR (pc := 37) hX dX6_line_37 f_X6_190 rfl (by rfl) (q := 68) (by rfl) ?_
        refine aw_iconst (pc := 40) hX (0 : Int32) dX6_line_40 (by decide) ?_
        obtain ⟨hv41, h⟩ := ite_g h
        refine aw_iaload (pc := 41) hX dX6_line_41 (by rfl) (vinb_in hv41) ?_
        refine aw_goto (pc := 42) hX 61 dX6_line_42 rfl ?_
        have e := Option.some.inj h
        subst e
        exact aw_iret hX hZ dX6_line_61 rfl rfl rfl rfl rfl rfl rfl (Nat.le_refl _)
    · have h := ite_f h hc8
      refine aw_iconst (pc := 11) hX (-1 : Int32) dX6_line_11 (by decide) ?_
      have e := Option.some.inj h
      subst e
      exact aw_iret hX hZ dX6_line_12 rfl rfl rfl rfl rfl rfl rfl (Nat.le_refl _)
def f_X6_sees (c : Nat) (d : Nat) (I : Hi) (x1 : Int32) (x2 : Int32) (x3 : Int32) : Option (Int32 × Hi) := (f_X6_isTaste x1).bind fun r1 => if r1 = true then ((f_X0_hasLeaf (c) I x2).bind fun r12 => if r12 = true then (if x3 < (0 : Int32) then (some ((-1 : Int32), I)) else (if x3 ≤ (1 : Int32) then (if (I (63) 3) < (6 : Int32) then ((f_X4_add I x1 x2 x3).bind fun r51 => some ((r51 (63) 3), r51)) else (some ((-3 : Int32), I))) else (some ((-1 : Int32), I)))) else (some ((-1 : Int32), I))) else (some ((-1 : Int32), I))
set_option maxRecDepth 100000 in
set_option maxHeartbeats 4000000 in
theorem s_X6_sees {G : GP} {c d : Nat} (hc : isC c) (hd : isC d) {I : Hi} {L : Hl} {x1 : Int32} {x2 : Int32} {x3 : Int32} {p : Int32 × Hi} (h : f_X6_sees c d I x1 x2 x3 = some p) : CD G mi_X6_sees [.ref 0, .int x1, .int x2, .int x3] S0 I (R0 c d) L (some (.int p.1)) S0 p.2 (R0 c d) L := by
  refine CD.intro 0 rfl (by decide) rfl fun X hX hZ => ?_
  rw [f_X6_sees] at h
  show AW G X 0 0 S0 I (R0 c d) L 0 [.ref 0, .int x1, .int x2, .int x3] []
  refine aw_iload_n (pc := 0) hX 1 dX6_sees_0 rfl rfl ?_
  obtain ⟨r1, hq1, h⟩ := bind_s h
  refine aw_S1i (pc := 1) hX h_X6_isTaste l_X6_122 dX6_sees_1 rfl rfl rfl (Nat.le_of_ble_eq_true rfl) (s_X6_isTaste  hq1) ?_
  refine aw_if_eq (pc := 4) hX 27 dX6_sees_4 rfl (fun hc4 => ?_) (fun hc4 => ?_)
  · have h := ite_f h (bI0 hc4)
    refine aw_iconst (pc := 27) hX (-1 : Int32) dX6_sees_27 (by decide) ?_
    have e := Option.some.inj h
    subst e
    exact aw_iret hX hZ dX6_sees_28 rfl rfl rfl rfl rfl rfl rfl (Nat.le_refl _)
  · have h := ite_t h (bI1 hc4)
    refine aw_aload_n (pc := 7) hX 0 dX6_sees_7 rfl rfl ?_
    refine aw_getR (pc := 8) hX dX6_sees_8 f_X6_19 rfl (by rfl) (q := c) (by rfl) ?_
    refine aw_iload_n (pc := 11) hX 2 dX6_sees_11 rfl rfl ?_
    obtain ⟨r12, hq12, h⟩ := bind_s h
    refine aw_V1i (pc := 12) hX h_X0_hasLeaf l_X6_87 dX6_sees_12 (csh0 hc) (by decide) (by rfl) rfl rfl rfl (Nat.le_of_ble_eq_true rfl) (s_X0_hasLeaf hc hq12) ?_
    refine aw_if_eq (pc := 15) hX 27 dX6_sees_15 rfl (fun hc15 => ?_) (fun hc15 => ?_)
    · have h := ite_f h (bI0 hc15)
      refine aw_iconst (pc := 27) hX (-1 : Int32) dX6_sees_27 (by decide) ?_
      have e := Option.some.inj h
      subst e
      exact aw_iret hX hZ dX6_sees_28 rfl rfl rfl rfl rfl rfl rfl (Nat.le_refl _)
    · have h := ite_t h (bI1 hc15)
      refine aw_iload_n (pc := 18) hX 3 dX6_sees_18 rfl rfl ?_
      refine aw_if_lt (pc := 19) hX 27 dX6_sees_19 rfl (fun hc19 => ?_) (fun hc19 => ?_)
      · have h := ite_t h hc19
        refine aw_iconst (pc := 27) hX (-1 : Int32) dX6_sees_27 (by decide) ?_
        have e := Option.some.inj h
        subst e
        exact aw_iret hX hZ dX6_sees_28 rfl rfl rfl rfl rfl rfl rfl (Nat.le_refl _)
      · have h := ite_f h hc19
        refine aw_iload_n (pc := 22) hX 3 dX6_sees_22 rfl rfl ?_
        refine aw_iconst (pc := 23) hX (1 : Int32) dX6_sees_23 (by decide) ?_
        refine aw_icmp_le (pc := 24) hX 29 dX6_sees_24 rfl (fun hc24 => ?_) (fun hc24 => ?_)
        · have h := ite_t h hc24
          refine aw_aload_n (pc := 29) hX 0 dX6_sees_29 rfl rfl ?_
          refine aw_getR (pc := 30) hX dX6_sees_30 f_X6_51 rfl (by rfl) (q := 63) (by rfl) ?_
          refine aw_getI (pc := 33) hX dX6_sees_33 f_X6_84 rfl (by rfl) ?_
          refine aw_bipush (pc := 36) hX (6 : Int32) dX6_sees_36 (by decide) ?_
          refine aw_icmp_lt (pc := 38) hX 44 dX6_sees_38 rfl (fun hc38 => ?_) (fun hc38 => ?_)
          · have h := ite_t h hc38
            refine aw_aload_n (pc := 44) hX 0 dX6_sees_44 rfl rfl ?_
            refine aw_getR (pc := 45) hX dX6_sees_45 f_X6_51 rfl (by rfl) (q := 63) (by rfl) ?_
            refine aw_iload_n (pc := 48) hX 1 dX6_sees_48 rfl rfl ?_
            refine aw_iload_n (pc := 49) hX 2 dX6_sees_49 rfl rfl ?_
            refine aw_iload_n (pc := 50) hX 3 dX6_sees_50 rfl rfl ?_
            obtain ⟨r51, hq51, h⟩ := bind_s h
            refine aw_V3v (pc := 51) hX h_X4_add l_X6_197 dX6_sees_51 (by rfl) (by decide) (by rfl) rfl rfl rfl (Nat.le_of_ble_eq_true rfl) (s_X4_add  hq51) ?_
            refine aw_aload_n (pc := 54) hX 0 dX6_sees_54 rfl rfl ?_
            refine aw_getR (pc := 55) hX dX6_sees_55 f_X6_51 rfl (by rfl) (q := 63) (by rfl) ?_
            refine aw_getI (pc := 58) hX dX6_sees_58 f_X6_84 rfl (by rfl) ?_
            have e := Option.some.inj h
            subst e
            exact aw_iret hX hZ dX6_sees_61 rfl rfl rfl rfl rfl rfl rfl (Nat.le_refl _)
          · have h := ite_f h hc38
            refine aw_bipush (pc := 41) hX (-3 : Int32) dX6_sees_41 (by decide) ?_
            have e := Option.some.inj h
            subst e
            exact aw_iret hX hZ dX6_sees_43 rfl rfl rfl rfl rfl rfl rfl (Nat.le_refl _)
        · have h := ite_f h hc24
          refine aw_iconst (pc := 27) hX (-1 : Int32) dX6_sees_27 (by decide) ?_
          have e := Option.some.inj h
          subst e
          exact aw_iret hX hZ dX6_sees_28 rfl rfl rfl rfl rfl rfl rfl (Nat.le_refl _)
def f_X6_forget (I : Hi)  : Option (Int32 × Hi) := (some (u2 I (63) 3 (0 : Int32))).bind fun I13 => some ((I (63) 3), I13)
set_option maxRecDepth 100000 in
set_option maxHeartbeats 4000000 in
theorem s_X6_forget {G : GP} {c d : Nat} {I : Hi} {L : Hl}  {p : Int32 × Hi} (h : f_X6_forget I = some p) : CD G mi_X6_forget [.ref 0] S0 I (R0 c d) L (some (.int p.1)) S0 p.2 (R0 c d) L := by
  refine CD.intro 1 rfl (by decide) rfl fun X hX hZ => ?_
  rw [f_X6_forget] at h
  show AW G X 0 0 S0 I (R0 c d) L 0 [.ref 0, .null] []
  refine aw_aload_n (pc := 0) hX 0 dX6_forget_0 rfl rfl ?_
  refine aw_getR (pc := 1) hX dX6_forget_1 f_X6_51 rfl (by rfl) (q := 63) (by rfl) ?_
  refine aw_getI (pc := 4) hX dX6_forget_4 f_X6_84 rfl (by rfl) ?_
  refine aw_istore_nE (pc := 7) hX 1 [.ref 0, .int (I (63) 3)] dX6_forget_7 rfl (by decide) rfl rfl ?_
  refine aw_aload_n (pc := 8) hX 0 dX6_forget_8 rfl rfl ?_
  refine aw_getR (pc := 9) hX dX6_forget_9 f_X6_51 rfl (by rfl) (q := 63) (by rfl) ?_
  refine aw_iconst (pc := 12) hX (0 : Int32) dX6_forget_12 (by decide) ?_
  refine aw_putI (pc := 13) hX dX6_forget_13 f_X6_84 rfl rfl (by first | rfl | decide) (by first | rfl | decide) (by rfl) ?_
  obtain ⟨I13, hi13, h⟩ := bind_s h
  refine AW.iEq hi13 ?_
  refine aw_iload_n (pc := 16) hX 1 dX6_forget_16 rfl rfl ?_
  have e := Option.some.inj h
  subst e
  exact aw_iret hX hZ dX6_forget_17 rfl rfl rfl rfl rfl rfl rfl (Nat.le_refl _)
def b_X6_had_55 (c : Nat) (d : Nat) (I : Hi)  (x1 : Int32) (x2 : Int32) (x3 : Int32) (x4 : Int32) : Option (Int32) := if x1 = (0 : Int32) then (some (x2)) else (if x1 = (1 : Int32) then (if x2 = (0 : Int32) then (some ((-9 : Int32))) else (some (x3))) else (if x1 = (2 : Int32) then (some (x4)) else (some ((-1 : Int32)))))
set_option maxRecDepth 100000 in
set_option maxHeartbeats 4000000 in
theorem t_X6_had_55 {G : GP} {X : CX} (hX : XOK G X mi_X6_had) {c d : Nat} (hc : isC c) (hd : isC d) {I : Hi} {L : Hl} {p : Int32} (hZ : XZ G X mi_X6_had (some (.int p)) S0 I (R0 c d) L) (x1 : Int32) (x2 : Int32) (x3 : Int32) (x4 : Int32) (h : b_X6_had_55 c d I x1 x2 x3 x4 = some p) : AW G X 0 0 S0 I (R0 c d) L 55 [.null, .int x1, .int x2, .int x3, .int x4, .null] [] := by
  rw [b_X6_had_55] at h
  refine aw_iload_n (pc := 55) hX 1 dX6_had_55 rfl rfl ?_
  by_cases hs56_0 : x1 = (0 : Int32)
  · have h := ite_t h hs56_0
    refine aw_tcase (pc := 56) (off := 28) hX (0 : Int32) 84 dX6_had_56 hs56_0 (by decide) (by decide) (by decide) rfl ?_
    refine aw_iload_n (pc := 84) hX 2 dX6_had_84 rfl rfl ?_
    have e := Option.some.inj h
    subst e
    exact aw_iret hX hZ dX6_had_85 rfl rfl rfl rfl rfl rfl rfl (Nat.le_refl _)
  have h := ite_f h hs56_0
  by_cases hs56_1 : x1 = (1 : Int32)
  · have h := ite_t h hs56_1
    refine aw_tcase (pc := 56) (off := 30) hX (1 : Int32) 86 dX6_had_56 hs56_1 (by decide) (by decide) (by decide) rfl ?_
    refine aw_iload_n (pc := 86) hX 2 dX6_had_86 rfl rfl ?_
    refine aw_if_ne (pc := 87) hX 95 dX6_had_87 rfl (fun hc87 => ?_) (fun hc87 => ?_)
    · have h := ite_f h hc87
      refine aw_iload_n (pc := 95) hX 3 dX6_had_95 rfl rfl ?_
      have e := Option.some.inj h
      subst e
      exact aw_iret hX hZ dX6_had_96 rfl rfl rfl rfl rfl rfl rfl (Nat.le_refl _)
    · have h := ite_t h hc87
      refine aw_bipush (pc := 90) hX (-9 : Int32) dX6_had_90 (by decide) ?_
      refine aw_goto (pc := 92) hX 96 dX6_had_92 rfl ?_
      have e := Option.some.inj h
      subst e
      exact aw_iret hX hZ dX6_had_96 rfl rfl rfl rfl rfl rfl rfl (Nat.le_refl _)
  have h := ite_f h hs56_1
  by_cases hs56_2 : x1 = (2 : Int32)
  · have h := ite_t h hs56_2
    refine aw_tcase (pc := 56) (off := 41) hX (2 : Int32) 97 dX6_had_56 hs56_2 (by decide) (by decide) (by decide) rfl ?_
    refine aw_iload (pc := 97) hX dX6_had_97 rfl ?_
    have e := Option.some.inj h
    subst e
    exact aw_iret hX hZ dX6_had_99 rfl rfl rfl rfl rfl rfl rfl (Nat.le_refl _)
  have h := ite_f h hs56_2
  refine aw_tableOut (pc := 56) hX 100 dX6_had_56 (by have g0 := lv_neT hs56_0 (show ((0 : Int32)).toInt = 0 by decide); have g1 := lv_neT hs56_1 (show ((1 : Int32)).toInt = 1 by decide); have g2 := lv_neT hs56_2 (show ((2 : Int32)).toInt = 2 by decide); omega) rfl ?_
  refine aw_iconst (pc := 100) hX (-1 : Int32) dX6_had_100 (by decide) ?_
  have e := Option.some.inj h
  subst e
  exact aw_iret hX hZ dX6_had_101 rfl rfl rfl rfl rfl rfl rfl (Nat.le_refl _)
def b_X6_had_49 (c : Nat) (d : Nat) (I : Hi) (k11 : Int32 → Int32 → Int32 → Int32 → Int32 → Option (Int32)) (x1 : Int32) (x2 : Int32) (x3 : Int32) (x4 : Int32) (x5 : Int32) : Option (Int32) := k11 x1 x2 x3 x4 (x5 + 1)
set_option maxRecDepth 100000 in
set_option maxHeartbeats 4000000 in
theorem t_X6_had_49 {G : GP} {X : CX} (hX : XOK G X mi_X6_had) {c d : Nat} (hc : isC c) (hd : isC d) {I : Hi} {L : Hl} {p : Int32} (hZ : XZ G X mi_X6_had (some (.int p)) S0 I (R0 c d) L) {k11 : Int32 → Int32 → Int32 → Int32 → Int32 → Option (Int32)} (hk11 : ∀ (x1 : Int32) (x2 : Int32) (x3 : Int32) (x4 : Int32) (x5 : Int32), k11 x1 x2 x3 x4 x5 = some p → AW G X 0 0 S0 I (R0 c d) L 11 [.ref 0, .int x1, .int x2, .int x3, .int x4, .int x5] []) (x1 : Int32) (x2 : Int32) (x3 : Int32) (x4 : Int32) (x5 : Int32) (h : b_X6_had_49 c d I k11 x1 x2 x3 x4 x5 = some p) : AW G X 0 0 S0 I (R0 c d) L 49 [.ref 0, .int x1, .int x2, .int x3, .int x4, .int x5] [] := by
  rw [b_X6_had_49] at h
  refine aw_iincE (pc := 49) hX (x5 + 1) [.ref 0, .int x1, .int x2, .int x3, .int x4, .int (x5 + 1)] dX6_had_49 rfl rfl (by decide) rfl rfl ?_
  refine aw_goto (pc := 52) hX 11 dX6_had_52 rfl ?_
  exact AW.lo (hk11 x1 x2 x3 x4 (x5 + 1)  h) (And.intro (Or.inr rfl) (And.intro (Or.inr rfl) (And.intro (Or.inr rfl) (And.intro (Or.inr rfl) (And.intro (Or.inr rfl) (And.intro (Or.inr rfl) trivial))))))
def b_X6_had_11 (c : Nat) (d : Nat) (I : Hi)  : Nat → Int32 → Int32 → Int32 → Int32 → Int32 → Option (Int32)
  | 0, _, _, _, _, _ => none
  | n + 1, x1, x2, x3, x4, x5 => if (64 : Int32) ≤ x5 then (b_X6_had_55 c d I x1 x2 x3 x4) else ((f_X4_allows (c) I x5).bind fun r28 => if r28 = true then (b_X6_had_49 c d I (b_X6_had_11 c d I n) x1 (x2 + 1) (x3 &&& x5) (x4 ||| x5) x5) else (b_X6_had_49 c d I (b_X6_had_11 c d I n) x1 x2 x3 x4 x5))
set_option maxRecDepth 100000 in
set_option maxHeartbeats 4000000 in
theorem t_X6_had_11 {G : GP} {X : CX} (hX : XOK G X mi_X6_had) {c d : Nat} (hc : isC c) (hd : isC d) {I : Hi} {L : Hl} {p : Int32} (hZ : XZ G X mi_X6_had (some (.int p)) S0 I (R0 c d) L) : ∀ (n : Nat) (x1 : Int32) (x2 : Int32) (x3 : Int32) (x4 : Int32) (x5 : Int32), b_X6_had_11 c d I n x1 x2 x3 x4 x5 = some p → AW G X 0 0 S0 I (R0 c d) L 11 [.ref 0, .int x1, .int x2, .int x3, .int x4, .int x5] [] := by
  intro n
  induction n with
  | zero => intro x1 x2 x3 x4 x5 h; cases h
  | succ n ih =>
    intro x1 x2 x3 x4 x5 h
    rw [b_X6_had_11] at h
    refine aw_iload (pc := 11) hX dX6_had_11 rfl ?_
    refine aw_bipush (pc := 13) hX (64 : Int32) dX6_had_13 (by decide) ?_
    refine aw_icmp_ge (pc := 15) hX 55 dX6_had_15 rfl (fun hc15 => ?_) (fun hc15 => ?_)
    · have h := ite_t h hc15
      exact AW.lo (t_X6_had_55 hX hc hd hZ x1 x2 x3 x4 h) (And.intro (Or.inl rfl) (And.intro (Or.inr rfl) (And.intro (Or.inr rfl) (And.intro (Or.inr rfl) (And.intro (Or.inr rfl) (And.intro (Or.inl rfl) trivial))))))
    · have h := ite_f h hc15
      refine aw_aload_n (pc := 18) hX 0 dX6_had_18 rfl rfl ?_
      refine aw_getR (pc := 19) hX dX6_had_19 f_X6_51 rfl (by rfl) (q := 63) (by rfl) ?_
      refine aw_iload (pc := 22) hX dX6_had_22 rfl ?_
      refine aw_aload_n (pc := 24) hX 0 dX6_had_24 rfl rfl ?_
      refine aw_getR (pc := 25) hX dX6_had_25 f_X6_19 rfl (by rfl) (q := c) (by rfl) ?_
      obtain ⟨r28, hq28, h⟩ := bind_s h
      refine aw_V2i (pc := 28) hX h_X4_allows l_X6_201 dX6_had_28 (by rfl) (by decide) (by rfl) rfl rfl rfl (Nat.le_of_ble_eq_true rfl) (s_X4_allows hc hq28) ?_
      refine aw_if_eq (pc := 31) hX 49 dX6_had_31 rfl (fun hc31 => ?_) (fun hc31 => ?_)
      · have h := ite_f h (bI0 hc31)
        exact AW.lo (t_X6_had_49 hX hc hd hZ (ih) x1 x2 x3 x4 x5 h) (And.intro (Or.inr rfl) (And.intro (Or.inr rfl) (And.intro (Or.inr rfl) (And.intro (Or.inr rfl) (And.intro (Or.inr rfl) (And.intro (Or.inr rfl) trivial))))))
      · have h := ite_t h (bI1 hc31)
        refine aw_iincE (pc := 34) hX (x2 + 1) [.ref 0, .int x1, .int (x2 + 1), .int x3, .int x4, .int x5] dX6_had_34 rfl rfl (by decide) rfl rfl ?_
        refine aw_iload_n (pc := 37) hX 3 dX6_had_37 rfl rfl ?_
        refine aw_iload (pc := 38) hX dX6_had_38 rfl ?_
        refine aw_iand (pc := 40) hX dX6_had_40 ?_
        refine aw_istore_nE (pc := 41) hX 3 [.ref 0, .int x1, .int (x2 + 1), .int (x3 &&& x5), .int x4, .int x5] dX6_had_41 rfl (by decide) rfl rfl ?_
        refine aw_iload (pc := 42) hX dX6_had_42 rfl ?_
        refine aw_iload (pc := 44) hX dX6_had_44 rfl ?_
        refine aw_ior (pc := 46) hX dX6_had_46 ?_
        refine aw_istoreE (pc := 47) hX [.ref 0, .int x1, .int (x2 + 1), .int (x3 &&& x5), .int (x4 ||| x5), .int x5] dX6_had_47 (by decide) rfl rfl ?_
        exact AW.lo (t_X6_had_49 hX hc hd hZ (ih) x1 (x2 + 1) (x3 &&& x5) (x4 ||| x5) x5 h) (And.intro (Or.inr rfl) (And.intro (Or.inr rfl) (And.intro (Or.inr rfl) (And.intro (Or.inr rfl) (And.intro (Or.inr rfl) (And.intro (Or.inr rfl) trivial))))))
def f_X6_had (c : Nat) (d : Nat) (I : Hi) (x1 : Int32) : Option (Int32) := b_X6_had_11 c d I 2000 x1 (0 : Int32) (63 : Int32) (0 : Int32) (0 : Int32)
set_option maxRecDepth 100000 in
set_option maxHeartbeats 4000000 in
theorem s_X6_had {G : GP} {c d : Nat} (hc : isC c) (hd : isC d) {I : Hi} {L : Hl} {x1 : Int32} {p : Int32} (h : f_X6_had c d I x1 = some p) : CD G mi_X6_had [.ref 0, .int x1] S0 I (R0 c d) L (some (.int p)) S0 I (R0 c d) L := by
  refine CD.intro 4 rfl (by decide) rfl fun X hX hZ => ?_
  rw [f_X6_had] at h
  show AW G X 0 0 S0 I (R0 c d) L 0 [.ref 0, .int x1, .null, .null, .null, .null] []
  refine aw_iconst (pc := 0) hX (0 : Int32) dX6_had_0 (by decide) ?_
  refine aw_istore_nE (pc := 1) hX 2 [.ref 0, .int x1, .int (0 : Int32), .null, .null, .null] dX6_had_1 rfl (by decide) rfl rfl ?_
  refine aw_bipush (pc := 2) hX (63 : Int32) dX6_had_2 (by decide) ?_
  refine aw_istore_nE (pc := 4) hX 3 [.ref 0, .int x1, .int (0 : Int32), .int (63 : Int32), .null, .null] dX6_had_4 rfl (by decide) rfl rfl ?_
  refine aw_iconst (pc := 5) hX (0 : Int32) dX6_had_5 (by decide) ?_
  refine aw_istoreE (pc := 6) hX [.ref 0, .int x1, .int (0 : Int32), .int (63 : Int32), .int (0 : Int32), .null] dX6_had_6 (by decide) rfl rfl ?_
  refine aw_iconst (pc := 8) hX (0 : Int32) dX6_had_8 (by decide) ?_
  refine aw_istoreE (pc := 9) hX [.ref 0, .int x1, .int (0 : Int32), .int (63 : Int32), .int (0 : Int32), .int (0 : Int32)] dX6_had_9 (by decide) rfl rfl ?_
  exact AW.lo (t_X6_had_11 hX hc hd hZ 2000 x1 (0 : Int32) (63 : Int32) (0 : Int32) (0 : Int32) h) (And.intro (Or.inr rfl) (And.intro (Or.inr rfl) (And.intro (Or.inr rfl) (And.intro (Or.inr rfl) (And.intro (Or.inr rfl) (And.intro (Or.inr rfl) trivial))))))
def b_X6_setsLetBy_52 (c : Nat) (d : Nat) (I : Hi) (k5 : Int32 → Int32 → Int32 → Int32 → Option (Int32)) (x1 : Int32) (x2 : Int32) (x3 : Int32) (x4 : Int32) : Option (Int32) := k5 x1 x2 x3 (x4 + 1)
set_option maxRecDepth 100000 in
set_option maxHeartbeats 4000000 in
theorem t_X6_setsLetBy_52 {G : GP} {X : CX} (hX : XOK G X mi_X6_setsLetBy) {c d : Nat} (hc : isC c) (hd : isC d) {I : Hi} {L : Hl} {p : Int32} (hZ : XZ G X mi_X6_setsLetBy (some (.int p)) S0 I (R0 c d) L) {k5 : Int32 → Int32 → Int32 → Int32 → Option (Int32)} (hk5 : ∀ (x1 : Int32) (x2 : Int32) (x3 : Int32) (x4 : Int32), k5 x1 x2 x3 x4 = some p → AW G X 0 0 S0 I (R0 c d) L 5 [.ref 0, .int x1, .int x2, .int x3, .int x4] []) (x1 : Int32) (x2 : Int32) (x3 : Int32) (x4 : Int32) (h : b_X6_setsLetBy_52 c d I k5 x1 x2 x3 x4 = some p) : AW G X 0 0 S0 I (R0 c d) L 52 [.ref 0, .int x1, .int x2, .int x3, .int x4] [] := by
  rw [b_X6_setsLetBy_52] at h
  refine aw_iincE (pc := 52) hX (x4 + 1) [.ref 0, .int x1, .int x2, .int x3, .int (x4 + 1)] dX6_setsLetBy_52 rfl rfl (by decide) rfl rfl ?_
  refine aw_goto (pc := 55) hX 5 dX6_setsLetBy_55 rfl ?_
  exact AW.lo (hk5 x1 x2 x3 (x4 + 1)  h) (And.intro (Or.inr rfl) (And.intro (Or.inr rfl) (And.intro (Or.inr rfl) (And.intro (Or.inr rfl) (And.intro (Or.inr rfl) trivial)))))
def b_X6_setsLetBy_5 (c : Nat) (d : Nat) (I : Hi)  : Nat → Int32 → Int32 → Int32 → Int32 → Option (Int32)
  | 0, _, _, _, _ => none
  | n + 1, x1, x2, x3, x4 => if (64 : Int32) ≤ x4 then (some (x3)) else ((f_X0_counts (c) I x1 x2).bind fun r18 => if r18 = true then ((f_X6_hasBit x4 x1).bind fun r27 => if r27 = true then ((f_X4_allows (c) I x4).bind fun r43 => if r43 = true then (b_X6_setsLetBy_52 c d I (b_X6_setsLetBy_5 c d I n) x1 x2 (x3 + 1) x4) else (b_X6_setsLetBy_52 c d I (b_X6_setsLetBy_5 c d I n) x1 x2 x3 x4)) else (b_X6_setsLetBy_52 c d I (b_X6_setsLetBy_5 c d I n) x1 x2 x3 x4)) else (b_X6_setsLetBy_52 c d I (b_X6_setsLetBy_5 c d I n) x1 x2 x3 x4))
set_option maxRecDepth 100000 in
set_option maxHeartbeats 4000000 in
theorem t_X6_setsLetBy_5 {G : GP} {X : CX} (hX : XOK G X mi_X6_setsLetBy) {c d : Nat} (hc : isC c) (hd : isC d) {I : Hi} {L : Hl} {p : Int32} (hZ : XZ G X mi_X6_setsLetBy (some (.int p)) S0 I (R0 c d) L) : ∀ (n : Nat) (x1 : Int32) (x2 : Int32) (x3 : Int32) (x4 : Int32), b_X6_setsLetBy_5 c d I n x1 x2 x3 x4 = some p → AW G X 0 0 S0 I (R0 c d) L 5 [.ref 0, .int x1, .int x2, .int x3, .int x4] [] := by
  intro n
  induction n with
  | zero => intro x1 x2 x3 x4 h; cases h
  | succ n ih =>
    intro x1 x2 x3 x4 h
    rw [b_X6_setsLetBy_5] at h
    refine aw_iload (pc := 5) hX dX6_setsLetBy_5 rfl ?_
    refine aw_bipush (pc := 7) hX (64 : Int32) dX6_setsLetBy_7 (by decide) ?_
    refine aw_icmp_ge (pc := 9) hX 58 dX6_setsLetBy_9 rfl (fun hc9 => ?_) (fun hc9 => ?_)
    · have h := ite_t h hc9
      refine aw_iload_n (pc := 58) hX 3 dX6_setsLetBy_58 rfl rfl ?_
      have e := Option.some.inj h
      subst e
      exact aw_iret hX hZ dX6_setsLetBy_59 rfl rfl rfl rfl rfl rfl rfl (Nat.le_refl _)
    · have h := ite_f h hc9
      refine aw_aload_n (pc := 12) hX 0 dX6_setsLetBy_12 rfl rfl ?_
      refine aw_getR (pc := 13) hX dX6_setsLetBy_13 f_X6_19 rfl (by rfl) (q := c) (by rfl) ?_
      refine aw_iload_n (pc := 16) hX 1 dX6_setsLetBy_16 rfl rfl ?_
      refine aw_iload_n (pc := 17) hX 2 dX6_setsLetBy_17 rfl rfl ?_
      obtain ⟨r18, hq18, h⟩ := bind_s h
      refine aw_V2i (pc := 18) hX h_X0_counts l_X6_214 dX6_setsLetBy_18 (csh0 hc) (by decide) (by rfl) rfl rfl rfl (Nat.le_of_ble_eq_true rfl) (s_X0_counts hc hq18) ?_
      refine aw_if_eq (pc := 21) hX 52 dX6_setsLetBy_21 rfl (fun hc21 => ?_) (fun hc21 => ?_)
      · have h := ite_f h (bI0 hc21)
        exact AW.lo (t_X6_setsLetBy_52 hX hc hd hZ (ih) x1 x2 x3 x4 h) (And.intro (Or.inr rfl) (And.intro (Or.inr rfl) (And.intro (Or.inr rfl) (And.intro (Or.inr rfl) (And.intro (Or.inr rfl) trivial)))))
      · have h := ite_t h (bI1 hc21)
        refine aw_iload (pc := 24) hX dX6_setsLetBy_24 rfl ?_
        refine aw_iload_n (pc := 26) hX 1 dX6_setsLetBy_26 rfl rfl ?_
        obtain ⟨r27, hq27, h⟩ := bind_s h
        refine aw_S2i (pc := 27) hX h_X6_hasBit l_X6_157 dX6_setsLetBy_27 rfl rfl rfl (Nat.le_of_ble_eq_true rfl) (s_X6_hasBit  hq27) ?_
        refine aw_if_eq (pc := 30) hX 52 dX6_setsLetBy_30 rfl (fun hc30 => ?_) (fun hc30 => ?_)
        · have h := ite_f h (bI0 hc30)
          exact AW.lo (t_X6_setsLetBy_52 hX hc hd hZ (ih) x1 x2 x3 x4 h) (And.intro (Or.inr rfl) (And.intro (Or.inr rfl) (And.intro (Or.inr rfl) (And.intro (Or.inr rfl) (And.intro (Or.inr rfl) trivial)))))
        · have h := ite_t h (bI1 hc30)
          refine aw_aload_n (pc := 33) hX 0 dX6_setsLetBy_33 rfl rfl ?_
          refine aw_getR (pc := 34) hX dX6_setsLetBy_34 f_X6_51 rfl (by rfl) (q := 63) (by rfl) ?_
          refine aw_iload (pc := 37) hX dX6_setsLetBy_37 rfl ?_
          refine aw_aload_n (pc := 39) hX 0 dX6_setsLetBy_39 rfl rfl ?_
          refine aw_getR (pc := 40) hX dX6_setsLetBy_40 f_X6_19 rfl (by rfl) (q := c) (by rfl) ?_
          obtain ⟨r43, hq43, h⟩ := bind_s h
          refine aw_V2i (pc := 43) hX h_X4_allows l_X6_201 dX6_setsLetBy_43 (by rfl) (by decide) (by rfl) rfl rfl rfl (Nat.le_of_ble_eq_true rfl) (s_X4_allows hc hq43) ?_
          refine aw_if_eq (pc := 46) hX 52 dX6_setsLetBy_46 rfl (fun hc46 => ?_) (fun hc46 => ?_)
          · have h := ite_f h (bI0 hc46)
            exact AW.lo (t_X6_setsLetBy_52 hX hc hd hZ (ih) x1 x2 x3 x4 h) (And.intro (Or.inr rfl) (And.intro (Or.inr rfl) (And.intro (Or.inr rfl) (And.intro (Or.inr rfl) (And.intro (Or.inr rfl) trivial)))))
          · have h := ite_t h (bI1 hc46)
            refine aw_iincE (pc := 49) hX (x3 + 1) [.ref 0, .int x1, .int x2, .int (x3 + 1), .int x4] dX6_setsLetBy_49 rfl rfl (by decide) rfl rfl ?_
            exact AW.lo (t_X6_setsLetBy_52 hX hc hd hZ (ih) x1 x2 (x3 + 1) x4 h) (And.intro (Or.inr rfl) (And.intro (Or.inr rfl) (And.intro (Or.inr rfl) (And.intro (Or.inr rfl) (And.intro (Or.inr rfl) trivial)))))
def f_X6_setsLetBy (c : Nat) (d : Nat) (I : Hi) (x1 : Int32) (x2 : Int32) : Option (Int32) := b_X6_setsLetBy_5 c d I 2000 x1 x2 (0 : Int32) (0 : Int32)
set_option maxRecDepth 100000 in
set_option maxHeartbeats 4000000 in
theorem s_X6_setsLetBy {G : GP} {c d : Nat} (hc : isC c) (hd : isC d) {I : Hi} {L : Hl} {x1 : Int32} {x2 : Int32} {p : Int32} (h : f_X6_setsLetBy c d I x1 x2 = some p) : CD G mi_X6_setsLetBy [.ref 0, .int x1, .int x2] S0 I (R0 c d) L (some (.int p)) S0 I (R0 c d) L := by
  refine CD.intro 2 rfl (by decide) rfl fun X hX hZ => ?_
  rw [f_X6_setsLetBy] at h
  show AW G X 0 0 S0 I (R0 c d) L 0 [.ref 0, .int x1, .int x2, .null, .null] []
  refine aw_iconst (pc := 0) hX (0 : Int32) dX6_setsLetBy_0 (by decide) ?_
  refine aw_istore_nE (pc := 1) hX 3 [.ref 0, .int x1, .int x2, .int (0 : Int32), .null] dX6_setsLetBy_1 rfl (by decide) rfl rfl ?_
  refine aw_iconst (pc := 2) hX (0 : Int32) dX6_setsLetBy_2 (by decide) ?_
  refine aw_istoreE (pc := 3) hX [.ref 0, .int x1, .int x2, .int (0 : Int32), .int (0 : Int32)] dX6_setsLetBy_3 (by decide) rfl rfl ?_
  exact AW.lo (t_X6_setsLetBy_5 hX hc hd hZ 2000 x1 x2 (0 : Int32) (0 : Int32) h) (And.intro (Or.inr rfl) (And.intro (Or.inr rfl) (And.intro (Or.inr rfl) (And.intro (Or.inr rfl) (And.intro (Or.inr rfl) trivial)))))
def b_X6_ask_78 (c : Nat) (d : Nat) (I : Hi) (k37 : Int32 → Int32 → Int32 → Int32 → Int32 → Option (Int32)) (x1 : Int32) (x2 : Int32) (x3 : Int32) (x4 : Int32) (x5 : Int32) : Option (Int32) := k37 x1 x2 x3 x4 (x5 + 1)
set_option maxRecDepth 100000 in
set_option maxHeartbeats 4000000 in
theorem t_X6_ask_78 {G : GP} {X : CX} (hX : XOK G X mi_X6_ask) {c d : Nat} (hc : isC c) (hd : isC d) {I : Hi} {L : Hl} {p : Int32} (hZ : XZ G X mi_X6_ask (some (.int p)) S0 I (R0 c d) L) {k37 : Int32 → Int32 → Int32 → Int32 → Int32 → Option (Int32)} (hk37 : ∀ (x1 : Int32) (x2 : Int32) (x3 : Int32) (x4 : Int32) (x5 : Int32), k37 x1 x2 x3 x4 x5 = some p → AW G X 0 0 S0 I (R0 c d) L 37 [.ref 0, .int x1, .int x2, .int x3, .int x4, .int x5, .null, .null] []) (x1 : Int32) (x2 : Int32) (x3 : Int32) (x4 : Int32) (x5 : Int32) (h : b_X6_ask_78 c d I k37 x1 x2 x3 x4 x5 = some p) : AW G X 0 0 S0 I (R0 c d) L 78 [.ref 0, .int x1, .int x2, .int x3, .int x4, .int x5, .null, .null] [] := by
  rw [b_X6_ask_78] at h
  refine aw_iincE (pc := 78) hX (x5 + 1) [.ref 0, .int x1, .int x2, .int x3, .int x4, .int (x5 + 1), .null, .null] dX6_ask_78 rfl rfl (by decide) rfl rfl ?_
  refine aw_goto (pc := 81) hX 37 dX6_ask_81 rfl ?_
  exact AW.lo (hk37 x1 x2 x3 x4 (x5 + 1)  h) (And.intro (Or.inr rfl) (And.intro (Or.inr rfl) (And.intro (Or.inr rfl) (And.intro (Or.inr rfl) (And.intro (Or.inr rfl) (And.intro (Or.inr rfl) (And.intro (Or.inl rfl) (And.intro (Or.inl rfl) trivial))))))))
def b_X6_ask_37 (c : Nat) (d : Nat) (I : Hi)  : Nat → Int32 → Int32 → Int32 → Int32 → Int32 → Option (Int32)
  | 0, _, _, _, _, _ => none
  | n + 1, x1, x2, x3, x4, x5 => if (6 : Int32) ≤ x5 then (some (x3)) else ((f_X6_setsLetBy c d I x5 x1).bind fun r48 => if x4 ≤ (jmax r48 (x2 - r48)) then (b_X6_ask_78 c d I (b_X6_ask_37 c d I n) x1 x2 x3 x4 x5) else (b_X6_ask_78 c d I (b_X6_ask_37 c d I n) x1 x2 x5 (jmax r48 (x2 - r48)) x5))
set_option maxRecDepth 100000 in
set_option maxHeartbeats 4000000 in
theorem t_X6_ask_37 {G : GP} {X : CX} (hX : XOK G X mi_X6_ask) {c d : Nat} (hc : isC c) (hd : isC d) {I : Hi} {L : Hl} {p : Int32} (hZ : XZ G X mi_X6_ask (some (.int p)) S0 I (R0 c d) L) : ∀ (n : Nat) (x1 : Int32) (x2 : Int32) (x3 : Int32) (x4 : Int32) (x5 : Int32), b_X6_ask_37 c d I n x1 x2 x3 x4 x5 = some p → AW G X 0 0 S0 I (R0 c d) L 37 [.ref 0, .int x1, .int x2, .int x3, .int x4, .int x5, .null, .null] [] := by
  intro n
  induction n with
  | zero => intro x1 x2 x3 x4 x5 h; cases h
  | succ n ih =>
    intro x1 x2 x3 x4 x5 h
    rw [b_X6_ask_37] at h
    refine aw_iload (pc := 37) hX dX6_ask_37 rfl ?_
    refine aw_bipush (pc := 39) hX (6 : Int32) dX6_ask_39 (by decide) ?_
    refine aw_icmp_ge (pc := 41) hX 84 dX6_ask_41 rfl (fun hc41 => ?_) (fun hc41 => ?_)
    · have h := ite_t h hc41
      refine aw_iload_n (pc := 84) hX 3 dX6_ask_84 rfl rfl ?_
      have e := Option.some.inj h
      subst e
      exact aw_iret hX hZ dX6_ask_85 rfl rfl rfl rfl rfl rfl rfl (Nat.le_refl _)
    · have h := ite_f h hc41
      refine aw_aload_n (pc := 44) hX 0 dX6_ask_44 rfl rfl ?_
      refine aw_iload (pc := 45) hX dX6_ask_45 rfl ?_
      refine aw_iload_n (pc := 47) hX 1 dX6_ask_47 rfl rfl ?_
      obtain ⟨r48, hq48, h⟩ := bind_s h
      refine aw_V2i (pc := 48) hX h_X6_setsLetBy l_X6_208 dX6_ask_48 (by rfl) (by decide) (by rfl) rfl rfl rfl (Nat.le_of_ble_eq_true rfl) (s_X6_setsLetBy hc hd hq48) ?_
      refine aw_istoreE (pc := 51) hX [.ref 0, .int x1, .int x2, .int x3, .int x4, .int x5, .int r48, .null] dX6_ask_51 (by decide) rfl rfl ?_
      refine aw_iload (pc := 53) hX dX6_ask_53 rfl ?_
      refine aw_iload_n (pc := 55) hX 2 dX6_ask_55 rfl rfl ?_
      refine aw_iload (pc := 56) hX dX6_ask_56 rfl ?_
      refine aw_isub (pc := 58) hX dX6_ask_58 ?_
      refine aw_max (pc := 59) hX dX6_ask_59 l_X6_211 w_stat_J9_max_7cf53 w_ini_RJ9 w_code_J9_max_7cf53 (by decide) (Nat.le_of_ble_eq_true rfl) (Nat.le_refl _) (Nat.le_refl _) ?_
      refine aw_istoreE (pc := 62) hX [.ref 0, .int x1, .int x2, .int x3, .int x4, .int x5, .int r48, .int (jmax r48 (x2 - r48))] dX6_ask_62 (by decide) rfl rfl ?_
      refine aw_iload (pc := 64) hX dX6_ask_64 rfl ?_
      refine aw_iload (pc := 66) hX dX6_ask_66 rfl ?_
      refine aw_icmp_ge (pc := 68) hX 78 dX6_ask_68 rfl (fun hc68 => ?_) (fun hc68 => ?_)
      · have h := ite_t h hc68
        exact AW.lo (t_X6_ask_78 hX hc hd hZ (ih) x1 x2 x3 x4 x5 h) (And.intro (Or.inr rfl) (And.intro (Or.inr rfl) (And.intro (Or.inr rfl) (And.intro (Or.inr rfl) (And.intro (Or.inr rfl) (And.intro (Or.inr rfl) (And.intro (Or.inl rfl) (And.intro (Or.inl rfl) trivial))))))))
      · have h := ite_f h hc68
        refine aw_iload (pc := 71) hX dX6_ask_71 rfl ?_
        refine aw_istoreE (pc := 73) hX [.ref 0, .int x1, .int x2, .int x3, .int (jmax r48 (x2 - r48)), .int x5, .int r48, .int (jmax r48 (x2 - r48))] dX6_ask_73 (by decide) rfl rfl ?_
        refine aw_iload (pc := 75) hX dX6_ask_75 rfl ?_
        refine aw_istore_nE (pc := 77) hX 3 [.ref 0, .int x1, .int x2, .int x5, .int (jmax r48 (x2 - r48)), .int x5, .int r48, .int (jmax r48 (x2 - r48))] dX6_ask_77 rfl (by decide) rfl rfl ?_
        exact AW.lo (t_X6_ask_78 hX hc hd hZ (ih) x1 x2 x5 (jmax r48 (x2 - r48)) x5 h) (And.intro (Or.inr rfl) (And.intro (Or.inr rfl) (And.intro (Or.inr rfl) (And.intro (Or.inr rfl) (And.intro (Or.inr rfl) (And.intro (Or.inr rfl) (And.intro (Or.inl rfl) (And.intro (Or.inl rfl) trivial))))))))
def f_X6_ask (c : Nat) (d : Nat) (I : Hi) (x1 : Int32) : Option (Int32) := (f_X0_hasLeaf (c) I x1).bind fun r5 => if r5 = true then ((f_X6_had c d I (0 : Int32)).bind fun r15 => if (1 : Int32) < r15 then (b_X6_ask_37 c d I 2000 x1 r15 (0 : Int32) (r15 + (1 : Int32)) (0 : Int32)) else (some ((-9 : Int32)))) else (some ((-1 : Int32)))
set_option maxRecDepth 100000 in
set_option maxHeartbeats 4000000 in
theorem s_X6_ask {G : GP} {c d : Nat} (hc : isC c) (hd : isC d) {I : Hi} {L : Hl} {x1 : Int32} {p : Int32} (h : f_X6_ask c d I x1 = some p) : CD G mi_X6_ask [.ref 0, .int x1] S0 I (R0 c d) L (some (.int p)) S0 I (R0 c d) L := by
  refine CD.intro 6 rfl (by decide) rfl fun X hX hZ => ?_
  rw [f_X6_ask] at h
  show AW G X 0 0 S0 I (R0 c d) L 0 [.ref 0, .int x1, .null, .null, .null, .null, .null, .null] []
  refine aw_aload_n (pc := 0) hX 0 dX6_ask_0 rfl rfl ?_
  refine aw_getR (pc := 1) hX dX6_ask_1 f_X6_19 rfl (by rfl) (q := c) (by rfl) ?_
  refine aw_iload_n (pc := 4) hX 1 dX6_ask_4 rfl rfl ?_
  obtain ⟨r5, hq5, h⟩ := bind_s h
  refine aw_V1i (pc := 5) hX h_X0_hasLeaf l_X6_87 dX6_ask_5 (csh0 hc) (by decide) (by rfl) rfl rfl rfl (Nat.le_of_ble_eq_true rfl) (s_X0_hasLeaf hc hq5) ?_
  refine aw_if_ne (pc := 8) hX 13 dX6_ask_8 rfl (fun hc8 => ?_) (fun hc8 => ?_)
  · have h := ite_t h (bI1 hc8)
    refine aw_aload_n (pc := 13) hX 0 dX6_ask_13 rfl rfl ?_
    refine aw_iconst (pc := 14) hX (0 : Int32) dX6_ask_14 (by decide) ?_
    obtain ⟨r15, hq15, h⟩ := bind_s h
    refine aw_V1i (pc := 15) hX h_X6_had l_X6_205 dX6_ask_15 (by rfl) (by decide) (by rfl) rfl rfl rfl (Nat.le_of_ble_eq_true rfl) (s_X6_had hc hd hq15) ?_
    refine aw_istore_nE (pc := 18) hX 2 [.ref 0, .int x1, .int r15, .null, .null, .null, .null, .null] dX6_ask_18 rfl (by decide) rfl rfl ?_
    refine aw_iload_n (pc := 19) hX 2 dX6_ask_19 rfl rfl ?_
    refine aw_iconst (pc := 20) hX (1 : Int32) dX6_ask_20 (by decide) ?_
    refine aw_icmp_gt (pc := 21) hX 27 dX6_ask_21 rfl (fun hc21 => ?_) (fun hc21 => ?_)
    · have h := ite_t h hc21
      refine aw_iconst (pc := 27) hX (0 : Int32) dX6_ask_27 (by decide) ?_
      refine aw_istore_nE (pc := 28) hX 3 [.ref 0, .int x1, .int r15, .int (0 : Int32), .null, .null, .null, .null] dX6_ask_28 rfl (by decide) rfl rfl ?_
      refine aw_iload_n (pc := 29) hX 2 dX6_ask_29 rfl rfl ?_
      refine aw_iconst (pc := 30) hX (1 : Int32) dX6_ask_30 (by decide) ?_
      refine aw_iadd (pc := 31) hX dX6_ask_31 ?_
      refine aw_istoreE (pc := 32) hX [.ref 0, .int x1, .int r15, .int (0 : Int32), .int (r15 + (1 : Int32)), .null, .null, .null] dX6_ask_32 (by decide) rfl rfl ?_
      refine aw_iconst (pc := 34) hX (0 : Int32) dX6_ask_34 (by decide) ?_
      refine aw_istoreE (pc := 35) hX [.ref 0, .int x1, .int r15, .int (0 : Int32), .int (r15 + (1 : Int32)), .int (0 : Int32), .null, .null] dX6_ask_35 (by decide) rfl rfl ?_
      exact AW.lo (t_X6_ask_37 hX hc hd hZ 2000 x1 r15 (0 : Int32) (r15 + (1 : Int32)) (0 : Int32) h) (And.intro (Or.inr rfl) (And.intro (Or.inr rfl) (And.intro (Or.inr rfl) (And.intro (Or.inr rfl) (And.intro (Or.inr rfl) (And.intro (Or.inr rfl) (And.intro (Or.inl rfl) (And.intro (Or.inl rfl) trivial))))))))
    · have h := ite_f h hc21
      refine aw_bipush (pc := 24) hX (-9 : Int32) dX6_ask_24 (by decide) ?_
      have e := Option.some.inj h
      subst e
      exact aw_iret hX hZ dX6_ask_26 rfl rfl rfl rfl rfl rfl rfl (Nat.le_refl _)
  · have h := ite_f h (bI0 hc8)
    refine aw_iconst (pc := 11) hX (-1 : Int32) dX6_ask_11 (by decide) ?_
    have e := Option.some.inj h
    subst e
    exact aw_iret hX hZ dX6_ask_12 rfl rfl rfl rfl rfl rfl rfl (Nat.le_refl _)
def f_X6_tale (c : Nat) (d : Nat) (I : Hi) (x1 : Int32) (x2 : Int32) : Option (Int32) := (f_X6_isTaste x1).bind fun r1 => if r1 = true then (if x2 < (0 : Int32) then (some ((-1 : Int32))) else (if x2 ≤ (99 : Int32) then ((f_X0_passedOn (c) I x1 x2).bind fun r25 => some (r25)) else (some ((-1 : Int32))))) else (some ((-1 : Int32)))
set_option maxRecDepth 100000 in
set_option maxHeartbeats 4000000 in
theorem s_X6_tale {G : GP} {c d : Nat} (hc : isC c) (hd : isC d) {I : Hi} {L : Hl} {x1 : Int32} {x2 : Int32} {p : Int32} (h : f_X6_tale c d I x1 x2 = some p) : CD G mi_X6_tale [.ref 0, .int x1, .int x2] S0 I (R0 c d) L (some (.int p)) S0 I (R0 c d) L := by
  refine CD.intro 0 rfl (by decide) rfl fun X hX hZ => ?_
  rw [f_X6_tale] at h
  show AW G X 0 0 S0 I (R0 c d) L 0 [.ref 0, .int x1, .int x2] []
  refine aw_iload_n (pc := 0) hX 1 dX6_tale_0 rfl rfl ?_
  obtain ⟨r1, hq1, h⟩ := bind_s h
  refine aw_S1i (pc := 1) hX h_X6_isTaste l_X6_122 dX6_tale_1 rfl rfl rfl (Nat.le_of_ble_eq_true rfl) (s_X6_isTaste  hq1) ?_
  refine aw_if_eq (pc := 4) hX 17 dX6_tale_4 rfl (fun hc4 => ?_) (fun hc4 => ?_)
  · have h := ite_f h (bI0 hc4)
    refine aw_iconst (pc := 17) hX (-1 : Int32) dX6_tale_17 (by decide) ?_
    have e := Option.some.inj h
    subst e
    exact aw_iret hX hZ dX6_tale_18 rfl rfl rfl rfl rfl rfl rfl (Nat.le_refl _)
  · have h := ite_t h (bI1 hc4)
    refine aw_iload_n (pc := 7) hX 2 dX6_tale_7 rfl rfl ?_
    refine aw_if_lt (pc := 8) hX 17 dX6_tale_8 rfl (fun hc8 => ?_) (fun hc8 => ?_)
    · have h := ite_t h hc8
      refine aw_iconst (pc := 17) hX (-1 : Int32) dX6_tale_17 (by decide) ?_
      have e := Option.some.inj h
      subst e
      exact aw_iret hX hZ dX6_tale_18 rfl rfl rfl rfl rfl rfl rfl (Nat.le_refl _)
    · have h := ite_f h hc8
      refine aw_iload_n (pc := 11) hX 2 dX6_tale_11 rfl rfl ?_
      refine aw_bipush (pc := 12) hX (99 : Int32) dX6_tale_12 (by decide) ?_
      refine aw_icmp_le (pc := 14) hX 19 dX6_tale_14 rfl (fun hc14 => ?_) (fun hc14 => ?_)
      · have h := ite_t h hc14
        refine aw_aload_n (pc := 19) hX 0 dX6_tale_19 rfl rfl ?_
        refine aw_getR (pc := 20) hX dX6_tale_20 f_X6_19 rfl (by rfl) (q := c) (by rfl) ?_
        refine aw_iload_n (pc := 23) hX 1 dX6_tale_23 rfl rfl ?_
        refine aw_iload_n (pc := 24) hX 2 dX6_tale_24 rfl rfl ?_
        obtain ⟨r25, hq25, h⟩ := bind_s h
        refine aw_V2i (pc := 25) hX h_X0_passedOn l_X6_217 dX6_tale_25 (csh0 hc) (by decide) (by rfl) rfl rfl rfl (Nat.le_of_ble_eq_true rfl) (s_X0_passedOn hc hq25) ?_
        have e := Option.some.inj h
        subst e
        exact aw_iret hX hZ dX6_tale_28 rfl rfl rfl rfl rfl rfl rfl (Nat.le_refl _)
      · have h := ite_f h hc14
        refine aw_iconst (pc := 17) hX (-1 : Int32) dX6_tale_17 (by decide) ?_
        have e := Option.some.inj h
        subst e
        exact aw_iret hX hZ dX6_tale_18 rfl rfl rfl rfl rfl rfl rfl (Nat.le_refl _)
