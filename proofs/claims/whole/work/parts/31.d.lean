def f_X7_rate (I : Hi) (L : Hl) (x1 : Int32) (x2 : Int32) : Option (Int32 × Hl) := (f_X7_isOne I x2).bind fun r2 => if r2 = true then (if x1 = (0 : Int32) then ((f_X7_asGoer I L x2).bind fun r54 => some (r54.1, r54.2)) else (if x1 = (1 : Int32) then ((f_X7_asGent I L x2).bind fun r60 => some (r60.1, r60.2)) else (if x1 = (2 : Int32) then ((f_X7_asDoctor I L x2).bind fun r66 => some (r66.1, r66.2)) else (if x1 = (3 : Int32) then ((some (u2 L (77) 17 ((L (77) 17) + (1000 : Int64)))).bind fun L79 => (f_X7_asGent I L79 x2).bind fun r85 => some (((2 : Int32) * r85.1), r85.2)) else (if x1 = (4 : Int32) then ((some (u2 L (77) 17 ((L (77) 17) + (10000 : Int64)))).bind fun L99 => (f_X7_asDoctor I L99 x2).bind fun r104 => some ((r104.1 + x2), r104.2)) else (if x1 = (5 : Int32) then ((some (u2 L (77) 17 ((L (77) 17) + (100000 : Int64)))).bind fun L119 => (f_X7_asGoer I L119 x2).bind fun r124 => if vinb (2 : Int32) 21 then some ((r124.1 + (I (83) ((2 : Int32)).toNatClampNeg)), r124.2) else none) else (some ((-1000000 : Int32), L)))))))) else (some ((-1000000 : Int32), L))
set_option maxRecDepth 100000 in
set_option maxHeartbeats 4000000 in
theorem s_X7_rate {G : GP} {c d : Nat} {I : Hi} {L : Hl} {x1 : Int32} {x2 : Int32} {p : Int32 × Hl} (h : f_X7_rate I L x1 x2 = some p) : CD G mi_X7_rate [.ref 77, .int x1, .int x2] S0 I (R0 c d) L (some (.int p.1)) S0 I (R0 c d) p.2 := by
  refine CD.intro 0 rfl (by decide) rfl fun X hX hZ => ?_
  rw [f_X7_rate] at h
  show AW G X 0 0 S0 I (R0 c d) L 0 [.ref 77, .int x1, .int x2] []
  refine aw_aload_n (pc := 0) hX 0 dX7_rate_0 rfl rfl ?_
  refine aw_iload_n (pc := 1) hX 2 dX7_rate_1 rfl rfl ?_
  obtain ⟨r2, hq2, h⟩ := bind_s h
  refine aw_V1i (pc := 2) hX h_X7_isOne l_X7_205 dX7_rate_2 (by rfl) (by decide) (by rfl) rfl rfl rfl (Nat.le_of_ble_eq_true rfl) (s_X7_isOne  hq2) ?_
  refine aw_if_ne (pc := 5) hX 12 dX7_rate_5 rfl (fun hc5 => ?_) (fun hc5 => ?_)
  · have h := ite_t h (bI1 hc5)
    refine aw_iload_n (pc := 12) hX 1 dX7_rate_12 rfl rfl ?_
    by_cases hs13_0 : x1 = (0 : Int32)
    · have h := ite_t h hs13_0
      refine aw_tcase (pc := 13) (off := 39) hX (0 : Int32) 52 dX7_rate_13 hs13_0 (by decide) (by decide) (by decide) rfl ?_
      refine aw_aload_n (pc := 52) hX 0 dX7_rate_52 rfl rfl ?_
      refine aw_iload_n (pc := 53) hX 2 dX7_rate_53 rfl rfl ?_
      obtain ⟨r54, hq54, h⟩ := bind_s h
      refine aw_V1i (pc := 54) hX h_X7_asGoer l_X7_263 dX7_rate_54 (by rfl) (by decide) (by rfl) rfl rfl rfl (Nat.le_of_ble_eq_true rfl) (s_X7_asGoer  hq54) ?_
      have e := Option.some.inj h
      subst e
      exact aw_iret hX hZ dX7_rate_57 rfl rfl rfl rfl rfl rfl rfl (Nat.le_refl _)
    have h := ite_f h hs13_0
    by_cases hs13_1 : x1 = (1 : Int32)
    · have h := ite_t h hs13_1
      refine aw_tcase (pc := 13) (off := 45) hX (1 : Int32) 58 dX7_rate_13 hs13_1 (by decide) (by decide) (by decide) rfl ?_
      refine aw_aload_n (pc := 58) hX 0 dX7_rate_58 rfl rfl ?_
      refine aw_iload_n (pc := 59) hX 2 dX7_rate_59 rfl rfl ?_
      obtain ⟨r60, hq60, h⟩ := bind_s h
      refine aw_V1i (pc := 60) hX h_X7_asGent l_X7_269 dX7_rate_60 (by rfl) (by decide) (by rfl) rfl rfl rfl (Nat.le_of_ble_eq_true rfl) (s_X7_asGent  hq60) ?_
      have e := Option.some.inj h
      subst e
      exact aw_iret hX hZ dX7_rate_63 rfl rfl rfl rfl rfl rfl rfl (Nat.le_refl _)
    have h := ite_f h hs13_1
    by_cases hs13_2 : x1 = (2 : Int32)
    · have h := ite_t h hs13_2
      refine aw_tcase (pc := 13) (off := 51) hX (2 : Int32) 64 dX7_rate_13 hs13_2 (by decide) (by decide) (by decide) rfl ?_
      refine aw_aload_n (pc := 64) hX 0 dX7_rate_64 rfl rfl ?_
      refine aw_iload_n (pc := 65) hX 2 dX7_rate_65 rfl rfl ?_
      obtain ⟨r66, hq66, h⟩ := bind_s h
      refine aw_V1i (pc := 66) hX h_X7_asDoctor l_X7_272 dX7_rate_66 (by rfl) (by decide) (by rfl) rfl rfl rfl (Nat.le_of_ble_eq_true rfl) (s_X7_asDoctor  hq66) ?_
      have e := Option.some.inj h
      subst e
      exact aw_iret hX hZ dX7_rate_69 rfl rfl rfl rfl rfl rfl rfl (Nat.le_refl _)
    have h := ite_f h hs13_2
    by_cases hs13_3 : x1 = (3 : Int32)
    · have h := ite_t h hs13_3
      refine aw_tcase (pc := 13) (off := 57) hX (3 : Int32) 70 dX7_rate_13 hs13_3 (by decide) (by decide) (by decide) rfl ?_
      refine aw_aload_n (pc := 70) hX 0 dX7_rate_70 rfl rfl ?_
      refine aw_dup (pc := 71) hX dX7_rate_71 rfl ?_
      refine aw_getL (pc := 72) hX dX7_rate_72 f_X7_259 rfl (by rfl) ?_
      refine aw_ldc2 (pc := 75) hX dX7_rate_75 v_X7_275 ?_
      refine aw_ladd (pc := 78) hX dX7_rate_78 ?_
      refine aw_putL (pc := 79) hX dX7_rate_79 f_X7_259 rfl rfl rfl rfl (by rfl) ?_
      obtain ⟨L79, hl79, h⟩ := bind_s h
      refine AW.lEq hl79 ?_
      refine aw_iconst (pc := 82) hX (2 : Int32) dX7_rate_82 (by decide) ?_
      refine aw_aload_n (pc := 83) hX 0 dX7_rate_83 rfl rfl ?_
      refine aw_iload_n (pc := 84) hX 2 dX7_rate_84 rfl rfl ?_
      obtain ⟨r85, hq85, h⟩ := bind_s h
      refine aw_V1i (pc := 85) hX h_X7_asGent l_X7_269 dX7_rate_85 (by rfl) (by decide) (by rfl) rfl rfl rfl (Nat.le_of_ble_eq_true rfl) (s_X7_asGent  hq85) ?_
      refine aw_imul (pc := 88) hX dX7_rate_88 ?_
      have e := Option.some.inj h
      subst e
      exact aw_iret hX hZ dX7_rate_89 rfl rfl rfl rfl rfl rfl rfl (Nat.le_refl _)
    have h := ite_f h hs13_3
    by_cases hs13_4 : x1 = (4 : Int32)
    · have h := ite_t h hs13_4
      refine aw_tcase (pc := 13) (off := 77) hX (4 : Int32) 90 dX7_rate_13 hs13_4 (by decide) (by decide) (by decide) rfl ?_
      refine aw_aload_n (pc := 90) hX 0 dX7_rate_90 rfl rfl ?_
      refine aw_dup (pc := 91) hX dX7_rate_91 rfl ?_
      refine aw_getL (pc := 92) hX dX7_rate_92 f_X7_259 rfl (by rfl) ?_
      refine aw_ldc2 (pc := 95) hX dX7_rate_95 v_X7_277 ?_
      refine aw_ladd (pc := 98) hX dX7_rate_98 ?_
      refine aw_putL (pc := 99) hX dX7_rate_99 f_X7_259 rfl rfl rfl rfl (by rfl) ?_
      obtain ⟨L99, hl99, h⟩ := bind_s h
      refine AW.lEq hl99 ?_
      refine aw_aload_n (pc := 102) hX 0 dX7_rate_102 rfl rfl ?_
      refine aw_iload_n (pc := 103) hX 2 dX7_rate_103 rfl rfl ?_
      obtain ⟨r104, hq104, h⟩ := bind_s h
      refine aw_V1i (pc := 104) hX h_X7_asDoctor l_X7_272 dX7_rate_104 (by rfl) (by decide) (by rfl) rfl rfl rfl (Nat.le_of_ble_eq_true rfl) (s_X7_asDoctor  hq104) ?_
      refine aw_iload_n (pc := 107) hX 2 dX7_rate_107 rfl rfl ?_
      refine aw_iadd (pc := 108) hX dX7_rate_108 ?_
      have e := Option.some.inj h
      subst e
      exact aw_iret hX hZ dX7_rate_109 rfl rfl rfl rfl rfl rfl rfl (Nat.le_refl _)
    have h := ite_f h hs13_4
    by_cases hs13_5 : x1 = (5 : Int32)
    · have h := ite_t h hs13_5
      refine aw_tcase (pc := 13) (off := 97) hX (5 : Int32) 110 dX7_rate_13 hs13_5 (by decide) (by decide) (by decide) rfl ?_
      refine aw_aload_n (pc := 110) hX 0 dX7_rate_110 rfl rfl ?_
      refine aw_dup (pc := 111) hX dX7_rate_111 rfl ?_
      refine aw_getL (pc := 112) hX dX7_rate_112 f_X7_259 rfl (by rfl) ?_
      refine aw_ldc2 (pc := 115) hX dX7_rate_115 v_X7_279 ?_
      refine aw_ladd (pc := 118) hX dX7_rate_118 ?_
      refine aw_putL (pc := 119) hX dX7_rate_119 f_X7_259 rfl rfl rfl rfl (by rfl) ?_
      obtain ⟨L119, hl119, h⟩ := bind_s h
      refine AW.lEq hl119 ?_
      refine aw_aload_n (pc := 122) hX 0 dX7_rate_122 rfl rfl ?_
      refine aw_iload_n (pc := 123) hX 2 dX7_rate_123 rfl rfl ?_
      obtain ⟨r124, hq124, h⟩ := bind_s h
      refine aw_V1i (pc := 124) hX h_X7_asGoer l_X7_263 dX7_rate_124 (by rfl) (by decide) (by rfl) rfl rfl rfl (Nat.le_of_ble_eq_true rfl) (s_X7_asGoer  hq124) ?_
      refine aw_aload_n (pc := 127) hX 0 dX7_rate_127 rfl rfl ?_
      refine aw_getR (pc := 128) hX dX7_rate_128 f_X7_29 rfl (by rfl) (q := 83) (by rfl) ?_
      refine aw_iconst (pc := 131) hX (2 : Int32) dX7_rate_131 (by decide) ?_
      obtain ⟨hv132, h⟩ := ite_g h
      refine aw_iaload (pc := 132) hX dX7_rate_132 (by rfl) (vinb_in hv132) ?_
      refine aw_iadd (pc := 133) hX dX7_rate_133 ?_
      have e := Option.some.inj h
      subst e
      exact aw_iret hX hZ dX7_rate_134 rfl rfl rfl rfl rfl rfl rfl (Nat.le_refl _)
    have h := ite_f h hs13_5
    refine aw_tableOut (pc := 13) hX 135 dX7_rate_13 (by have g0 := lv_neT hs13_0 (show ((0 : Int32)).toInt = 0 by decide); have g1 := lv_neT hs13_1 (show ((1 : Int32)).toInt = 1 by decide); have g2 := lv_neT hs13_2 (show ((2 : Int32)).toInt = 2 by decide); have g3 := lv_neT hs13_3 (show ((3 : Int32)).toInt = 3 by decide); have g4 := lv_neT hs13_4 (show ((4 : Int32)).toInt = 4 by decide); have g5 := lv_neT hs13_5 (show ((5 : Int32)).toInt = 5 by decide); omega) rfl ?_
    refine aw_ldcw (pc := 135) hX dX7_rate_135 v_X7_268 ?_
    have e := Option.some.inj h
    subst e
    exact aw_iret hX hZ dX7_rate_138 rfl rfl rfl rfl rfl rfl rfl (Nat.le_refl _)
  · have h := ite_f h (bI0 hc5)
    refine aw_ldcw (pc := 8) hX dX7_rate_8 v_X7_268 ?_
    have e := Option.some.inj h
    subst e
    exact aw_iret hX hZ dX7_rate_11 rfl rfl rfl rfl rfl rfl rfl (Nat.le_refl _)
def f_X7_keep (I : Hi) (x1 : Int32) : Option (Int32 × Hi) := (f_X7_isBit x1).bind fun r1 => if r1 = true then ((f_X7_copies (83) 21 (85) 42 I (0 : Int32) ((21 : Int32) * x1) (21 : Int32)).bind fun r24 => if vinb x1 2 then (some (u2 r24 (86) (x1).toNatClampNeg (1 : Int32))).bind fun I33 => if vinb (0 : Int32) 21 then some ((I33 (83) ((0 : Int32)).toNatClampNeg), I33) else none else none) else (some ((-1 : Int32), I))
set_option maxRecDepth 100000 in
set_option maxHeartbeats 4000000 in
theorem s_X7_keep {G : GP} {c d : Nat} {I : Hi} {L : Hl} {x1 : Int32} {p : Int32 × Hi} (h : f_X7_keep I x1 = some p) : CD G mi_X7_keep [.ref 77, .int x1] S0 I (R0 c d) L (some (.int p.1)) S0 p.2 (R0 c d) L := by
  refine CD.intro 0 rfl (by decide) rfl fun X hX hZ => ?_
  rw [f_X7_keep] at h
  show AW G X 0 0 S0 I (R0 c d) L 0 [.ref 77, .int x1] []
  refine aw_iload_n (pc := 0) hX 1 dX7_keep_0 rfl rfl ?_
  obtain ⟨r1, hq1, h⟩ := bind_s h
  refine aw_S1i (pc := 1) hX h_X7_isBit l_X7_202 dX7_keep_1 rfl rfl rfl (Nat.le_of_ble_eq_true rfl) (s_X7_isBit  hq1) ?_
  refine aw_if_ne (pc := 4) hX 9 dX7_keep_4 rfl (fun hc4 => ?_) (fun hc4 => ?_)
  · have h := ite_t h (bI1 hc4)
    refine aw_aload_n (pc := 9) hX 0 dX7_keep_9 rfl rfl ?_
    refine aw_getR (pc := 10) hX dX7_keep_10 f_X7_29 rfl (by rfl) (q := 83) (by rfl) ?_
    refine aw_iconst (pc := 13) hX (0 : Int32) dX7_keep_13 (by decide) ?_
    refine aw_aload_n (pc := 14) hX 0 dX7_keep_14 rfl rfl ?_
    refine aw_getR (pc := 15) hX dX7_keep_15 f_X7_35 rfl (by rfl) (q := 85) (by rfl) ?_
    refine aw_bipush (pc := 18) hX (21 : Int32) dX7_keep_18 (by decide) ?_
    refine aw_iload_n (pc := 20) hX 1 dX7_keep_20 rfl rfl ?_
    refine aw_imul (pc := 21) hX dX7_keep_21 ?_
    refine aw_bipush (pc := 22) hX (21 : Int32) dX7_keep_22 (by decide) ?_
    obtain ⟨r24, hq24, h⟩ := bind_s h
    refine aw_S5v (pc := 24) hX h_X7_copies l_X7_176 dX7_keep_24 rfl rfl rfl (Nat.le_of_ble_eq_true rfl) (s_X7_copies (by rfl) (by rfl) hq24) ?_
    refine aw_aload_n (pc := 27) hX 0 dX7_keep_27 rfl rfl ?_
    refine aw_getR (pc := 28) hX dX7_keep_28 f_X7_38 rfl (by rfl) (q := 86) (by rfl) ?_
    refine aw_iload_n (pc := 31) hX 1 dX7_keep_31 rfl rfl ?_
    refine aw_iconst (pc := 32) hX (1 : Int32) dX7_keep_32 (by decide) ?_
    obtain ⟨hv33, h⟩ := ite_g h
    refine aw_bastore (pc := 33) hX dX7_keep_33 (by rfl) (vinb_in hv33) (by decide) ?_
    obtain ⟨I33, hi33, h⟩ := bind_s h
    refine AW.iEq hi33 ?_
    refine aw_aload_n (pc := 34) hX 0 dX7_keep_34 rfl rfl ?_
    refine aw_getR (pc := 35) hX dX7_keep_35 f_X7_29 rfl (by rfl) (q := 83) (by rfl) ?_
    refine aw_iconst (pc := 38) hX (0 : Int32) dX7_keep_38 (by decide) ?_
    obtain ⟨hv39, h⟩ := ite_g h
    refine aw_iaload (pc := 39) hX dX7_keep_39 (by rfl) (vinb_in hv39) ?_
    have e := Option.some.inj h
    subst e
    exact aw_iret hX hZ dX7_keep_40 rfl rfl rfl rfl rfl rfl rfl (Nat.le_refl _)
  · have h := ite_f h (bI0 hc4)
    refine aw_iconst (pc := 7) hX (-1 : Int32) dX7_keep_7 (by decide) ?_
    have e := Option.some.inj h
    subst e
    exact aw_iret hX hZ dX7_keep_8 rfl rfl rfl rfl rfl rfl rfl (Nat.le_refl _)
def f_X7_back (I : Hi) (x1 : Int32) : Option (Int32 × Hi) := (f_X7_isBit x1).bind fun r1 => if r1 = true then (if vinb x1 2 then if (I (86) (x1).toNatClampNeg) = (0 : Int32) then (some ((-2 : Int32), I)) else ((f_X7_copies (85) 42 (83) 21 I ((21 : Int32) * x1) (0 : Int32) (21 : Int32)).bind fun r36 => (some (u2 r36 (77) 12 (0 : Int32))).bind fun I41 => if vinb (0 : Int32) 21 then some ((I41 (83) ((0 : Int32)).toNatClampNeg), I41) else none) else none) else (some ((-1 : Int32), I))
set_option maxRecDepth 100000 in
set_option maxHeartbeats 4000000 in
theorem s_X7_back {G : GP} {c d : Nat} {I : Hi} {L : Hl} {x1 : Int32} {p : Int32 × Hi} (h : f_X7_back I x1 = some p) : CD G mi_X7_back [.ref 77, .int x1] S0 I (R0 c d) L (some (.int p.1)) S0 p.2 (R0 c d) L := by
  refine CD.intro 0 rfl (by decide) rfl fun X hX hZ => ?_
  rw [f_X7_back] at h
  show AW G X 0 0 S0 I (R0 c d) L 0 [.ref 77, .int x1] []
  refine aw_iload_n (pc := 0) hX 1 dX7_back_0 rfl rfl ?_
  obtain ⟨r1, hq1, h⟩ := bind_s h
  refine aw_S1i (pc := 1) hX h_X7_isBit l_X7_202 dX7_back_1 rfl rfl rfl (Nat.le_of_ble_eq_true rfl) (s_X7_isBit  hq1) ?_
  refine aw_if_ne (pc := 4) hX 9 dX7_back_4 rfl (fun hc4 => ?_) (fun hc4 => ?_)
  · have h := ite_t h (bI1 hc4)
    refine aw_aload_n (pc := 9) hX 0 dX7_back_9 rfl rfl ?_
    refine aw_getR (pc := 10) hX dX7_back_10 f_X7_38 rfl (by rfl) (q := 86) (by rfl) ?_
    refine aw_iload_n (pc := 13) hX 1 dX7_back_13 rfl rfl ?_
    obtain ⟨hv14, h⟩ := ite_g h
    refine aw_baload (pc := 14) hX dX7_back_14 (by rfl) (vinb_in hv14) ?_
    refine aw_if_ne (pc := 15) hX 21 dX7_back_15 rfl (fun hc15 => ?_) (fun hc15 => ?_)
    · have h := ite_f h hc15
      refine aw_aload_n (pc := 21) hX 0 dX7_back_21 rfl rfl ?_
      refine aw_getR (pc := 22) hX dX7_back_22 f_X7_35 rfl (by rfl) (q := 85) (by rfl) ?_
      refine aw_bipush (pc := 25) hX (21 : Int32) dX7_back_25 (by decide) ?_
      refine aw_iload_n (pc := 27) hX 1 dX7_back_27 rfl rfl ?_
      refine aw_imul (pc := 28) hX dX7_back_28 ?_
      refine aw_aload_n (pc := 29) hX 0 dX7_back_29 rfl rfl ?_
      refine aw_getR (pc := 30) hX dX7_back_30 f_X7_29 rfl (by rfl) (q := 83) (by rfl) ?_
      refine aw_iconst (pc := 33) hX (0 : Int32) dX7_back_33 (by decide) ?_
      refine aw_bipush (pc := 34) hX (21 : Int32) dX7_back_34 (by decide) ?_
      obtain ⟨r36, hq36, h⟩ := bind_s h
      refine aw_S5v (pc := 36) hX h_X7_copies l_X7_176 dX7_back_36 rfl rfl rfl (Nat.le_of_ble_eq_true rfl) (s_X7_copies (by rfl) (by rfl) hq36) ?_
      refine aw_aload_n (pc := 39) hX 0 dX7_back_39 rfl rfl ?_
      refine aw_iconst (pc := 40) hX (0 : Int32) dX7_back_40 (by decide) ?_
      refine aw_putI (pc := 41) hX dX7_back_41 f_X7_180 rfl rfl (by first | rfl | decide) (by first | rfl | decide) (by rfl) ?_
      obtain ⟨I41, hi41, h⟩ := bind_s h
      refine AW.iEq hi41 ?_
      refine aw_aload_n (pc := 44) hX 0 dX7_back_44 rfl rfl ?_
      refine aw_getR (pc := 45) hX dX7_back_45 f_X7_29 rfl (by rfl) (q := 83) (by rfl) ?_
      refine aw_iconst (pc := 48) hX (0 : Int32) dX7_back_48 (by decide) ?_
      obtain ⟨hv49, h⟩ := ite_g h
      refine aw_iaload (pc := 49) hX dX7_back_49 (by rfl) (vinb_in hv49) ?_
      have e := Option.some.inj h
      subst e
      exact aw_iret hX hZ dX7_back_50 rfl rfl rfl rfl rfl rfl rfl (Nat.le_refl _)
    · have h := ite_t h hc15
      refine aw_bipush (pc := 18) hX (-2 : Int32) dX7_back_18 (by decide) ?_
      have e := Option.some.inj h
      subst e
      exact aw_iret hX hZ dX7_back_20 rfl rfl rfl rfl rfl rfl rfl (Nat.le_refl _)
  · have h := ite_f h (bI0 hc4)
    refine aw_iconst (pc := 7) hX (-1 : Int32) dX7_back_7 (by decide) ?_
    have e := Option.some.inj h
    subst e
    exact aw_iret hX hZ dX7_back_8 rfl rfl rfl rfl rfl rfl rfl (Nat.le_refl _)
def f_X7_count (I : Hi) (x1 : Int32) : Option (Int32) := if x1 = (0 : Int32) then (some ((I (77) 0))) else (if x1 = (1 : Int32) then (some ((I (77) 2))) else (if x1 = (2 : Int32) then (some ((I (77) 4))) else (if x1 = (3 : Int32) then (some ((I (77) 6))) else (if x1 = (4 : Int32) then (some ((I (77) 9))) else (if x1 = (5 : Int32) then (some ((I (77) 16))) else (if x1 = (6 : Int32) then (some ((I (77) 19))) else (some ((-1 : Int32)))))))))
set_option maxRecDepth 100000 in
set_option maxHeartbeats 4000000 in
theorem s_X7_count {G : GP} {c d : Nat} {I : Hi} {L : Hl} {x1 : Int32} {p : Int32} (h : f_X7_count I x1 = some p) : CD G mi_X7_count [.ref 77, .int x1] S0 I (R0 c d) L (some (.int p)) S0 I (R0 c d) L := by
  refine CD.intro 0 rfl (by decide) rfl fun X hX hZ => ?_
  rw [f_X7_count] at h
  show AW G X 0 0 S0 I (R0 c d) L 0 [.ref 77, .int x1] []
  refine aw_iload_n (pc := 0) hX 1 dX7_count_0 rfl rfl ?_
  by_cases hs1_0 : x1 = (0 : Int32)
  · have h := ite_t h hs1_0
    refine aw_tcase (pc := 1) (off := 43) hX (0 : Int32) 44 dX7_count_1 hs1_0 (by decide) (by decide) (by decide) rfl ?_
    refine aw_aload_n (pc := 44) hX 0 dX7_count_44 rfl rfl ?_
    refine aw_getI (pc := 45) hX dX7_count_45 f_X7_164 rfl (by rfl) ?_
    have e := Option.some.inj h
    subst e
    exact aw_iret hX hZ dX7_count_48 rfl rfl rfl rfl rfl rfl rfl (Nat.le_refl _)
  have h := ite_f h hs1_0
  by_cases hs1_1 : x1 = (1 : Int32)
  · have h := ite_t h hs1_1
    refine aw_tcase (pc := 1) (off := 48) hX (1 : Int32) 49 dX7_count_1 hs1_1 (by decide) (by decide) (by decide) rfl ?_
    refine aw_aload_n (pc := 49) hX 0 dX7_count_49 rfl rfl ?_
    refine aw_getI (pc := 50) hX dX7_count_50 f_X7_167 rfl (by rfl) ?_
    have e := Option.some.inj h
    subst e
    exact aw_iret hX hZ dX7_count_53 rfl rfl rfl rfl rfl rfl rfl (Nat.le_refl _)
  have h := ite_f h hs1_1
  by_cases hs1_2 : x1 = (2 : Int32)
  · have h := ite_t h hs1_2
    refine aw_tcase (pc := 1) (off := 53) hX (2 : Int32) 54 dX7_count_1 hs1_2 (by decide) (by decide) (by decide) rfl ?_
    refine aw_aload_n (pc := 54) hX 0 dX7_count_54 rfl rfl ?_
    refine aw_getI (pc := 55) hX dX7_count_55 f_X7_170 rfl (by rfl) ?_
    have e := Option.some.inj h
    subst e
    exact aw_iret hX hZ dX7_count_58 rfl rfl rfl rfl rfl rfl rfl (Nat.le_refl _)
  have h := ite_f h hs1_2
  by_cases hs1_3 : x1 = (3 : Int32)
  · have h := ite_t h hs1_3
    refine aw_tcase (pc := 1) (off := 58) hX (3 : Int32) 59 dX7_count_1 hs1_3 (by decide) (by decide) (by decide) rfl ?_
    refine aw_aload_n (pc := 59) hX 0 dX7_count_59 rfl rfl ?_
    refine aw_getI (pc := 60) hX dX7_count_60 f_X7_173 rfl (by rfl) ?_
    have e := Option.some.inj h
    subst e
    exact aw_iret hX hZ dX7_count_63 rfl rfl rfl rfl rfl rfl rfl (Nat.le_refl _)
  have h := ite_f h hs1_3
  by_cases hs1_4 : x1 = (4 : Int32)
  · have h := ite_t h hs1_4
    refine aw_tcase (pc := 1) (off := 63) hX (4 : Int32) 64 dX7_count_1 hs1_4 (by decide) (by decide) (by decide) rfl ?_
    refine aw_aload_n (pc := 64) hX 0 dX7_count_64 rfl rfl ?_
    refine aw_getI (pc := 65) hX dX7_count_65 f_X7_25 rfl (by rfl) ?_
    have e := Option.some.inj h
    subst e
    exact aw_iret hX hZ dX7_count_68 rfl rfl rfl rfl rfl rfl rfl (Nat.le_refl _)
  have h := ite_f h hs1_4
  by_cases hs1_5 : x1 = (5 : Int32)
  · have h := ite_t h hs1_5
    refine aw_tcase (pc := 1) (off := 68) hX (5 : Int32) 69 dX7_count_1 hs1_5 (by decide) (by decide) (by decide) rfl ?_
    refine aw_aload_n (pc := 69) hX 0 dX7_count_69 rfl rfl ?_
    refine aw_getI (pc := 70) hX dX7_count_70 f_X7_183 rfl (by rfl) ?_
    have e := Option.some.inj h
    subst e
    exact aw_iret hX hZ dX7_count_73 rfl rfl rfl rfl rfl rfl rfl (Nat.le_refl _)
  have h := ite_f h hs1_5
  by_cases hs1_6 : x1 = (6 : Int32)
  · have h := ite_t h hs1_6
    refine aw_tcase (pc := 1) (off := 73) hX (6 : Int32) 74 dX7_count_1 hs1_6 (by decide) (by decide) (by decide) rfl ?_
    refine aw_aload_n (pc := 74) hX 0 dX7_count_74 rfl rfl ?_
    refine aw_getI (pc := 75) hX dX7_count_75 f_X7_79 rfl (by rfl) ?_
    have e := Option.some.inj h
    subst e
    exact aw_iret hX hZ dX7_count_78 rfl rfl rfl rfl rfl rfl rfl (Nat.le_refl _)
  have h := ite_f h hs1_6
  refine aw_tableOut (pc := 1) hX 79 dX7_count_1 (by have g0 := lv_neT hs1_0 (show ((0 : Int32)).toInt = 0 by decide); have g1 := lv_neT hs1_1 (show ((1 : Int32)).toInt = 1 by decide); have g2 := lv_neT hs1_2 (show ((2 : Int32)).toInt = 2 by decide); have g3 := lv_neT hs1_3 (show ((3 : Int32)).toInt = 3 by decide); have g4 := lv_neT hs1_4 (show ((4 : Int32)).toInt = 4 by decide); have g5 := lv_neT hs1_5 (show ((5 : Int32)).toInt = 5 by decide); have g6 := lv_neT hs1_6 (show ((6 : Int32)).toInt = 6 by decide); omega) rfl ?_
  refine aw_iconst (pc := 79) hX (-1 : Int32) dX7_count_79 (by decide) ?_
  have e := Option.some.inj h
  subst e
  exact aw_iret hX hZ dX7_count_80 rfl rfl rfl rfl rfl rfl rfl (Nat.le_refl _)
def f_X7_trace (L : Hl)  : Option (Int64) := some ((L (77) 17))
set_option maxRecDepth 100000 in
set_option maxHeartbeats 4000000 in
theorem s_X7_trace {G : GP} {c d : Nat} {I : Hi} {L : Hl}  {p : Int64} (h : f_X7_trace L = some p) : CD G mi_X7_trace [.ref 77] S0 I (R0 c d) L (some (.long p)) S0 I (R0 c d) L := by
  refine CD.intro 0 rfl (by decide) rfl fun X hX hZ => ?_
  rw [f_X7_trace] at h
  show AW G X 0 0 S0 I (R0 c d) L 0 [.ref 77] []
  refine aw_aload_n (pc := 0) hX 0 dX7_trace_0 rfl rfl ?_
  refine aw_getL (pc := 1) hX dX7_trace_1 f_X7_259 rfl (by rfl) ?_
  have e := Option.some.inj h
  subst e
  exact aw_lret hX hZ dX7_trace_4 rfl rfl rfl rfl rfl rfl rfl (Nat.le_refl _)
