def f_X7_goer (I : Hi) (x1 : Int32) (x2 : Int32) : Option (Int32) := (f_X7_isOne I x1).bind fun r2 => if r2 = true then (if x2 = (0 : Int32) then (if vinb x1 6 then some ((I (79) (x1).toNatClampNeg)) else none) else (if x2 = (1 : Int32) then (if vinb ((3 : Int32) + x1) 21 then some ((I (83) (((3 : Int32) + x1)).toNatClampNeg)) else none) else (if x2 = (2 : Int32) then (if vinb ((9 : Int32) + x1) 21 then some ((I (83) (((9 : Int32) + x1)).toNatClampNeg)) else none) else (if x2 = (3 : Int32) then (if vinb ((15 : Int32) + x1) 21 then some ((I (83) (((15 : Int32) + x1)).toNatClampNeg)) else none) else (if x2 = (4 : Int32) then ((f_X7_leavesOf I x1).bind fun r82 => some (r82)) else (some ((-1 : Int32)))))))) else (some ((-1 : Int32)))
set_option maxRecDepth 100000 in
set_option maxHeartbeats 4000000 in
theorem s_X7_goer {G : GP} {c d : Nat} {I : Hi} {L : Hl} {x1 : Int32} {x2 : Int32} {p : Int32} (h : f_X7_goer I x1 x2 = some p) : CD G mi_X7_goer [.ref 77, .int x1, .int x2] S0 I (R0 c d) L (some (.int p)) S0 I (R0 c d) L := by
  refine CD.intro 0 rfl (by decide) rfl fun X hX hZ => ?_
  rw [f_X7_goer] at h
  show AW G X 0 0 S0 I (R0 c d) L 0 [.ref 77, .int x1, .int x2] []
  refine aw_aload_n (pc := 0) hX 0 dX7_goer_0 rfl rfl ?_
  refine aw_iload_n (pc := 1) hX 1 dX7_goer_1 rfl rfl ?_
  obtain ⟨r2, hq2, h⟩ := bind_s h
  refine aw_V1i (pc := 2) hX h_X7_isOne l_X7_205 dX7_goer_2 (by rfl) (by decide) (by rfl) rfl rfl rfl (Nat.le_of_ble_eq_true rfl) (s_X7_isOne  hq2) ?_
  refine aw_if_ne (pc := 5) hX 10 dX7_goer_5 rfl (fun hc5 => ?_) (fun hc5 => ?_)
  · have h := ite_t h (bI1 hc5)
    refine aw_iload_n (pc := 10) hX 2 dX7_goer_10 rfl rfl ?_
    by_cases hs11_0 : x2 = (0 : Int32)
    · have h := ite_t h hs11_0
      refine aw_tcase (pc := 11) (off := 33) hX (0 : Int32) 44 dX7_goer_11 hs11_0 (by decide) (by decide) (by decide) rfl ?_
      refine aw_aload_n (pc := 44) hX 0 dX7_goer_44 rfl rfl ?_
      refine aw_getR (pc := 45) hX dX7_goer_45 f_X7_13 rfl (by rfl) (q := 79) (by rfl) ?_
      refine aw_iload_n (pc := 48) hX 1 dX7_goer_48 rfl rfl ?_
      obtain ⟨hv49, h⟩ := ite_g h
      refine aw_iaload (pc := 49) hX dX7_goer_49 (by rfl) (vinb_in hv49) ?_
      have e := Option.some.inj h
      subst e
      exact aw_iret hX hZ dX7_goer_50 rfl rfl rfl rfl rfl rfl rfl (Nat.le_refl _)
    have h := ite_f h hs11_0
    by_cases hs11_1 : x2 = (1 : Int32)
    · have h := ite_t h hs11_1
      refine aw_tcase (pc := 11) (off := 40) hX (1 : Int32) 51 dX7_goer_11 hs11_1 (by decide) (by decide) (by decide) rfl ?_
      refine aw_aload_n (pc := 51) hX 0 dX7_goer_51 rfl rfl ?_
      refine aw_getR (pc := 52) hX dX7_goer_52 f_X7_29 rfl (by rfl) (q := 83) (by rfl) ?_
      refine aw_iconst (pc := 55) hX (3 : Int32) dX7_goer_55 (by decide) ?_
      refine aw_iload_n (pc := 56) hX 1 dX7_goer_56 rfl rfl ?_
      refine aw_iadd (pc := 57) hX dX7_goer_57 ?_
      obtain ⟨hv58, h⟩ := ite_g h
      refine aw_iaload (pc := 58) hX dX7_goer_58 (by rfl) (vinb_in hv58) ?_
      have e := Option.some.inj h
      subst e
      exact aw_iret hX hZ dX7_goer_59 rfl rfl rfl rfl rfl rfl rfl (Nat.le_refl _)
    have h := ite_f h hs11_1
    by_cases hs11_2 : x2 = (2 : Int32)
    · have h := ite_t h hs11_2
      refine aw_tcase (pc := 11) (off := 49) hX (2 : Int32) 60 dX7_goer_11 hs11_2 (by decide) (by decide) (by decide) rfl ?_
      refine aw_aload_n (pc := 60) hX 0 dX7_goer_60 rfl rfl ?_
      refine aw_getR (pc := 61) hX dX7_goer_61 f_X7_29 rfl (by rfl) (q := 83) (by rfl) ?_
      refine aw_bipush (pc := 64) hX (9 : Int32) dX7_goer_64 (by decide) ?_
      refine aw_iload_n (pc := 66) hX 1 dX7_goer_66 rfl rfl ?_
      refine aw_iadd (pc := 67) hX dX7_goer_67 ?_
      obtain ⟨hv68, h⟩ := ite_g h
      refine aw_iaload (pc := 68) hX dX7_goer_68 (by rfl) (vinb_in hv68) ?_
      have e := Option.some.inj h
      subst e
      exact aw_iret hX hZ dX7_goer_69 rfl rfl rfl rfl rfl rfl rfl (Nat.le_refl _)
    have h := ite_f h hs11_2
    by_cases hs11_3 : x2 = (3 : Int32)
    · have h := ite_t h hs11_3
      refine aw_tcase (pc := 11) (off := 59) hX (3 : Int32) 70 dX7_goer_11 hs11_3 (by decide) (by decide) (by decide) rfl ?_
      refine aw_aload_n (pc := 70) hX 0 dX7_goer_70 rfl rfl ?_
      refine aw_getR (pc := 71) hX dX7_goer_71 f_X7_29 rfl (by rfl) (q := 83) (by rfl) ?_
      refine aw_bipush (pc := 74) hX (15 : Int32) dX7_goer_74 (by decide) ?_
      refine aw_iload_n (pc := 76) hX 1 dX7_goer_76 rfl rfl ?_
      refine aw_iadd (pc := 77) hX dX7_goer_77 ?_
      obtain ⟨hv78, h⟩ := ite_g h
      refine aw_iaload (pc := 78) hX dX7_goer_78 (by rfl) (vinb_in hv78) ?_
      have e := Option.some.inj h
      subst e
      exact aw_iret hX hZ dX7_goer_79 rfl rfl rfl rfl rfl rfl rfl (Nat.le_refl _)
    have h := ite_f h hs11_3
    by_cases hs11_4 : x2 = (4 : Int32)
    · have h := ite_t h hs11_4
      refine aw_tcase (pc := 11) (off := 69) hX (4 : Int32) 80 dX7_goer_11 hs11_4 (by decide) (by decide) (by decide) rfl ?_
      refine aw_aload_n (pc := 80) hX 0 dX7_goer_80 rfl rfl ?_
      refine aw_iload_n (pc := 81) hX 1 dX7_goer_81 rfl rfl ?_
      obtain ⟨r82, hq82, h⟩ := bind_s h
      refine aw_V1i (pc := 82) hX h_X7_leavesOf l_X7_208 dX7_goer_82 (by rfl) (by decide) (by rfl) rfl rfl rfl (Nat.le_of_ble_eq_true rfl) (s_X7_leavesOf  hq82) ?_
      have e := Option.some.inj h
      subst e
      exact aw_iret hX hZ dX7_goer_85 rfl rfl rfl rfl rfl rfl rfl (Nat.le_refl _)
    have h := ite_f h hs11_4
    refine aw_tableOut (pc := 11) hX 86 dX7_goer_11 (by have g0 := lv_neT hs11_0 (show ((0 : Int32)).toInt = 0 by decide); have g1 := lv_neT hs11_1 (show ((1 : Int32)).toInt = 1 by decide); have g2 := lv_neT hs11_2 (show ((2 : Int32)).toInt = 2 by decide); have g3 := lv_neT hs11_3 (show ((3 : Int32)).toInt = 3 by decide); have g4 := lv_neT hs11_4 (show ((4 : Int32)).toInt = 4 by decide); omega) rfl ?_
    refine aw_iconst (pc := 86) hX (-1 : Int32) dX7_goer_86 (by decide) ?_
    have e := Option.some.inj h
    subst e
    exact aw_iret hX hZ dX7_goer_87 rfl rfl rfl rfl rfl rfl rfl (Nat.le_refl _)
  · have h := ite_f h (bI0 hc5)
    refine aw_iconst (pc := 8) hX (-1 : Int32) dX7_goer_8 (by decide) ?_
    have e := Option.some.inj h
    subst e
    exact aw_iret hX hZ dX7_goer_9 rfl rfl rfl rfl rfl rfl rfl (Nat.le_refl _)
def f_X7_sister (I : Hi) (x1 : Int32) (x2 : Int32) : Option (Int32) := (f_X7_in (x1).toInt64 (0 : Int64) (((I (77) 4) - (1 : Int32))).toInt64).bind fun r10 => if r10 = true then ((f_X7_isTaste x2).bind fun r17 => if r17 = true then (if vinb (((6 : Int32) * x1) + x2) 24 then some ((I (80) ((((6 : Int32) * x1) + x2)).toNatClampNeg)) else none) else (some ((-1 : Int32)))) else (some ((-1 : Int32)))
set_option maxRecDepth 100000 in
set_option maxHeartbeats 4000000 in
theorem s_X7_sister {G : GP} {c d : Nat} {I : Hi} {L : Hl} {x1 : Int32} {x2 : Int32} {p : Int32} (h : f_X7_sister I x1 x2 = some p) : CD G mi_X7_sister [.ref 77, .int x1, .int x2] S0 I (R0 c d) L (some (.int p)) S0 I (R0 c d) L := by
  refine CD.intro 0 rfl (by decide) rfl fun X hX hZ => ?_
  rw [f_X7_sister] at h
  show AW G X 0 0 S0 I (R0 c d) L 0 [.ref 77, .int x1, .int x2] []
  refine aw_iload_n (pc := 0) hX 1 dX7_sister_0 rfl rfl ?_
  refine aw_i2l (pc := 1) hX dX7_sister_1 ?_
  refine aw_lconst (pc := 2) hX (0 : Int64) dX7_sister_2 (by decide) ?_
  refine aw_aload_n (pc := 3) hX 0 dX7_sister_3 rfl rfl ?_
  refine aw_getI (pc := 4) hX dX7_sister_4 f_X7_170 rfl (by rfl) ?_
  refine aw_iconst (pc := 7) hX (1 : Int32) dX7_sister_7 (by decide) ?_
  refine aw_isub (pc := 8) hX dX7_sister_8 ?_
  refine aw_i2l (pc := 9) hX dX7_sister_9 ?_
  obtain ⟨r10, hq10, h⟩ := bind_s h
  refine aw_S3i (pc := 10) hX h_X7_in l_X7_75 dX7_sister_10 rfl rfl rfl (Nat.le_of_ble_eq_true rfl) (s_X7_in  hq10) ?_
  refine aw_if_eq (pc := 13) hX 37 dX7_sister_13 rfl (fun hc13 => ?_) (fun hc13 => ?_)
  · have h := ite_f h (bI0 hc13)
    refine aw_iconst (pc := 37) hX (-1 : Int32) dX7_sister_37 (by decide) ?_
    have e := Option.some.inj h
    subst e
    exact aw_iret hX hZ dX7_sister_38 rfl rfl rfl rfl rfl rfl rfl (Nat.le_refl _)
  · have h := ite_t h (bI1 hc13)
    refine aw_iload_n (pc := 16) hX 2 dX7_sister_16 rfl rfl ?_
    obtain ⟨r17, hq17, h⟩ := bind_s h
    refine aw_S1i (pc := 17) hX h_X7_isTaste l_X7_211 dX7_sister_17 rfl rfl rfl (Nat.le_of_ble_eq_true rfl) (s_X7_isTaste  hq17) ?_
    refine aw_if_eq (pc := 20) hX 37 dX7_sister_20 rfl (fun hc20 => ?_) (fun hc20 => ?_)
    · have h := ite_f h (bI0 hc20)
      refine aw_iconst (pc := 37) hX (-1 : Int32) dX7_sister_37 (by decide) ?_
      have e := Option.some.inj h
      subst e
      exact aw_iret hX hZ dX7_sister_38 rfl rfl rfl rfl rfl rfl rfl (Nat.le_refl _)
    · have h := ite_t h (bI1 hc20)
      refine aw_aload_n (pc := 23) hX 0 dX7_sister_23 rfl rfl ?_
      refine aw_getR (pc := 24) hX dX7_sister_24 f_X7_16 rfl (by rfl) (q := 80) (by rfl) ?_
      refine aw_bipush (pc := 27) hX (6 : Int32) dX7_sister_27 (by decide) ?_
      refine aw_iload_n (pc := 29) hX 1 dX7_sister_29 rfl rfl ?_
      refine aw_imul (pc := 30) hX dX7_sister_30 ?_
      refine aw_iload_n (pc := 31) hX 2 dX7_sister_31 rfl rfl ?_
      refine aw_iadd (pc := 32) hX dX7_sister_32 ?_
      obtain ⟨hv33, h⟩ := ite_g h
      refine aw_iaload (pc := 33) hX dX7_sister_33 (by rfl) (vinb_in hv33) ?_
      refine aw_goto (pc := 34) hX 38 dX7_sister_34 rfl ?_
      have e := Option.some.inj h
      subst e
      exact aw_iret hX hZ dX7_sister_38 rfl rfl rfl rfl rfl rfl rfl (Nat.le_refl _)
def b_X7_now_44 (I : Hi)  (x1 : Int32) : Option (Int32) := if vinb x1 21 then some ((I (83) (x1).toNatClampNeg)) else none
set_option maxRecDepth 100000 in
set_option maxHeartbeats 4000000 in
theorem t_X7_now_44 {G : GP} {X : CX} (hX : XOK G X mi_X7_now) {c d : Nat} {I : Hi} {L : Hl} {p : Int32} (hZ : XZ G X mi_X7_now (some (.int p)) S0 I (R0 c d) L) (x1 : Int32) (h : b_X7_now_44 I x1 = some p) : AW G X 0 0 S0 I (R0 c d) L 44 [.ref 77, .int x1] [] := by
  rw [b_X7_now_44] at h
  refine aw_aload_n (pc := 44) hX 0 dX7_now_44 rfl rfl ?_
  refine aw_getR (pc := 45) hX dX7_now_45 f_X7_29 rfl (by rfl) (q := 83) (by rfl) ?_
  refine aw_iload_n (pc := 48) hX 1 dX7_now_48 rfl rfl ?_
  obtain ⟨hv49, h⟩ := ite_g h
  refine aw_iaload (pc := 49) hX dX7_now_49 (by rfl) (vinb_in hv49) ?_
  have e := Option.some.inj h
  subst e
  exact aw_iret hX hZ dX7_now_50 rfl rfl rfl rfl rfl rfl rfl (Nat.le_refl _)
def f_X7_now (I : Hi) (x1 : Int32) : Option (Int32) := if x1 = (0 : Int32) then (b_X7_now_44 I x1) else (if x1 = (1 : Int32) then (b_X7_now_44 I x1) else (if x1 = (2 : Int32) then (b_X7_now_44 I x1) else (if x1 = (3 : Int32) then ((f_X7_those I (1 : Int32)).bind fun r53 => some (r53)) else (if x1 = (4 : Int32) then ((f_X7_those I (3 : Int32)).bind fun r59 => some (r59)) else (if x1 = (5 : Int32) then ((f_X7_cover I).bind fun r64 => some (r64)) else (if x1 = (6 : Int32) then (some ((I (77) 12))) else (some ((-1 : Int32)))))))))
set_option maxRecDepth 100000 in
set_option maxHeartbeats 4000000 in
theorem s_X7_now {G : GP} {c d : Nat} {I : Hi} {L : Hl} {x1 : Int32} {p : Int32} (h : f_X7_now I x1 = some p) : CD G mi_X7_now [.ref 77, .int x1] S0 I (R0 c d) L (some (.int p)) S0 I (R0 c d) L := by
  refine CD.intro 0 rfl (by decide) rfl fun X hX hZ => ?_
  rw [f_X7_now] at h
  show AW G X 0 0 S0 I (R0 c d) L 0 [.ref 77, .int x1] []
  refine aw_iload_n (pc := 0) hX 1 dX7_now_0 rfl rfl ?_
  by_cases hs1_0 : x1 = (0 : Int32)
  · have h := ite_t h hs1_0
    refine aw_tcase (pc := 1) (off := 43) hX (0 : Int32) 44 dX7_now_1 hs1_0 (by decide) (by decide) (by decide) rfl ?_
    exact AW.lo (t_X7_now_44 hX hZ x1 h) (And.intro (Or.inr rfl) (And.intro (Or.inr rfl) trivial))
  have h := ite_f h hs1_0
  by_cases hs1_1 : x1 = (1 : Int32)
  · have h := ite_t h hs1_1
    refine aw_tcase (pc := 1) (off := 43) hX (1 : Int32) 44 dX7_now_1 hs1_1 (by decide) (by decide) (by decide) rfl ?_
    exact AW.lo (t_X7_now_44 hX hZ x1 h) (And.intro (Or.inr rfl) (And.intro (Or.inr rfl) trivial))
  have h := ite_f h hs1_1
  by_cases hs1_2 : x1 = (2 : Int32)
  · have h := ite_t h hs1_2
    refine aw_tcase (pc := 1) (off := 43) hX (2 : Int32) 44 dX7_now_1 hs1_2 (by decide) (by decide) (by decide) rfl ?_
    exact AW.lo (t_X7_now_44 hX hZ x1 h) (And.intro (Or.inr rfl) (And.intro (Or.inr rfl) trivial))
  have h := ite_f h hs1_2
  by_cases hs1_3 : x1 = (3 : Int32)
  · have h := ite_t h hs1_3
    refine aw_tcase (pc := 1) (off := 50) hX (3 : Int32) 51 dX7_now_1 hs1_3 (by decide) (by decide) (by decide) rfl ?_
    refine aw_aload_n (pc := 51) hX 0 dX7_now_51 rfl rfl ?_
    refine aw_iconst (pc := 52) hX (1 : Int32) dX7_now_52 (by decide) ?_
    obtain ⟨r53, hq53, h⟩ := bind_s h
    refine aw_V1i (pc := 53) hX h_X7_those l_X7_214 dX7_now_53 (by rfl) (by decide) (by rfl) rfl rfl rfl (Nat.le_of_ble_eq_true rfl) (s_X7_those  hq53) ?_
    have e := Option.some.inj h
    subst e
    exact aw_iret hX hZ dX7_now_56 rfl rfl rfl rfl rfl rfl rfl (Nat.le_refl _)
  have h := ite_f h hs1_3
  by_cases hs1_4 : x1 = (4 : Int32)
  · have h := ite_t h hs1_4
    refine aw_tcase (pc := 1) (off := 56) hX (4 : Int32) 57 dX7_now_1 hs1_4 (by decide) (by decide) (by decide) rfl ?_
    refine aw_aload_n (pc := 57) hX 0 dX7_now_57 rfl rfl ?_
    refine aw_iconst (pc := 58) hX (3 : Int32) dX7_now_58 (by decide) ?_
    obtain ⟨r59, hq59, h⟩ := bind_s h
    refine aw_V1i (pc := 59) hX h_X7_those l_X7_214 dX7_now_59 (by rfl) (by decide) (by rfl) rfl rfl rfl (Nat.le_of_ble_eq_true rfl) (s_X7_those  hq59) ?_
    have e := Option.some.inj h
    subst e
    exact aw_iret hX hZ dX7_now_62 rfl rfl rfl rfl rfl rfl rfl (Nat.le_refl _)
  have h := ite_f h hs1_4
  by_cases hs1_5 : x1 = (5 : Int32)
  · have h := ite_t h hs1_5
    refine aw_tcase (pc := 1) (off := 62) hX (5 : Int32) 63 dX7_now_1 hs1_5 (by decide) (by decide) (by decide) rfl ?_
    refine aw_aload_n (pc := 63) hX 0 dX7_now_63 rfl rfl ?_
    obtain ⟨r64, hq64, h⟩ := bind_s h
    refine aw_V0i (pc := 64) hX h_X7_cover l_X7_217 dX7_now_64 (by rfl) (by decide) (by rfl) rfl rfl rfl (Nat.le_of_ble_eq_true rfl) (s_X7_cover  hq64) ?_
    have e := Option.some.inj h
    subst e
    exact aw_iret hX hZ dX7_now_67 rfl rfl rfl rfl rfl rfl rfl (Nat.le_refl _)
  have h := ite_f h hs1_5
  by_cases hs1_6 : x1 = (6 : Int32)
  · have h := ite_t h hs1_6
    refine aw_tcase (pc := 1) (off := 67) hX (6 : Int32) 68 dX7_now_1 hs1_6 (by decide) (by decide) (by decide) rfl ?_
    refine aw_aload_n (pc := 68) hX 0 dX7_now_68 rfl rfl ?_
    refine aw_getI (pc := 69) hX dX7_now_69 f_X7_180 rfl (by rfl) ?_
    have e := Option.some.inj h
    subst e
    exact aw_iret hX hZ dX7_now_72 rfl rfl rfl rfl rfl rfl rfl (Nat.le_refl _)
  have h := ite_f h hs1_6
  refine aw_tableOut (pc := 1) hX 73 dX7_now_1 (by have g0 := lv_neT hs1_0 (show ((0 : Int32)).toInt = 0 by decide); have g1 := lv_neT hs1_1 (show ((1 : Int32)).toInt = 1 by decide); have g2 := lv_neT hs1_2 (show ((2 : Int32)).toInt = 2 by decide); have g3 := lv_neT hs1_3 (show ((3 : Int32)).toInt = 3 by decide); have g4 := lv_neT hs1_4 (show ((4 : Int32)).toInt = 4 by decide); have g5 := lv_neT hs1_5 (show ((5 : Int32)).toInt = 5 by decide); have g6 := lv_neT hs1_6 (show ((6 : Int32)).toInt = 6 by decide); omega) rfl ?_
  refine aw_iconst (pc := 73) hX (-1 : Int32) dX7_now_73 (by decide) ?_
  have e := Option.some.inj h
  subst e
  exact aw_iret hX hZ dX7_now_74 rfl rfl rfl rfl rfl rfl rfl (Nat.le_refl _)
def b_X7_notes_49   (I : Hi) : Option (Hi) := (f_X7_copies (83) 21 (84) 210 I (0 : Int32) ((21 : Int32) * (I (77) 12)) (21 : Int32)).bind fun r67 => (some (u2 r67 (77) 12 ((r67 (77) 12) + (1 : Int32)))).bind fun I77 => some (I77)
set_option maxRecDepth 100000 in
set_option maxHeartbeats 4000000 in
theorem t_X7_notes_49 {G : GP} {X : CX} (hX : XOK G X mi_X7_notes) {c d : Nat} {L : Hl} {p : Hi} (hZ : XZ G X mi_X7_notes none S0 p (R0 c d) L) (I : Hi) (h : b_X7_notes_49 I = some p) : AW G X 0 0 S0 I (R0 c d) L 49 [.ref 77, .null] [] := by
  rw [b_X7_notes_49] at h
  refine aw_aload_n (pc := 49) hX 0 dX7_notes_49 rfl rfl ?_
  refine aw_getR (pc := 50) hX dX7_notes_50 f_X7_29 rfl (by rfl) (q := 83) (by rfl) ?_
  refine aw_iconst (pc := 53) hX (0 : Int32) dX7_notes_53 (by decide) ?_
  refine aw_aload_n (pc := 54) hX 0 dX7_notes_54 rfl rfl ?_
  refine aw_getR (pc := 55) hX dX7_notes_55 f_X7_32 rfl (by rfl) (q := 84) (by rfl) ?_
  refine aw_bipush (pc := 58) hX (21 : Int32) dX7_notes_58 (by decide) ?_
  refine aw_aload_n (pc := 60) hX 0 dX7_notes_60 rfl rfl ?_
  refine aw_getI (pc := 61) hX dX7_notes_61 f_X7_180 rfl (by rfl) ?_
  refine aw_imul (pc := 64) hX dX7_notes_64 ?_
  refine aw_bipush (pc := 65) hX (21 : Int32) dX7_notes_65 (by decide) ?_
  obtain ⟨r67, hq67, h⟩ := bind_s h
  refine aw_S5v (pc := 67) hX h_X7_copies l_X7_176 dX7_notes_67 rfl rfl rfl (Nat.le_of_ble_eq_true rfl) (s_X7_copies (by rfl) (by rfl) hq67) ?_
  refine aw_aload_n (pc := 70) hX 0 dX7_notes_70 rfl rfl ?_
  refine aw_dup (pc := 71) hX dX7_notes_71 rfl ?_
  refine aw_getI (pc := 72) hX dX7_notes_72 f_X7_180 rfl (by rfl) ?_
  refine aw_iconst (pc := 75) hX (1 : Int32) dX7_notes_75 (by decide) ?_
  refine aw_iadd (pc := 76) hX dX7_notes_76 ?_
  refine aw_putI (pc := 77) hX dX7_notes_77 f_X7_180 rfl rfl (by first | rfl | decide) (by first | rfl | decide) (by rfl) ?_
  obtain ⟨I77, hi77, h⟩ := bind_s h
  refine AW.iEq hi77 ?_
  have e := Option.some.inj h
  subst e
  exact aw_vret hX hZ dX7_notes_80 rfl rfl rfl rfl rfl rfl (Nat.le_refl _)
def b_X7_notes_39   (I : Hi) : Option (Hi) := (some (u2 I (77) 12 ((I (77) 12) - (1 : Int32)))).bind fun I46 => b_X7_notes_49 I46
set_option maxRecDepth 100000 in
set_option maxHeartbeats 4000000 in
theorem t_X7_notes_39 {G : GP} {X : CX} (hX : XOK G X mi_X7_notes) {c d : Nat} {L : Hl} {p : Hi} (hZ : XZ G X mi_X7_notes none S0 p (R0 c d) L) (I : Hi) (h : b_X7_notes_39 I = some p) : AW G X 0 0 S0 I (R0 c d) L 39 [.ref 77, .null] [] := by
  rw [b_X7_notes_39] at h
  refine aw_aload_n (pc := 39) hX 0 dX7_notes_39 rfl rfl ?_
  refine aw_dup (pc := 40) hX dX7_notes_40 rfl ?_
  refine aw_getI (pc := 41) hX dX7_notes_41 f_X7_180 rfl (by rfl) ?_
  refine aw_iconst (pc := 44) hX (1 : Int32) dX7_notes_44 (by decide) ?_
  refine aw_isub (pc := 45) hX dX7_notes_45 ?_
  refine aw_putI (pc := 46) hX dX7_notes_46 f_X7_180 rfl rfl (by first | rfl | decide) (by first | rfl | decide) (by rfl) ?_
  obtain ⟨I46, hi46, h⟩ := bind_s h
  refine AW.iEq hi46 ?_
  exact AW.lo (t_X7_notes_49 hX hZ I46 h) (And.intro (Or.inr rfl) (And.intro (Or.inl rfl) trivial))
def b_X7_notes_11   : Nat → Hi → Int32 → Option (Hi)
  | 0, _, _ => none
  | n + 1, I, x1 => if (189 : Int32) ≤ x1 then (b_X7_notes_39 I) else (if vinb (x1 + (21 : Int32)) 210 then if vinb x1 210 then (some (u2 I (84) (x1).toNatClampNeg (I (84) ((x1 + (21 : Int32))).toNatClampNeg))).bind fun I32 => b_X7_notes_11 n I32 (x1 + 1) else none else none)
set_option maxRecDepth 100000 in
set_option maxHeartbeats 4000000 in
theorem t_X7_notes_11 {G : GP} {X : CX} (hX : XOK G X mi_X7_notes) {c d : Nat} {L : Hl} {p : Hi} (hZ : XZ G X mi_X7_notes none S0 p (R0 c d) L) : ∀ (n : Nat) (I : Hi) (x1 : Int32), b_X7_notes_11 n I x1 = some p → AW G X 0 0 S0 I (R0 c d) L 11 [.ref 77, .int x1] [] := by
  intro n
  induction n with
  | zero => intro I x1 h; cases h
  | succ n ih =>
    intro I x1 h
    rw [b_X7_notes_11] at h
    refine aw_iload_n (pc := 11) hX 1 dX7_notes_11 rfl rfl ?_
    refine aw_sipush (pc := 12) hX (189 : Int32) dX7_notes_12 (by decide) ?_
    refine aw_icmp_ge (pc := 15) hX 39 dX7_notes_15 rfl (fun hc15 => ?_) (fun hc15 => ?_)
    · have h := ite_t h hc15
      exact AW.lo (t_X7_notes_39 hX hZ I h) (And.intro (Or.inr rfl) (And.intro (Or.inl rfl) trivial))
    · have h := ite_f h hc15
      refine aw_aload_n (pc := 18) hX 0 dX7_notes_18 rfl rfl ?_
      refine aw_getR (pc := 19) hX dX7_notes_19 f_X7_32 rfl (by rfl) (q := 84) (by rfl) ?_
      refine aw_iload_n (pc := 22) hX 1 dX7_notes_22 rfl rfl ?_
      refine aw_aload_n (pc := 23) hX 0 dX7_notes_23 rfl rfl ?_
      refine aw_getR (pc := 24) hX dX7_notes_24 f_X7_32 rfl (by rfl) (q := 84) (by rfl) ?_
      refine aw_iload_n (pc := 27) hX 1 dX7_notes_27 rfl rfl ?_
      refine aw_bipush (pc := 28) hX (21 : Int32) dX7_notes_28 (by decide) ?_
      refine aw_iadd (pc := 30) hX dX7_notes_30 ?_
      obtain ⟨hv31, h⟩ := ite_g h
      refine aw_iaload (pc := 31) hX dX7_notes_31 (by rfl) (vinb_in hv31) ?_
      obtain ⟨hv32, h⟩ := ite_g h
      refine aw_iastore (pc := 32) hX dX7_notes_32 (by rfl) (vinb_in hv32) ?_
      obtain ⟨I32, hi32, h⟩ := bind_s h
      refine AW.iEq hi32 ?_
      refine aw_iincE (pc := 33) hX (x1 + 1) [.ref 77, .int (x1 + 1)] dX7_notes_33 rfl rfl (by decide) rfl rfl ?_
      refine aw_goto (pc := 36) hX 11 dX7_notes_36 rfl ?_
      exact AW.lo (ih I32 (x1 + 1)  h) (And.intro (Or.inr rfl) (And.intro (Or.inr rfl) trivial))
def f_X7_notes (I : Hi)  : Option (Hi) := if (I (77) 12) = (10 : Int32) then (b_X7_notes_11 2000 I (0 : Int32)) else (b_X7_notes_49 I)
set_option maxRecDepth 100000 in
set_option maxHeartbeats 4000000 in
theorem s_X7_notes {G : GP} {c d : Nat} {I : Hi} {L : Hl}  {p : Hi} (h : f_X7_notes I = some p) : CD G mi_X7_notes [.ref 77] S0 I (R0 c d) L none S0 p (R0 c d) L := by
  refine CD.intro 1 rfl (by decide) rfl fun X hX hZ => ?_
  rw [f_X7_notes] at h
  show AW G X 0 0 S0 I (R0 c d) L 0 [.ref 77, .null] []
  refine aw_aload_n (pc := 0) hX 0 dX7_notes_0 rfl rfl ?_
  refine aw_getI (pc := 1) hX dX7_notes_1 f_X7_180 rfl (by rfl) ?_
  refine aw_bipush (pc := 4) hX (10 : Int32) dX7_notes_4 (by decide) ?_
  refine aw_icmp_ne (pc := 6) hX 49 dX7_notes_6 rfl (fun hc6 => ?_) (fun hc6 => ?_)
  · have h := ite_f h hc6
    exact AW.lo (t_X7_notes_49 hX hZ I h) (And.intro (Or.inr rfl) (And.intro (Or.inl rfl) trivial))
  · have h := ite_t h hc6
    refine aw_iconst (pc := 9) hX (0 : Int32) dX7_notes_9 (by decide) ?_
    refine aw_istore_nE (pc := 10) hX 1 [.ref 77, .int (0 : Int32)] dX7_notes_10 rfl (by decide) rfl rfl ?_
    exact AW.lo (t_X7_notes_11 hX hZ 2000 I (0 : Int32) h) (And.intro (Or.inr rfl) (And.intro (Or.inr rfl) trivial))
def f_X7_comes (I : Hi) (x1 : Int32) : Option (Int32 × Hi) := (f_X7_isOne I x1).bind fun r2 => if r2 = true then (if vinb ((3 : Int32) + x1) 21 then if (I (83) (((3 : Int32) + x1)).toNatClampNeg) = (0 : Int32) then ((f_X7_notes I).bind fun r25 => if vinb ((3 : Int32) + x1) 21 then (some (u2 r25 (83) (((3 : Int32) + x1)).toNatClampNeg (1 : Int32))).bind fun I36 => (f_X7_those I36 (1 : Int32)).bind fun r39 => (f_X7_bits r39).bind fun r42 => some (r42, I36) else none) else (some ((-2 : Int32), I)) else none) else (some ((-1 : Int32), I))
set_option maxRecDepth 100000 in
set_option maxHeartbeats 4000000 in
theorem s_X7_comes {G : GP} {c d : Nat} {I : Hi} {L : Hl} {x1 : Int32} {p : Int32 × Hi} (h : f_X7_comes I x1 = some p) : CD G mi_X7_comes [.ref 77, .int x1] S0 I (R0 c d) L (some (.int p.1)) S0 p.2 (R0 c d) L := by
  refine CD.intro 0 rfl (by decide) rfl fun X hX hZ => ?_
  rw [f_X7_comes] at h
  show AW G X 0 0 S0 I (R0 c d) L 0 [.ref 77, .int x1] []
  refine aw_aload_n (pc := 0) hX 0 dX7_comes_0 rfl rfl ?_
  refine aw_iload_n (pc := 1) hX 1 dX7_comes_1 rfl rfl ?_
  obtain ⟨r2, hq2, h⟩ := bind_s h
  refine aw_V1i (pc := 2) hX h_X7_isOne l_X7_205 dX7_comes_2 (by rfl) (by decide) (by rfl) rfl rfl rfl (Nat.le_of_ble_eq_true rfl) (s_X7_isOne  hq2) ?_
  refine aw_if_ne (pc := 5) hX 10 dX7_comes_5 rfl (fun hc5 => ?_) (fun hc5 => ?_)
  · have h := ite_t h (bI1 hc5)
    refine aw_aload_n (pc := 10) hX 0 dX7_comes_10 rfl rfl ?_
    refine aw_getR (pc := 11) hX dX7_comes_11 f_X7_29 rfl (by rfl) (q := 83) (by rfl) ?_
    refine aw_iconst (pc := 14) hX (3 : Int32) dX7_comes_14 (by decide) ?_
    refine aw_iload_n (pc := 15) hX 1 dX7_comes_15 rfl rfl ?_
    refine aw_iadd (pc := 16) hX dX7_comes_16 ?_
    obtain ⟨hv17, h⟩ := ite_g h
    refine aw_iaload (pc := 17) hX dX7_comes_17 (by rfl) (vinb_in hv17) ?_
    refine aw_if_eq (pc := 18) hX 24 dX7_comes_18 rfl (fun hc18 => ?_) (fun hc18 => ?_)
    · have h := ite_t h hc18
      refine aw_aload_n (pc := 24) hX 0 dX7_comes_24 rfl rfl ?_
      obtain ⟨r25, hq25, h⟩ := bind_s h
      refine aw_V0v (pc := 25) hX h_X7_notes l_X7_220 dX7_comes_25 (by rfl) (by decide) (by rfl) rfl rfl rfl (Nat.le_of_ble_eq_true rfl) (s_X7_notes  hq25) ?_
      refine aw_aload_n (pc := 28) hX 0 dX7_comes_28 rfl rfl ?_
      refine aw_getR (pc := 29) hX dX7_comes_29 f_X7_29 rfl (by rfl) (q := 83) (by rfl) ?_
      refine aw_iconst (pc := 32) hX (3 : Int32) dX7_comes_32 (by decide) ?_
      refine aw_iload_n (pc := 33) hX 1 dX7_comes_33 rfl rfl ?_
      refine aw_iadd (pc := 34) hX dX7_comes_34 ?_
      refine aw_iconst (pc := 35) hX (1 : Int32) dX7_comes_35 (by decide) ?_
      obtain ⟨hv36, h⟩ := ite_g h
      refine aw_iastore (pc := 36) hX dX7_comes_36 (by rfl) (vinb_in hv36) ?_
      obtain ⟨I36, hi36, h⟩ := bind_s h
      refine AW.iEq hi36 ?_
      refine aw_aload_n (pc := 37) hX 0 dX7_comes_37 rfl rfl ?_
      refine aw_iconst (pc := 38) hX (1 : Int32) dX7_comes_38 (by decide) ?_
      obtain ⟨r39, hq39, h⟩ := bind_s h
      refine aw_V1i (pc := 39) hX h_X7_those l_X7_214 dX7_comes_39 (by rfl) (by decide) (by rfl) rfl rfl rfl (Nat.le_of_ble_eq_true rfl) (s_X7_those  hq39) ?_
      obtain ⟨r42, hq42, h⟩ := bind_s h
      refine aw_S1i (pc := 42) hX h_X7_bits l_X7_195 dX7_comes_42 rfl rfl rfl (Nat.le_of_ble_eq_true rfl) (s_X7_bits  hq42) ?_
      have e := Option.some.inj h
      subst e
      exact aw_iret hX hZ dX7_comes_45 rfl rfl rfl rfl rfl rfl rfl (Nat.le_refl _)
    · have h := ite_f h hc18
      refine aw_bipush (pc := 21) hX (-2 : Int32) dX7_comes_21 (by decide) ?_
      have e := Option.some.inj h
      subst e
      exact aw_iret hX hZ dX7_comes_23 rfl rfl rfl rfl rfl rfl rfl (Nat.le_refl _)
  · have h := ite_f h (bI0 hc5)
    refine aw_iconst (pc := 8) hX (-1 : Int32) dX7_comes_8 (by decide) ?_
    have e := Option.some.inj h
    subst e
    exact aw_iret hX hZ dX7_comes_9 rfl rfl rfl rfl rfl rfl rfl (Nat.le_refl _)
def b_X7_says_168   (I : Hi) (b3 : Bool) (bs0 : Bool) (xs1 : Int32) (xs2 : Int32) : Option (Int32 × Hi) := if vinb xs2 21 then (some (u2 I (83) (xs2).toNatClampNeg (xs1 + (bI bs0)))).bind fun I169 => if b3 = true then (some ((1 : Int32), I169)) else (some ((0 : Int32), I169)) else none
set_option maxRecDepth 100000 in
set_option maxHeartbeats 4000000 in
theorem t_X7_says_168 {G : GP} {X : CX} (hX : XOK G X mi_X7_says) {c d : Nat} {L : Hl} {p : Int32 × Hi} (hZ : XZ G X mi_X7_says (some (.int p.1)) S0 p.2 (R0 c d) L) (I : Hi) (b3 : Bool) (bs0 : Bool) (xs1 : Int32) (xs2 : Int32) (h : b_X7_says_168 I b3 bs0 xs1 xs2 = some p) : AW G X 0 0 S0 I (R0 c d) L 168 [.null, .null, .null, .int (bI b3)] [.int (bI bs0), .int xs1, .int xs2, .ref 83] := by
  rw [b_X7_says_168] at h
  refine aw_iadd (pc := 168) hX dX7_says_168 ?_
  obtain ⟨hv169, h⟩ := ite_g h
  refine aw_iastore (pc := 169) hX dX7_says_169 (by rfl) (vinb_in hv169) ?_
  obtain ⟨I169, hi169, h⟩ := bind_s h
  refine AW.iEq hi169 ?_
  refine aw_iload_n (pc := 170) hX 3 dX7_says_170 rfl rfl ?_
  refine aw_if_eq (pc := 171) hX 178 dX7_says_171 rfl (fun hc171 => ?_) (fun hc171 => ?_)
  · have h := ite_f h (bI0 hc171)
    refine aw_iconst (pc := 178) hX (0 : Int32) dX7_says_178 (by decide) ?_
    have e := Option.some.inj h
    subst e
    exact aw_iret hX hZ dX7_says_179 rfl rfl rfl rfl rfl rfl rfl (Nat.le_refl _)
  · have h := ite_t h (bI1 hc171)
    refine aw_iconst (pc := 174) hX (1 : Int32) dX7_says_174 (by decide) ?_
    refine aw_goto (pc := 175) hX 179 dX7_says_175 rfl ?_
    have e := Option.some.inj h
    subst e
    exact aw_iret hX hZ dX7_says_179 rfl rfl rfl rfl rfl rfl rfl (Nat.le_refl _)
def b_X7_says_123   (I : Hi) (b3 : Bool) (bs0 : Bool) (xs1 : Int32) (xs2 : Int32) : Option (Int32 × Hi) := if vinb xs2 21 then (some (u2 I (83) (xs2).toNatClampNeg (xs1 + (bI bs0)))).bind fun I124 => if vinb (1 : Int32) 21 then if (I124 (77) 0) = (0 : Int32) then none else if vinb (1 : Int32) 21 then (some (u2 I124 (83) ((1 : Int32)).toNatClampNeg (((I124 (83) ((1 : Int32)).toNatClampNeg) + (1 : Int32)) - ((I124 (83) ((1 : Int32)).toNatClampNeg) + (1 : Int32)) / (I124 (77) 0) * (I124 (77) 0)))).bind fun I143 => if vinb (2 : Int32) 21 then if vinb (2 : Int32) 21 then if (999 : Int32) ≤ (I143 (83) ((2 : Int32)).toNatClampNeg) then (b_X7_says_168 I143 b3 false (I143 (83) ((2 : Int32)).toNatClampNeg) (2 : Int32)) else (b_X7_says_168 I143 b3 true (I143 (83) ((2 : Int32)).toNatClampNeg) (2 : Int32)) else none else none else none else none else none
set_option maxRecDepth 100000 in
set_option maxHeartbeats 4000000 in
theorem t_X7_says_123 {G : GP} {X : CX} (hX : XOK G X mi_X7_says) {c d : Nat} {L : Hl} {p : Int32 × Hi} (hZ : XZ G X mi_X7_says (some (.int p.1)) S0 p.2 (R0 c d) L) (I : Hi) (b3 : Bool) (bs0 : Bool) (xs1 : Int32) (xs2 : Int32) (h : b_X7_says_123 I b3 bs0 xs1 xs2 = some p) : AW G X 0 0 S0 I (R0 c d) L 123 [.ref 77, .null, .null, .int (bI b3)] [.int (bI bs0), .int xs1, .int xs2, .ref 83] := by
  rw [b_X7_says_123] at h
  refine aw_iadd (pc := 123) hX dX7_says_123 ?_
  obtain ⟨hv124, h⟩ := ite_g h
  refine aw_iastore (pc := 124) hX dX7_says_124 (by rfl) (vinb_in hv124) ?_
  obtain ⟨I124, hi124, h⟩ := bind_s h
  refine AW.iEq hi124 ?_
  refine aw_aload_n (pc := 125) hX 0 dX7_says_125 rfl rfl ?_
  refine aw_getR (pc := 126) hX dX7_says_126 f_X7_29 rfl (by rfl) (q := 83) (by rfl) ?_
  refine aw_iconst (pc := 129) hX (1 : Int32) dX7_says_129 (by decide) ?_
  refine aw_aload_n (pc := 130) hX 0 dX7_says_130 rfl rfl ?_
  refine aw_getR (pc := 131) hX dX7_says_131 f_X7_29 rfl (by rfl) (q := 83) (by rfl) ?_
  refine aw_iconst (pc := 134) hX (1 : Int32) dX7_says_134 (by decide) ?_
  obtain ⟨hv135, h⟩ := ite_g h
  refine aw_iaload (pc := 135) hX dX7_says_135 (by rfl) (vinb_in hv135) ?_
  refine aw_iconst (pc := 136) hX (1 : Int32) dX7_says_136 (by decide) ?_
  refine aw_iadd (pc := 137) hX dX7_says_137 ?_
  refine aw_aload_n (pc := 138) hX 0 dX7_says_138 rfl rfl ?_
  refine aw_getI (pc := 139) hX dX7_says_139 f_X7_164 rfl (by rfl) ?_
  obtain ⟨hne142, h⟩ := ite_n h
  refine aw_irem (pc := 142) hX dX7_says_142 hne142 ?_
  obtain ⟨hv143, h⟩ := ite_g h
  refine aw_iastore (pc := 143) hX dX7_says_143 (by rfl) (vinb_in hv143) ?_
  obtain ⟨I143, hi143, h⟩ := bind_s h
  refine AW.iEq hi143 ?_
  refine aw_aload_n (pc := 144) hX 0 dX7_says_144 rfl rfl ?_
  refine aw_getR (pc := 145) hX dX7_says_145 f_X7_29 rfl (by rfl) (q := 83) (by rfl) ?_
  refine aw_iconst (pc := 148) hX (2 : Int32) dX7_says_148 (by decide) ?_
  refine aw_dup2 (pc := 149) hX dX7_says_149 rfl rfl ?_
  obtain ⟨hv150, h⟩ := ite_g h
  refine aw_iaload (pc := 150) hX dX7_says_150 (by rfl) (vinb_in hv150) ?_
  refine aw_aload_n (pc := 151) hX 0 dX7_says_151 rfl rfl ?_
  refine aw_getR (pc := 152) hX dX7_says_152 f_X7_29 rfl (by rfl) (q := 83) (by rfl) ?_
  refine aw_iconst (pc := 155) hX (2 : Int32) dX7_says_155 (by decide) ?_
  obtain ⟨hv156, h⟩ := ite_g h
  refine aw_iaload (pc := 156) hX dX7_says_156 (by rfl) (vinb_in hv156) ?_
  refine aw_sipush (pc := 157) hX (999 : Int32) dX7_says_157 (by decide) ?_
  refine aw_icmp_ge (pc := 160) hX 167 dX7_says_160 rfl (fun hc160 => ?_) (fun hc160 => ?_)
  · have h := ite_t h hc160
    refine aw_iconst (pc := 167) hX (0 : Int32) dX7_says_167 (by decide) ?_
    exact AW.lo (t_X7_says_168 hX hZ I143 b3 false (I143 (83) ((2 : Int32)).toNatClampNeg) (2 : Int32) h) (And.intro (Or.inl rfl) (And.intro (Or.inl rfl) (And.intro (Or.inl rfl) (And.intro (Or.inr rfl) trivial))))
  · have h := ite_f h hc160
    refine aw_iconst (pc := 163) hX (1 : Int32) dX7_says_163 (by decide) ?_
    refine aw_goto (pc := 164) hX 168 dX7_says_164 rfl ?_
    exact AW.lo (t_X7_says_168 hX hZ I143 b3 true (I143 (83) ((2 : Int32)).toNatClampNeg) (2 : Int32) h) (And.intro (Or.inl rfl) (And.intro (Or.inl rfl) (And.intro (Or.inl rfl) (And.intro (Or.inr rfl) trivial))))
def b_X7_says_103   (I : Hi) (x1 : Int32) (b3 : Bool) (xs0 : Int32) (xs1 : Int32) : Option (Int32 × Hi) := if vinb xs1 21 then (some (u2 I (83) (xs1).toNatClampNeg xs0)).bind fun I103 => if vinb ((15 : Int32) + x1) 21 then if b3 = true then (b_X7_says_123 I103 b3 false (I103 (83) (((15 : Int32) + x1)).toNatClampNeg) ((15 : Int32) + x1)) else (b_X7_says_123 I103 b3 true (I103 (83) (((15 : Int32) + x1)).toNatClampNeg) ((15 : Int32) + x1)) else none else none
set_option maxRecDepth 100000 in
set_option maxHeartbeats 4000000 in
theorem t_X7_says_103 {G : GP} {X : CX} (hX : XOK G X mi_X7_says) {c d : Nat} {L : Hl} {p : Int32 × Hi} (hZ : XZ G X mi_X7_says (some (.int p.1)) S0 p.2 (R0 c d) L) (I : Hi) (x1 : Int32) (b3 : Bool) (xs0 : Int32) (xs1 : Int32) (h : b_X7_says_103 I x1 b3 xs0 xs1 = some p) : AW G X 0 0 S0 I (R0 c d) L 103 [.ref 77, .int x1, .null, .int (bI b3)] [.int xs0, .int xs1, .ref 83] := by
  rw [b_X7_says_103] at h
  obtain ⟨hv103, h⟩ := ite_g h
  refine aw_iastore (pc := 103) hX dX7_says_103 (by rfl) (vinb_in hv103) ?_
  obtain ⟨I103, hi103, h⟩ := bind_s h
  refine AW.iEq hi103 ?_
  refine aw_aload_n (pc := 104) hX 0 dX7_says_104 rfl rfl ?_
  refine aw_getR (pc := 105) hX dX7_says_105 f_X7_29 rfl (by rfl) (q := 83) (by rfl) ?_
  refine aw_bipush (pc := 108) hX (15 : Int32) dX7_says_108 (by decide) ?_
  refine aw_iload_n (pc := 110) hX 1 dX7_says_110 rfl rfl ?_
  refine aw_iadd (pc := 111) hX dX7_says_111 ?_
  refine aw_dup2 (pc := 112) hX dX7_says_112 rfl rfl ?_
  obtain ⟨hv113, h⟩ := ite_g h
  refine aw_iaload (pc := 113) hX dX7_says_113 (by rfl) (vinb_in hv113) ?_
  refine aw_iload_n (pc := 114) hX 3 dX7_says_114 rfl rfl ?_
  refine aw_if_eq (pc := 115) hX 122 dX7_says_115 rfl (fun hc115 => ?_) (fun hc115 => ?_)
  · have h := ite_f h (bI0 hc115)
    refine aw_iconst (pc := 122) hX (1 : Int32) dX7_says_122 (by decide) ?_
    exact AW.lo (t_X7_says_123 hX hZ I103 b3 true (I103 (83) (((15 : Int32) + x1)).toNatClampNeg) ((15 : Int32) + x1) h) (And.intro (Or.inr rfl) (And.intro (Or.inl rfl) (And.intro (Or.inl rfl) (And.intro (Or.inr rfl) trivial))))
  · have h := ite_t h (bI1 hc115)
    refine aw_iconst (pc := 118) hX (0 : Int32) dX7_says_118 (by decide) ?_
    refine aw_goto (pc := 119) hX 123 dX7_says_119 rfl ?_
    exact AW.lo (t_X7_says_123 hX hZ I103 b3 false (I103 (83) (((15 : Int32) + x1)).toNatClampNeg) ((15 : Int32) + x1) h) (And.intro (Or.inr rfl) (And.intro (Or.inl rfl) (And.intro (Or.inl rfl) (And.intro (Or.inr rfl) trivial))))
def b_X7_says_82   (I : Hi) (x1 : Int32) (b3 : Bool) (xs0 : Int32) (xs1 : Int32) : Option (Int32 × Hi) := if vinb xs1 21 then (some (u2 I (83) (xs1).toNatClampNeg xs0)).bind fun I82 => if b3 = true then (b_X7_says_103 I82 x1 b3 (0 : Int32) ((9 : Int32) + x1)) else (b_X7_says_103 I82 x1 b3 (I82 (77) 9) ((9 : Int32) + x1)) else none
set_option maxRecDepth 100000 in
set_option maxHeartbeats 4000000 in
theorem t_X7_says_82 {G : GP} {X : CX} (hX : XOK G X mi_X7_says) {c d : Nat} {L : Hl} {p : Int32 × Hi} (hZ : XZ G X mi_X7_says (some (.int p.1)) S0 p.2 (R0 c d) L) (I : Hi) (x1 : Int32) (b3 : Bool) (xs0 : Int32) (xs1 : Int32) (h : b_X7_says_82 I x1 b3 xs0 xs1 = some p) : AW G X 0 0 S0 I (R0 c d) L 82 [.ref 77, .int x1, .null, .int (bI b3)] [.int xs0, .int xs1, .ref 83] := by
  rw [b_X7_says_82] at h
  obtain ⟨hv82, h⟩ := ite_g h
  refine aw_iastore (pc := 82) hX dX7_says_82 (by rfl) (vinb_in hv82) ?_
  obtain ⟨I82, hi82, h⟩ := bind_s h
  refine AW.iEq hi82 ?_
  refine aw_aload_n (pc := 83) hX 0 dX7_says_83 rfl rfl ?_
  refine aw_getR (pc := 84) hX dX7_says_84 f_X7_29 rfl (by rfl) (q := 83) (by rfl) ?_
  refine aw_bipush (pc := 87) hX (9 : Int32) dX7_says_87 (by decide) ?_
  refine aw_iload_n (pc := 89) hX 1 dX7_says_89 rfl rfl ?_
  refine aw_iadd (pc := 90) hX dX7_says_90 ?_
  refine aw_iload_n (pc := 91) hX 3 dX7_says_91 rfl rfl ?_
  refine aw_if_eq (pc := 92) hX 99 dX7_says_92 rfl (fun hc92 => ?_) (fun hc92 => ?_)
  · have h := ite_f h (bI0 hc92)
    refine aw_aload_n (pc := 99) hX 0 dX7_says_99 rfl rfl ?_
    refine aw_getI (pc := 100) hX dX7_says_100 f_X7_25 rfl (by rfl) ?_
    exact AW.lo (t_X7_says_103 hX hZ I82 x1 b3 (I82 (77) 9) ((9 : Int32) + x1) h) (And.intro (Or.inr rfl) (And.intro (Or.inr rfl) (And.intro (Or.inl rfl) (And.intro (Or.inr rfl) trivial))))
  · have h := ite_t h (bI1 hc92)
    refine aw_iconst (pc := 95) hX (0 : Int32) dX7_says_95 (by decide) ?_
    refine aw_goto (pc := 96) hX 103 dX7_says_96 rfl ?_
    exact AW.lo (t_X7_says_103 hX hZ I82 x1 b3 (0 : Int32) ((9 : Int32) + x1) h) (And.intro (Or.inr rfl) (And.intro (Or.inr rfl) (And.intro (Or.inl rfl) (And.intro (Or.inr rfl) trivial))))
def f_X7_says (I : Hi) (x1 : Int32) (x2 : Int32) : Option (Int32 × Hi) := (f_X7_isOne I x1).bind fun r2 => if r2 = true then ((f_X7_isTaste x2).bind fun r9 => if r9 = true then (if vinb ((3 : Int32) + x1) 21 then if (I (83) (((3 : Int32) + x1)).toNatClampNeg) = (1 : Int32) then (if (I (77) 0) = (0 : Int32) then (some ((-2 : Int32), I)) else ((f_X7_notes I).bind fun r40 => if vinb x1 6 then if vinb (1 : Int32) 21 then if vinb (r40 (83) ((1 : Int32)).toNatClampNeg) 5 then (f_X7_has ((r40 (79) (x1).toNatClampNeg) &&& (r40 (78) ((r40 (83) ((1 : Int32)).toNatClampNeg)).toNatClampNeg)) x2).bind fun r62 => if r62 = true then (b_X7_says_82 r40 x1 r62 (3 : Int32) ((3 : Int32) + x1)) else (b_X7_says_82 r40 x1 r62 (2 : Int32) ((3 : Int32) + x1)) else none else none else none)) else (some ((-2 : Int32), I)) else none) else (some ((-1 : Int32), I))) else (some ((-1 : Int32), I))
set_option maxRecDepth 100000 in
set_option maxHeartbeats 4000000 in
theorem s_X7_says {G : GP} {c d : Nat} {I : Hi} {L : Hl} {x1 : Int32} {x2 : Int32} {p : Int32 × Hi} (h : f_X7_says I x1 x2 = some p) : CD G mi_X7_says [.ref 77, .int x1, .int x2] S0 I (R0 c d) L (some (.int p.1)) S0 p.2 (R0 c d) L := by
  refine CD.intro 1 rfl (by decide) rfl fun X hX hZ => ?_
  rw [f_X7_says] at h
  show AW G X 0 0 S0 I (R0 c d) L 0 [.ref 77, .int x1, .int x2, .null] []
  refine aw_aload_n (pc := 0) hX 0 dX7_says_0 rfl rfl ?_
  refine aw_iload_n (pc := 1) hX 1 dX7_says_1 rfl rfl ?_
  obtain ⟨r2, hq2, h⟩ := bind_s h
  refine aw_V1i (pc := 2) hX h_X7_isOne l_X7_205 dX7_says_2 (by rfl) (by decide) (by rfl) rfl rfl rfl (Nat.le_of_ble_eq_true rfl) (s_X7_isOne  hq2) ?_
  refine aw_if_eq (pc := 5) hX 15 dX7_says_5 rfl (fun hc5 => ?_) (fun hc5 => ?_)
  · have h := ite_f h (bI0 hc5)
    refine aw_iconst (pc := 15) hX (-1 : Int32) dX7_says_15 (by decide) ?_
    have e := Option.some.inj h
    subst e
    exact aw_iret hX hZ dX7_says_16 rfl rfl rfl rfl rfl rfl rfl (Nat.le_refl _)
  · have h := ite_t h (bI1 hc5)
    refine aw_iload_n (pc := 8) hX 2 dX7_says_8 rfl rfl ?_
    obtain ⟨r9, hq9, h⟩ := bind_s h
    refine aw_S1i (pc := 9) hX h_X7_isTaste l_X7_211 dX7_says_9 rfl rfl rfl (Nat.le_of_ble_eq_true rfl) (s_X7_isTaste  hq9) ?_
    refine aw_if_ne (pc := 12) hX 17 dX7_says_12 rfl (fun hc12 => ?_) (fun hc12 => ?_)
    · have h := ite_t h (bI1 hc12)
      refine aw_aload_n (pc := 17) hX 0 dX7_says_17 rfl rfl ?_
      refine aw_getR (pc := 18) hX dX7_says_18 f_X7_29 rfl (by rfl) (q := 83) (by rfl) ?_
      refine aw_iconst (pc := 21) hX (3 : Int32) dX7_says_21 (by decide) ?_
      refine aw_iload_n (pc := 22) hX 1 dX7_says_22 rfl rfl ?_
      refine aw_iadd (pc := 23) hX dX7_says_23 ?_
      obtain ⟨hv24, h⟩ := ite_g h
      refine aw_iaload (pc := 24) hX dX7_says_24 (by rfl) (vinb_in hv24) ?_
      refine aw_iconst (pc := 25) hX (1 : Int32) dX7_says_25 (by decide) ?_
      refine aw_icmp_ne (pc := 26) hX 36 dX7_says_26 rfl (fun hc26 => ?_) (fun hc26 => ?_)
      · have h := ite_f h hc26
        refine aw_bipush (pc := 36) hX (-2 : Int32) dX7_says_36 (by decide) ?_
        have e := Option.some.inj h
        subst e
        exact aw_iret hX hZ dX7_says_38 rfl rfl rfl rfl rfl rfl rfl (Nat.le_refl _)
      · have h := ite_t h hc26
        refine aw_aload_n (pc := 29) hX 0 dX7_says_29 rfl rfl ?_
        refine aw_getI (pc := 30) hX dX7_says_30 f_X7_164 rfl (by rfl) ?_
        refine aw_if_ne (pc := 33) hX 39 dX7_says_33 rfl (fun hc33 => ?_) (fun hc33 => ?_)
        · have h := ite_f h hc33
          refine aw_aload_n (pc := 39) hX 0 dX7_says_39 rfl rfl ?_
          obtain ⟨r40, hq40, h⟩ := bind_s h
          refine aw_V0v (pc := 40) hX h_X7_notes l_X7_220 dX7_says_40 (by rfl) (by decide) (by rfl) rfl rfl rfl (Nat.le_of_ble_eq_true rfl) (s_X7_notes  hq40) ?_
          refine aw_aload_n (pc := 43) hX 0 dX7_says_43 rfl rfl ?_
          refine aw_getR (pc := 44) hX dX7_says_44 f_X7_13 rfl (by rfl) (q := 79) (by rfl) ?_
          refine aw_iload_n (pc := 47) hX 1 dX7_says_47 rfl rfl ?_
          obtain ⟨hv48, h⟩ := ite_g h
          refine aw_iaload (pc := 48) hX dX7_says_48 (by rfl) (vinb_in hv48) ?_
          refine aw_aload_n (pc := 49) hX 0 dX7_says_49 rfl rfl ?_
          refine aw_getR (pc := 50) hX dX7_says_50 f_X7_7 rfl (by rfl) (q := 78) (by rfl) ?_
          refine aw_aload_n (pc := 53) hX 0 dX7_says_53 rfl rfl ?_
          refine aw_getR (pc := 54) hX dX7_says_54 f_X7_29 rfl (by rfl) (q := 83) (by rfl) ?_
          refine aw_iconst (pc := 57) hX (1 : Int32) dX7_says_57 (by decide) ?_
          obtain ⟨hv58, h⟩ := ite_g h
          refine aw_iaload (pc := 58) hX dX7_says_58 (by rfl) (vinb_in hv58) ?_
          obtain ⟨hv59, h⟩ := ite_g h
          refine aw_iaload (pc := 59) hX dX7_says_59 (by rfl) (vinb_in hv59) ?_
          refine aw_iand (pc := 60) hX dX7_says_60 ?_
          refine aw_iload_n (pc := 61) hX 2 dX7_says_61 rfl rfl ?_
          obtain ⟨r62, hq62, h⟩ := bind_s h
          refine aw_S2i (pc := 62) hX h_X7_has l_X7_69 dX7_says_62 rfl rfl rfl (Nat.le_of_ble_eq_true rfl) (s_X7_has  hq62) ?_
          refine aw_istore_nE (pc := 65) hX 3 [.ref 77, .int x1, .int x2, .int (bI r62)] dX7_says_65 rfl (by decide) rfl rfl ?_
          refine aw_aload_n (pc := 66) hX 0 dX7_says_66 rfl rfl ?_
          refine aw_getR (pc := 67) hX dX7_says_67 f_X7_29 rfl (by rfl) (q := 83) (by rfl) ?_
          refine aw_iconst (pc := 70) hX (3 : Int32) dX7_says_70 (by decide) ?_
          refine aw_iload_n (pc := 71) hX 1 dX7_says_71 rfl rfl ?_
          refine aw_iadd (pc := 72) hX dX7_says_72 ?_
          refine aw_iload_n (pc := 73) hX 3 dX7_says_73 rfl rfl ?_
          refine aw_if_eq (pc := 74) hX 81 dX7_says_74 rfl (fun hc74 => ?_) (fun hc74 => ?_)
          · have h := ite_f h (bI0 hc74)
            refine aw_iconst (pc := 81) hX (2 : Int32) dX7_says_81 (by decide) ?_
            exact AW.lo (t_X7_says_82 hX hZ r40 x1 r62 (2 : Int32) ((3 : Int32) + x1) h) (And.intro (Or.inr rfl) (And.intro (Or.inr rfl) (And.intro (Or.inl rfl) (And.intro (Or.inr rfl) trivial))))
          · have h := ite_t h (bI1 hc74)
            refine aw_iconst (pc := 77) hX (3 : Int32) dX7_says_77 (by decide) ?_
            refine aw_goto (pc := 78) hX 82 dX7_says_78 rfl ?_
            exact AW.lo (t_X7_says_82 hX hZ r40 x1 r62 (3 : Int32) ((3 : Int32) + x1) h) (And.intro (Or.inr rfl) (And.intro (Or.inr rfl) (And.intro (Or.inl rfl) (And.intro (Or.inr rfl) trivial))))
        · have h := ite_t h hc33
          refine aw_bipush (pc := 36) hX (-2 : Int32) dX7_says_36 (by decide) ?_
          have e := Option.some.inj h
          subst e
          exact aw_iret hX hZ dX7_says_38 rfl rfl rfl rfl rfl rfl rfl (Nat.le_refl _)
    · have h := ite_f h (bI0 hc12)
      refine aw_iconst (pc := 15) hX (-1 : Int32) dX7_says_15 (by decide) ?_
      have e := Option.some.inj h
      subst e
      exact aw_iret hX hZ dX7_says_16 rfl rfl rfl rfl rfl rfl rfl (Nat.le_refl _)
def b_X7_minutes_135   (I : Hi) : Option (Int32 × Hi) := (f_X7_those I (1 : Int32)).bind fun r137 => (f_X7_bits r137).bind fun r140 => some (r140, I)
set_option maxRecDepth 100000 in
set_option maxHeartbeats 4000000 in
theorem t_X7_minutes_135 {G : GP} {X : CX} (hX : XOK G X mi_X7_minutes) {c d : Nat} {L : Hl} {p : Int32 × Hi} (hZ : XZ G X mi_X7_minutes (some (.int p.1)) S0 p.2 (R0 c d) L) (I : Hi) (h : b_X7_minutes_135 I = some p) : AW G X 0 0 S0 I (R0 c d) L 135 [.ref 77, .null, .null] [] := by
  rw [b_X7_minutes_135] at h
  refine aw_aload_n (pc := 135) hX 0 dX7_minutes_135 rfl rfl ?_
  refine aw_iconst (pc := 136) hX (1 : Int32) dX7_minutes_136 (by decide) ?_
  obtain ⟨r137, hq137, h⟩ := bind_s h
  refine aw_V1i (pc := 137) hX h_X7_those l_X7_214 dX7_minutes_137 (by rfl) (by decide) (by rfl) rfl rfl rfl (Nat.le_of_ble_eq_true rfl) (s_X7_those  hq137) ?_
  obtain ⟨r140, hq140, h⟩ := bind_s h
  refine aw_S1i (pc := 140) hX h_X7_bits l_X7_195 dX7_minutes_140 rfl rfl rfl (Nat.le_of_ble_eq_true rfl) (s_X7_bits  hq140) ?_
  have e := Option.some.inj h
  subst e
  exact aw_iret hX hZ dX7_minutes_143 rfl rfl rfl rfl rfl rfl rfl (Nat.le_refl _)
def b_X7_minutes_129  (k47 : Hi → Int32 → Int32 → Option (Int32 × Hi)) (I : Hi) (x1 : Int32) (x2 : Int32) : Option (Int32 × Hi) := k47 I x1 (x2 + 1)
set_option maxRecDepth 100000 in
set_option maxHeartbeats 4000000 in
theorem t_X7_minutes_129 {G : GP} {X : CX} (hX : XOK G X mi_X7_minutes) {c d : Nat} {L : Hl} {p : Int32 × Hi} (hZ : XZ G X mi_X7_minutes (some (.int p.1)) S0 p.2 (R0 c d) L) {k47 : Hi → Int32 → Int32 → Option (Int32 × Hi)} (hk47 : ∀ (I : Hi) (x1 : Int32) (x2 : Int32), k47 I x1 x2 = some p → AW G X 0 0 S0 I (R0 c d) L 47 [.ref 77, .int x1, .int x2] []) (I : Hi) (x1 : Int32) (x2 : Int32) (h : b_X7_minutes_129 k47 I x1 x2 = some p) : AW G X 0 0 S0 I (R0 c d) L 129 [.ref 77, .int x1, .int x2] [] := by
  rw [b_X7_minutes_129] at h
  refine aw_iincE (pc := 129) hX (x2 + 1) [.ref 77, .int x1, .int (x2 + 1)] dX7_minutes_129 rfl rfl (by decide) rfl rfl ?_
  refine aw_goto (pc := 132) hX 47 dX7_minutes_132 rfl ?_
  exact AW.lo (hk47 I x1 (x2 + 1)  h) (And.intro (Or.inr rfl) (And.intro (Or.inr rfl) (And.intro (Or.inr rfl) trivial)))
def b_X7_minutes_128  (k47 : Hi → Int32 → Int32 → Option (Int32 × Hi)) (I : Hi) (x1 : Int32) (x2 : Int32) (xs0 : Int32) (xs1 : Int32) : Option (Int32 × Hi) := if vinb xs1 21 then (some (u2 I (83) (xs1).toNatClampNeg xs0)).bind fun I128 => b_X7_minutes_129 (k47) I128 x1 x2 else none
set_option maxRecDepth 100000 in
set_option maxHeartbeats 4000000 in
theorem t_X7_minutes_128 {G : GP} {X : CX} (hX : XOK G X mi_X7_minutes) {c d : Nat} {L : Hl} {p : Int32 × Hi} (hZ : XZ G X mi_X7_minutes (some (.int p.1)) S0 p.2 (R0 c d) L) {k47 : Hi → Int32 → Int32 → Option (Int32 × Hi)} (hk47 : ∀ (I : Hi) (x1 : Int32) (x2 : Int32), k47 I x1 x2 = some p → AW G X 0 0 S0 I (R0 c d) L 47 [.ref 77, .int x1, .int x2] []) (I : Hi) (x1 : Int32) (x2 : Int32) (xs0 : Int32) (xs1 : Int32) (h : b_X7_minutes_128 k47 I x1 x2 xs0 xs1 = some p) : AW G X 0 0 S0 I (R0 c d) L 128 [.ref 77, .int x1, .int x2] [.int xs0, .int xs1, .ref 83] := by
  rw [b_X7_minutes_128] at h
  obtain ⟨hv128, h⟩ := ite_g h
  refine aw_iastore (pc := 128) hX dX7_minutes_128 (by rfl) (vinb_in hv128) ?_
  obtain ⟨I128, hi128, h⟩ := bind_s h
  refine AW.iEq hi128 ?_
  exact AW.lo (t_X7_minutes_129 hX hZ (hk47) I128 x1 x2 h) (And.intro (Or.inr rfl) (And.intro (Or.inr rfl) (And.intro (Or.inr rfl) trivial)))
def b_X7_minutes_103  (k47 : Hi → Int32 → Int32 → Option (Int32 × Hi)) (I : Hi) (x1 : Int32) (x2 : Int32) (xs0 : Int32) (xs1 : Int32) : Option (Int32 × Hi) := if vinb xs1 21 then (some (u2 I (83) (xs1).toNatClampNeg xs0)).bind fun I103 => if vinb ((9 : Int32) + x2) 21 then if (I103 (83) (((9 : Int32) + x2)).toNatClampNeg) = (0 : Int32) then (b_X7_minutes_128 (k47) I103 x1 x2 (1 : Int32) ((3 : Int32) + x2)) else (b_X7_minutes_128 (k47) I103 x1 x2 (2 : Int32) ((3 : Int32) + x2)) else none else none
set_option maxRecDepth 100000 in
set_option maxHeartbeats 4000000 in
theorem t_X7_minutes_103 {G : GP} {X : CX} (hX : XOK G X mi_X7_minutes) {c d : Nat} {L : Hl} {p : Int32 × Hi} (hZ : XZ G X mi_X7_minutes (some (.int p.1)) S0 p.2 (R0 c d) L) {k47 : Hi → Int32 → Int32 → Option (Int32 × Hi)} (hk47 : ∀ (I : Hi) (x1 : Int32) (x2 : Int32), k47 I x1 x2 = some p → AW G X 0 0 S0 I (R0 c d) L 47 [.ref 77, .int x1, .int x2] []) (I : Hi) (x1 : Int32) (x2 : Int32) (xs0 : Int32) (xs1 : Int32) (h : b_X7_minutes_103 k47 I x1 x2 xs0 xs1 = some p) : AW G X 0 0 S0 I (R0 c d) L 103 [.ref 77, .int x1, .int x2] [.int xs0, .int xs1, .ref 83] := by
  rw [b_X7_minutes_103] at h
  obtain ⟨hv103, h⟩ := ite_g h
  refine aw_iastore (pc := 103) hX dX7_minutes_103 (by rfl) (vinb_in hv103) ?_
  obtain ⟨I103, hi103, h⟩ := bind_s h
  refine AW.iEq hi103 ?_
  refine aw_aload_n (pc := 104) hX 0 dX7_minutes_104 rfl rfl ?_
  refine aw_getR (pc := 105) hX dX7_minutes_105 f_X7_29 rfl (by rfl) (q := 83) (by rfl) ?_
  refine aw_iconst (pc := 108) hX (3 : Int32) dX7_minutes_108 (by decide) ?_
  refine aw_iload_n (pc := 109) hX 2 dX7_minutes_109 rfl rfl ?_
  refine aw_iadd (pc := 110) hX dX7_minutes_110 ?_
  refine aw_aload_n (pc := 111) hX 0 dX7_minutes_111 rfl rfl ?_
  refine aw_getR (pc := 112) hX dX7_minutes_112 f_X7_29 rfl (by rfl) (q := 83) (by rfl) ?_
  refine aw_bipush (pc := 115) hX (9 : Int32) dX7_minutes_115 (by decide) ?_
  refine aw_iload_n (pc := 117) hX 2 dX7_minutes_117 rfl rfl ?_
  refine aw_iadd (pc := 118) hX dX7_minutes_118 ?_
  obtain ⟨hv119, h⟩ := ite_g h
  refine aw_iaload (pc := 119) hX dX7_minutes_119 (by rfl) (vinb_in hv119) ?_
  refine aw_if_ne (pc := 120) hX 127 dX7_minutes_120 rfl (fun hc120 => ?_) (fun hc120 => ?_)
  · have h := ite_f h hc120
    refine aw_iconst (pc := 127) hX (2 : Int32) dX7_minutes_127 (by decide) ?_
    exact AW.lo (t_X7_minutes_128 hX hZ (hk47) I103 x1 x2 (2 : Int32) ((3 : Int32) + x2) h) (And.intro (Or.inr rfl) (And.intro (Or.inr rfl) (And.intro (Or.inr rfl) trivial)))
  · have h := ite_t h hc120
    refine aw_iconst (pc := 123) hX (1 : Int32) dX7_minutes_123 (by decide) ?_
    refine aw_goto (pc := 124) hX 128 dX7_minutes_124 rfl ?_
    exact AW.lo (t_X7_minutes_128 hX hZ (hk47) I103 x1 x2 (1 : Int32) ((3 : Int32) + x2) h) (And.intro (Or.inr rfl) (And.intro (Or.inr rfl) (And.intro (Or.inr rfl) trivial)))
def b_X7_minutes_47   : Nat → Hi → Int32 → Int32 → Option (Int32 × Hi)
  | 0, _, _, _ => none
  | n + 1, I, x1, x2 => if (I (77) 2) ≤ x2 then (b_X7_minutes_135 I) else (if vinb ((3 : Int32) + x2) 21 then if (I (83) (((3 : Int32) + x2)).toNatClampNeg) = (2 : Int32) then (if vinb ((9 : Int32) + x2) 21 then if (I (83) (((9 : Int32) + x2)).toNatClampNeg) ≤ x1 then (b_X7_minutes_103 (b_X7_minutes_47 n) I x1 x2 (0 : Int32) ((9 : Int32) + x2)) else (if vinb ((9 : Int32) + x2) 21 then b_X7_minutes_103 (b_X7_minutes_47 n) I x1 x2 ((I (83) (((9 : Int32) + x2)).toNatClampNeg) - x1) ((9 : Int32) + x2) else none) else none) else (b_X7_minutes_129 (b_X7_minutes_47 n) I x1 x2) else none)
set_option maxRecDepth 100000 in
set_option maxHeartbeats 4000000 in
theorem t_X7_minutes_47 {G : GP} {X : CX} (hX : XOK G X mi_X7_minutes) {c d : Nat} {L : Hl} {p : Int32 × Hi} (hZ : XZ G X mi_X7_minutes (some (.int p.1)) S0 p.2 (R0 c d) L) : ∀ (n : Nat) (I : Hi) (x1 : Int32) (x2 : Int32), b_X7_minutes_47 n I x1 x2 = some p → AW G X 0 0 S0 I (R0 c d) L 47 [.ref 77, .int x1, .int x2] [] := by
  intro n
  induction n with
  | zero => intro I x1 x2 h; cases h
  | succ n ih =>
    intro I x1 x2 h
    rw [b_X7_minutes_47] at h
    refine aw_iload_n (pc := 47) hX 2 dX7_minutes_47 rfl rfl ?_
    refine aw_aload_n (pc := 48) hX 0 dX7_minutes_48 rfl rfl ?_
    refine aw_getI (pc := 49) hX dX7_minutes_49 f_X7_167 rfl (by rfl) ?_
    refine aw_icmp_ge (pc := 52) hX 135 dX7_minutes_52 rfl (fun hc52 => ?_) (fun hc52 => ?_)
    · have h := ite_t h hc52
      exact AW.lo (t_X7_minutes_135 hX hZ I h) (And.intro (Or.inr rfl) (And.intro (Or.inl rfl) (And.intro (Or.inl rfl) trivial)))
    · have h := ite_f h hc52
      refine aw_aload_n (pc := 55) hX 0 dX7_minutes_55 rfl rfl ?_
      refine aw_getR (pc := 56) hX dX7_minutes_56 f_X7_29 rfl (by rfl) (q := 83) (by rfl) ?_
      refine aw_iconst (pc := 59) hX (3 : Int32) dX7_minutes_59 (by decide) ?_
      refine aw_iload_n (pc := 60) hX 2 dX7_minutes_60 rfl rfl ?_
      refine aw_iadd (pc := 61) hX dX7_minutes_61 ?_
      obtain ⟨hv62, h⟩ := ite_g h
      refine aw_iaload (pc := 62) hX dX7_minutes_62 (by rfl) (vinb_in hv62) ?_
      refine aw_iconst (pc := 63) hX (2 : Int32) dX7_minutes_63 (by decide) ?_
      refine aw_icmp_ne (pc := 64) hX 129 dX7_minutes_64 rfl (fun hc64 => ?_) (fun hc64 => ?_)
      · have h := ite_f h hc64
        exact AW.lo (t_X7_minutes_129 hX hZ (ih) I x1 x2 h) (And.intro (Or.inr rfl) (And.intro (Or.inr rfl) (And.intro (Or.inr rfl) trivial)))
      · have h := ite_t h hc64
        refine aw_aload_n (pc := 67) hX 0 dX7_minutes_67 rfl rfl ?_
        refine aw_getR (pc := 68) hX dX7_minutes_68 f_X7_29 rfl (by rfl) (q := 83) (by rfl) ?_
        refine aw_bipush (pc := 71) hX (9 : Int32) dX7_minutes_71 (by decide) ?_
        refine aw_iload_n (pc := 73) hX 2 dX7_minutes_73 rfl rfl ?_
        refine aw_iadd (pc := 74) hX dX7_minutes_74 ?_
        refine aw_aload_n (pc := 75) hX 0 dX7_minutes_75 rfl rfl ?_
        refine aw_getR (pc := 76) hX dX7_minutes_76 f_X7_29 rfl (by rfl) (q := 83) (by rfl) ?_
        refine aw_bipush (pc := 79) hX (9 : Int32) dX7_minutes_79 (by decide) ?_
        refine aw_iload_n (pc := 81) hX 2 dX7_minutes_81 rfl rfl ?_
        refine aw_iadd (pc := 82) hX dX7_minutes_82 ?_
        obtain ⟨hv83, h⟩ := ite_g h
        refine aw_iaload (pc := 83) hX dX7_minutes_83 (by rfl) (vinb_in hv83) ?_
        refine aw_iload_n (pc := 84) hX 1 dX7_minutes_84 rfl rfl ?_
        refine aw_icmp_le (pc := 85) hX 102 dX7_minutes_85 rfl (fun hc85 => ?_) (fun hc85 => ?_)
        · have h := ite_t h hc85
          refine aw_iconst (pc := 102) hX (0 : Int32) dX7_minutes_102 (by decide) ?_
          exact AW.lo (t_X7_minutes_103 hX hZ (ih) I x1 x2 (0 : Int32) ((9 : Int32) + x2) h) (And.intro (Or.inr rfl) (And.intro (Or.inr rfl) (And.intro (Or.inr rfl) trivial)))
        · have h := ite_f h hc85
          refine aw_aload_n (pc := 88) hX 0 dX7_minutes_88 rfl rfl ?_
          refine aw_getR (pc := 89) hX dX7_minutes_89 f_X7_29 rfl (by rfl) (q := 83) (by rfl) ?_
          refine aw_bipush (pc := 92) hX (9 : Int32) dX7_minutes_92 (by decide) ?_
          refine aw_iload_n (pc := 94) hX 2 dX7_minutes_94 rfl rfl ?_
          refine aw_iadd (pc := 95) hX dX7_minutes_95 ?_
          obtain ⟨hv96, h⟩ := ite_g h
          refine aw_iaload (pc := 96) hX dX7_minutes_96 (by rfl) (vinb_in hv96) ?_
          refine aw_iload_n (pc := 97) hX 1 dX7_minutes_97 rfl rfl ?_
          refine aw_isub (pc := 98) hX dX7_minutes_98 ?_
          refine aw_goto (pc := 99) hX 103 dX7_minutes_99 rfl ?_
          exact AW.lo (t_X7_minutes_103 hX hZ (ih) I x1 x2 ((I (83) (((9 : Int32) + x2)).toNatClampNeg) - x1) ((9 : Int32) + x2) h) (And.intro (Or.inr rfl) (And.intro (Or.inr rfl) (And.intro (Or.inr rfl) trivial)))
def f_X7_minutes (I : Hi) (x1 : Int32) : Option (Int32 × Hi) := (f_X7_in (x1).toInt64 (1 : Int64) (9 : Int64)).bind fun r6 => if r6 = true then (if vinb (0 : Int32) 21 then if ((I (83) ((0 : Int32)).toNatClampNeg) + x1) ≤ (999 : Int32) then ((f_X7_notes I).bind fun r32 => if vinb (0 : Int32) 21 then if vinb (0 : Int32) 21 then (some (u2 r32 (83) ((0 : Int32)).toNatClampNeg ((r32 (83) ((0 : Int32)).toNatClampNeg) + x1))).bind fun I44 => b_X7_minutes_47 2000 I44 x1 (0 : Int32) else none else none) else (some ((-2 : Int32), I)) else none) else (some ((-1 : Int32), I))
set_option maxRecDepth 100000 in
set_option maxHeartbeats 4000000 in
theorem s_X7_minutes {G : GP} {c d : Nat} {I : Hi} {L : Hl} {x1 : Int32} {p : Int32 × Hi} (h : f_X7_minutes I x1 = some p) : CD G mi_X7_minutes [.ref 77, .int x1] S0 I (R0 c d) L (some (.int p.1)) S0 p.2 (R0 c d) L := by
  refine CD.intro 1 rfl (by decide) rfl fun X hX hZ => ?_
  rw [f_X7_minutes] at h
  show AW G X 0 0 S0 I (R0 c d) L 0 [.ref 77, .int x1, .null] []
  refine aw_iload_n (pc := 0) hX 1 dX7_minutes_0 rfl rfl ?_
  refine aw_i2l (pc := 1) hX dX7_minutes_1 ?_
  refine aw_lconst (pc := 2) hX (1 : Int64) dX7_minutes_2 (by decide) ?_
  refine aw_ldc2 (pc := 3) hX dX7_minutes_3 v_X7_223 ?_
  obtain ⟨r6, hq6, h⟩ := bind_s h
  refine aw_S3i (pc := 6) hX h_X7_in l_X7_75 dX7_minutes_6 rfl rfl rfl (Nat.le_of_ble_eq_true rfl) (s_X7_in  hq6) ?_
  refine aw_if_ne (pc := 9) hX 14 dX7_minutes_9 rfl (fun hc9 => ?_) (fun hc9 => ?_)
  · have h := ite_t h (bI1 hc9)
    refine aw_aload_n (pc := 14) hX 0 dX7_minutes_14 rfl rfl ?_
    refine aw_getR (pc := 15) hX dX7_minutes_15 f_X7_29 rfl (by rfl) (q := 83) (by rfl) ?_
    refine aw_iconst (pc := 18) hX (0 : Int32) dX7_minutes_18 (by decide) ?_
    obtain ⟨hv19, h⟩ := ite_g h
    refine aw_iaload (pc := 19) hX dX7_minutes_19 (by rfl) (vinb_in hv19) ?_
    refine aw_iload_n (pc := 20) hX 1 dX7_minutes_20 rfl rfl ?_
    refine aw_iadd (pc := 21) hX dX7_minutes_21 ?_
    refine aw_sipush (pc := 22) hX (999 : Int32) dX7_minutes_22 (by decide) ?_
    refine aw_icmp_le (pc := 25) hX 31 dX7_minutes_25 rfl (fun hc25 => ?_) (fun hc25 => ?_)
    · have h := ite_t h hc25
      refine aw_aload_n (pc := 31) hX 0 dX7_minutes_31 rfl rfl ?_
      obtain ⟨r32, hq32, h⟩ := bind_s h
      refine aw_V0v (pc := 32) hX h_X7_notes l_X7_220 dX7_minutes_32 (by rfl) (by decide) (by rfl) rfl rfl rfl (Nat.le_of_ble_eq_true rfl) (s_X7_notes  hq32) ?_
      refine aw_aload_n (pc := 35) hX 0 dX7_minutes_35 rfl rfl ?_
      refine aw_getR (pc := 36) hX dX7_minutes_36 f_X7_29 rfl (by rfl) (q := 83) (by rfl) ?_
      refine aw_iconst (pc := 39) hX (0 : Int32) dX7_minutes_39 (by decide) ?_
      refine aw_dup2 (pc := 40) hX dX7_minutes_40 rfl rfl ?_
      obtain ⟨hv41, h⟩ := ite_g h
      refine aw_iaload (pc := 41) hX dX7_minutes_41 (by rfl) (vinb_in hv41) ?_
      refine aw_iload_n (pc := 42) hX 1 dX7_minutes_42 rfl rfl ?_
      refine aw_iadd (pc := 43) hX dX7_minutes_43 ?_
      obtain ⟨hv44, h⟩ := ite_g h
      refine aw_iastore (pc := 44) hX dX7_minutes_44 (by rfl) (vinb_in hv44) ?_
      obtain ⟨I44, hi44, h⟩ := bind_s h
      refine AW.iEq hi44 ?_
      refine aw_iconst (pc := 45) hX (0 : Int32) dX7_minutes_45 (by decide) ?_
      refine aw_istore_nE (pc := 46) hX 2 [.ref 77, .int x1, .int (0 : Int32)] dX7_minutes_46 rfl (by decide) rfl rfl ?_
      exact AW.lo (t_X7_minutes_47 hX hZ 2000 I44 x1 (0 : Int32) h) (And.intro (Or.inr rfl) (And.intro (Or.inr rfl) (And.intro (Or.inr rfl) trivial)))
    · have h := ite_f h hc25
      refine aw_bipush (pc := 28) hX (-2 : Int32) dX7_minutes_28 (by decide) ?_
      have e := Option.some.inj h
      subst e
      exact aw_iret hX hZ dX7_minutes_30 rfl rfl rfl rfl rfl rfl rfl (Nat.le_refl _)
  · have h := ite_f h (bI0 hc9)
    refine aw_iconst (pc := 12) hX (-1 : Int32) dX7_minutes_12 (by decide) ?_
    have e := Option.some.inj h
    subst e
    exact aw_iret hX hZ dX7_minutes_13 rfl rfl rfl rfl rfl rfl rfl (Nat.le_refl _)
def f_X7_undo (I : Hi)  : Option (Int32 × Hi) := if (I (77) 12) = (0 : Int32) then (some ((-2 : Int32), I)) else ((some (u2 I (77) 12 ((I (77) 12) - (1 : Int32)))).bind fun I17 => (f_X7_copies (84) 210 (83) 21 I17 ((21 : Int32) * (I17 (77) 12)) (0 : Int32) (21 : Int32)).bind fun r38 => some ((r38 (77) 12), r38))
set_option maxRecDepth 100000 in
set_option maxHeartbeats 4000000 in
theorem s_X7_undo {G : GP} {c d : Nat} {I : Hi} {L : Hl}  {p : Int32 × Hi} (h : f_X7_undo I = some p) : CD G mi_X7_undo [.ref 77] S0 I (R0 c d) L (some (.int p.1)) S0 p.2 (R0 c d) L := by
  refine CD.intro 0 rfl (by decide) rfl fun X hX hZ => ?_
  rw [f_X7_undo] at h
  show AW G X 0 0 S0 I (R0 c d) L 0 [.ref 77] []
  refine aw_aload_n (pc := 0) hX 0 dX7_undo_0 rfl rfl ?_
  refine aw_getI (pc := 1) hX dX7_undo_1 f_X7_180 rfl (by rfl) ?_
  refine aw_if_ne (pc := 4) hX 10 dX7_undo_4 rfl (fun hc4 => ?_) (fun hc4 => ?_)
  · have h := ite_f h hc4
    refine aw_aload_n (pc := 10) hX 0 dX7_undo_10 rfl rfl ?_
    refine aw_dup (pc := 11) hX dX7_undo_11 rfl ?_
    refine aw_getI (pc := 12) hX dX7_undo_12 f_X7_180 rfl (by rfl) ?_
    refine aw_iconst (pc := 15) hX (1 : Int32) dX7_undo_15 (by decide) ?_
    refine aw_isub (pc := 16) hX dX7_undo_16 ?_
    refine aw_putI (pc := 17) hX dX7_undo_17 f_X7_180 rfl rfl (by first | rfl | decide) (by first | rfl | decide) (by rfl) ?_
    obtain ⟨I17, hi17, h⟩ := bind_s h
    refine AW.iEq hi17 ?_
    refine aw_aload_n (pc := 20) hX 0 dX7_undo_20 rfl rfl ?_
    refine aw_getR (pc := 21) hX dX7_undo_21 f_X7_32 rfl (by rfl) (q := 84) (by rfl) ?_
    refine aw_bipush (pc := 24) hX (21 : Int32) dX7_undo_24 (by decide) ?_
    refine aw_aload_n (pc := 26) hX 0 dX7_undo_26 rfl rfl ?_
    refine aw_getI (pc := 27) hX dX7_undo_27 f_X7_180 rfl (by rfl) ?_
    refine aw_imul (pc := 30) hX dX7_undo_30 ?_
    refine aw_aload_n (pc := 31) hX 0 dX7_undo_31 rfl rfl ?_
    refine aw_getR (pc := 32) hX dX7_undo_32 f_X7_29 rfl (by rfl) (q := 83) (by rfl) ?_
    refine aw_iconst (pc := 35) hX (0 : Int32) dX7_undo_35 (by decide) ?_
    refine aw_bipush (pc := 36) hX (21 : Int32) dX7_undo_36 (by decide) ?_
    obtain ⟨r38, hq38, h⟩ := bind_s h
    refine aw_S5v (pc := 38) hX h_X7_copies l_X7_176 dX7_undo_38 rfl rfl rfl (Nat.le_of_ble_eq_true rfl) (s_X7_copies (by rfl) (by rfl) hq38) ?_
    refine aw_aload_n (pc := 41) hX 0 dX7_undo_41 rfl rfl ?_
    refine aw_getI (pc := 42) hX dX7_undo_42 f_X7_180 rfl (by rfl) ?_
    have e := Option.some.inj h
    subst e
    exact aw_iret hX hZ dX7_undo_45 rfl rfl rfl rfl rfl rfl rfl (Nat.le_refl _)
  · have h := ite_t h hc4
    refine aw_bipush (pc := 7) hX (-2 : Int32) dX7_undo_7 (by decide) ?_
    have e := Option.some.inj h
    subst e
    exact aw_iret hX hZ dX7_undo_9 rfl rfl rfl rfl rfl rfl rfl (Nat.le_refl _)
