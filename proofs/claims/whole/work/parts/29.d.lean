def b_X7_fewest_67 (I : Hi)  (x1 : Int32) (x2 : Int32) (x3 : Int32) (x4 : Int32) : Option (Int32) := if x2 = (0 : Int32) then (some ((x3 + (1 : Int32)))) else (if vinb x4 5 then if vinb x1 6 then (f_X7_lowest ((I (78) (x4).toNatClampNeg) &&& (I (79) (x1).toNatClampNeg))).bind fun r91 => some (r91) else none else none)
set_option maxRecDepth 100000 in
set_option maxHeartbeats 4000000 in
theorem t_X7_fewest_67 {G : GP} {X : CX} (hX : XOK G X mi_X7_fewest) {c d : Nat} {I : Hi} {L : Hl} {p : Int32} (hZ : XZ G X mi_X7_fewest (some (.int p)) S0 I (R0 c d) L) (x1 : Int32) (x2 : Int32) (x3 : Int32) (x4 : Int32) (h : b_X7_fewest_67 I x1 x2 x3 x4 = some p) : AW G X 0 0 S0 I (R0 c d) L 67 [.ref 77, .int x1, .int x2, .int x3, .int x4] [] := by
  rw [b_X7_fewest_67] at h
  refine aw_iload_n (pc := 67) hX 2 dX7_fewest_67 rfl rfl ?_
  refine aw_if_ne (pc := 68) hX 77 dX7_fewest_68 rfl (fun hc68 => ?_) (fun hc68 => ?_)
  · have h := ite_f h hc68
    refine aw_aload_n (pc := 77) hX 0 dX7_fewest_77 rfl rfl ?_
    refine aw_getR (pc := 78) hX dX7_fewest_78 f_X7_7 rfl (by rfl) (q := 78) (by rfl) ?_
    refine aw_iload (pc := 81) hX dX7_fewest_81 rfl ?_
    obtain ⟨hv83, h⟩ := ite_g h
    refine aw_iaload (pc := 83) hX dX7_fewest_83 (by rfl) (vinb_in hv83) ?_
    refine aw_aload_n (pc := 84) hX 0 dX7_fewest_84 rfl rfl ?_
    refine aw_getR (pc := 85) hX dX7_fewest_85 f_X7_13 rfl (by rfl) (q := 79) (by rfl) ?_
    refine aw_iload_n (pc := 88) hX 1 dX7_fewest_88 rfl rfl ?_
    obtain ⟨hv89, h⟩ := ite_g h
    refine aw_iaload (pc := 89) hX dX7_fewest_89 (by rfl) (vinb_in hv89) ?_
    refine aw_iand (pc := 90) hX dX7_fewest_90 ?_
    obtain ⟨r91, hq91, h⟩ := bind_s h
    refine aw_S1i (pc := 91) hX h_X7_lowest l_X7_225 dX7_fewest_91 rfl rfl rfl (Nat.le_of_ble_eq_true rfl) (s_X7_lowest  hq91) ?_
    have e := Option.some.inj h
    subst e
    exact aw_iret hX hZ dX7_fewest_94 rfl rfl rfl rfl rfl rfl rfl (Nat.le_refl _)
  · have h := ite_t h hc68
    refine aw_iload_n (pc := 71) hX 3 dX7_fewest_71 rfl rfl ?_
    refine aw_iconst (pc := 72) hX (1 : Int32) dX7_fewest_72 (by decide) ?_
    refine aw_iadd (pc := 73) hX dX7_fewest_73 ?_
    refine aw_goto (pc := 74) hX 94 dX7_fewest_74 rfl ?_
    have e := Option.some.inj h
    subst e
    exact aw_iret hX hZ dX7_fewest_94 rfl rfl rfl rfl rfl rfl rfl (Nat.le_refl _)
def b_X7_fewest_34 (I : Hi)  : Nat → Int32 → Int32 → Int32 → Option (Int32)
  | 0, _, _, _ => none
  | n + 1, x1, x2, x3 => if (I (77) 0) ≤ x3 then (some ((-9 : Int32))) else (if vinb (1 : Int32) 21 then if (I (77) 0) = (0 : Int32) then none else (f_X7_lets I (((I (83) ((1 : Int32)).toNatClampNeg) + x3) - ((I (83) ((1 : Int32)).toNatClampNeg) + x3) / (I (77) 0) * (I (77) 0)) x1).bind fun r61 => if r61 = true then (b_X7_fewest_67 I x1 x2 x3 (((I (83) ((1 : Int32)).toNatClampNeg) + x3) - ((I (83) ((1 : Int32)).toNatClampNeg) + x3) / (I (77) 0) * (I (77) 0))) else (b_X7_fewest_34 I n x1 x2 (x3 + 1)) else none)
set_option maxRecDepth 100000 in
set_option maxHeartbeats 4000000 in
theorem t_X7_fewest_34 {G : GP} {X : CX} (hX : XOK G X mi_X7_fewest) {c d : Nat} {I : Hi} {L : Hl} {p : Int32} (hZ : XZ G X mi_X7_fewest (some (.int p)) S0 I (R0 c d) L) : ∀ (n : Nat) (x1 : Int32) (x2 : Int32) (x3 : Int32), b_X7_fewest_34 I n x1 x2 x3 = some p → AW G X 0 0 S0 I (R0 c d) L 34 [.ref 77, .int x1, .int x2, .int x3, .null] [] := by
  intro n
  induction n with
  | zero => intro x1 x2 x3 h; cases h
  | succ n ih =>
    intro x1 x2 x3 h
    rw [b_X7_fewest_34] at h
    refine aw_iload_n (pc := 34) hX 3 dX7_fewest_34 rfl rfl ?_
    refine aw_aload_n (pc := 35) hX 0 dX7_fewest_35 rfl rfl ?_
    refine aw_getI (pc := 36) hX dX7_fewest_36 f_X7_164 rfl (by rfl) ?_
    refine aw_icmp_ge (pc := 39) hX 101 dX7_fewest_39 rfl (fun hc39 => ?_) (fun hc39 => ?_)
    · have h := ite_t h hc39
      refine aw_bipush (pc := 101) hX (-9 : Int32) dX7_fewest_101 (by decide) ?_
      have e := Option.some.inj h
      subst e
      exact aw_iret hX hZ dX7_fewest_103 rfl rfl rfl rfl rfl rfl rfl (Nat.le_refl _)
    · have h := ite_f h hc39
      refine aw_aload_n (pc := 42) hX 0 dX7_fewest_42 rfl rfl ?_
      refine aw_getR (pc := 43) hX dX7_fewest_43 f_X7_29 rfl (by rfl) (q := 83) (by rfl) ?_
      refine aw_iconst (pc := 46) hX (1 : Int32) dX7_fewest_46 (by decide) ?_
      obtain ⟨hv47, h⟩ := ite_g h
      refine aw_iaload (pc := 47) hX dX7_fewest_47 (by rfl) (vinb_in hv47) ?_
      refine aw_iload_n (pc := 48) hX 3 dX7_fewest_48 rfl rfl ?_
      refine aw_iadd (pc := 49) hX dX7_fewest_49 ?_
      refine aw_aload_n (pc := 50) hX 0 dX7_fewest_50 rfl rfl ?_
      refine aw_getI (pc := 51) hX dX7_fewest_51 f_X7_164 rfl (by rfl) ?_
      obtain ⟨hne54, h⟩ := ite_n h
      refine aw_irem (pc := 54) hX dX7_fewest_54 hne54 ?_
      refine aw_istoreE (pc := 55) hX [.ref 77, .int x1, .int x2, .int x3, .int (((I (83) ((1 : Int32)).toNatClampNeg) + x3) - ((I (83) ((1 : Int32)).toNatClampNeg) + x3) / (I (77) 0) * (I (77) 0))] dX7_fewest_55 (by decide) rfl rfl ?_
      refine aw_aload_n (pc := 57) hX 0 dX7_fewest_57 rfl rfl ?_
      refine aw_iload (pc := 58) hX dX7_fewest_58 rfl ?_
      refine aw_iload_n (pc := 60) hX 1 dX7_fewest_60 rfl rfl ?_
      obtain ⟨r61, hq61, h⟩ := bind_s h
      refine aw_V2i (pc := 61) hX h_X7_lets l_X7_188 dX7_fewest_61 (by rfl) (by decide) (by rfl) rfl rfl rfl (Nat.le_of_ble_eq_true rfl) (s_X7_lets  hq61) ?_
      refine aw_if_eq (pc := 64) hX 95 dX7_fewest_64 rfl (fun hc64 => ?_) (fun hc64 => ?_)
      · have h := ite_f h (bI0 hc64)
        refine aw_iincE (pc := 95) hX (x3 + 1) [.ref 77, .int x1, .int x2, .int (x3 + 1), .int (((I (83) ((1 : Int32)).toNatClampNeg) + x3) - ((I (83) ((1 : Int32)).toNatClampNeg) + x3) / (I (77) 0) * (I (77) 0))] dX7_fewest_95 rfl rfl (by decide) rfl rfl ?_
        refine aw_goto (pc := 98) hX 34 dX7_fewest_98 rfl ?_
        exact AW.lo (ih x1 x2 (x3 + 1)  h) (And.intro (Or.inr rfl) (And.intro (Or.inr rfl) (And.intro (Or.inr rfl) (And.intro (Or.inr rfl) (And.intro (Or.inl rfl) trivial)))))
      · have h := ite_t h (bI1 hc64)
        exact AW.lo (t_X7_fewest_67 hX hZ x1 x2 x3 (((I (83) ((1 : Int32)).toNatClampNeg) + x3) - ((I (83) ((1 : Int32)).toNatClampNeg) + x3) / (I (77) 0) * (I (77) 0)) h) (And.intro (Or.inr rfl) (And.intro (Or.inr rfl) (And.intro (Or.inr rfl) (And.intro (Or.inr rfl) (And.intro (Or.inr rfl) trivial)))))
def f_X7_fewest (I : Hi) (x1 : Int32) (x2 : Int32) : Option (Int32) := (f_X7_isOne I x1).bind fun r2 => if r2 = true then ((f_X7_isBit x2).bind fun r9 => if r9 = true then (if vinb ((3 : Int32) + x1) 21 then if (I (83) (((3 : Int32) + x1)).toNatClampNeg) = (3 : Int32) then (some ((-2 : Int32))) else (b_X7_fewest_34 I 2000 x1 x2 (0 : Int32)) else none) else (some ((-1 : Int32)))) else (some ((-1 : Int32)))
set_option maxRecDepth 100000 in
set_option maxHeartbeats 4000000 in
theorem s_X7_fewest {G : GP} {c d : Nat} {I : Hi} {L : Hl} {x1 : Int32} {x2 : Int32} {p : Int32} (h : f_X7_fewest I x1 x2 = some p) : CD G mi_X7_fewest [.ref 77, .int x1, .int x2] S0 I (R0 c d) L (some (.int p)) S0 I (R0 c d) L := by
  refine CD.intro 2 rfl (by decide) rfl fun X hX hZ => ?_
  rw [f_X7_fewest] at h
  show AW G X 0 0 S0 I (R0 c d) L 0 [.ref 77, .int x1, .int x2, .null, .null] []
  refine aw_aload_n (pc := 0) hX 0 dX7_fewest_0 rfl rfl ?_
  refine aw_iload_n (pc := 1) hX 1 dX7_fewest_1 rfl rfl ?_
  obtain ⟨r2, hq2, h⟩ := bind_s h
  refine aw_V1i (pc := 2) hX h_X7_isOne l_X7_205 dX7_fewest_2 (by rfl) (by decide) (by rfl) rfl rfl rfl (Nat.le_of_ble_eq_true rfl) (s_X7_isOne  hq2) ?_
  refine aw_if_eq (pc := 5) hX 15 dX7_fewest_5 rfl (fun hc5 => ?_) (fun hc5 => ?_)
  · have h := ite_f h (bI0 hc5)
    refine aw_iconst (pc := 15) hX (-1 : Int32) dX7_fewest_15 (by decide) ?_
    have e := Option.some.inj h
    subst e
    exact aw_iret hX hZ dX7_fewest_16 rfl rfl rfl rfl rfl rfl rfl (Nat.le_refl _)
  · have h := ite_t h (bI1 hc5)
    refine aw_iload_n (pc := 8) hX 2 dX7_fewest_8 rfl rfl ?_
    obtain ⟨r9, hq9, h⟩ := bind_s h
    refine aw_S1i (pc := 9) hX h_X7_isBit l_X7_202 dX7_fewest_9 rfl rfl rfl (Nat.le_of_ble_eq_true rfl) (s_X7_isBit  hq9) ?_
    refine aw_if_ne (pc := 12) hX 17 dX7_fewest_12 rfl (fun hc12 => ?_) (fun hc12 => ?_)
    · have h := ite_t h (bI1 hc12)
      refine aw_aload_n (pc := 17) hX 0 dX7_fewest_17 rfl rfl ?_
      refine aw_getR (pc := 18) hX dX7_fewest_18 f_X7_29 rfl (by rfl) (q := 83) (by rfl) ?_
      refine aw_iconst (pc := 21) hX (3 : Int32) dX7_fewest_21 (by decide) ?_
      refine aw_iload_n (pc := 22) hX 1 dX7_fewest_22 rfl rfl ?_
      refine aw_iadd (pc := 23) hX dX7_fewest_23 ?_
      obtain ⟨hv24, h⟩ := ite_g h
      refine aw_iaload (pc := 24) hX dX7_fewest_24 (by rfl) (vinb_in hv24) ?_
      refine aw_iconst (pc := 25) hX (3 : Int32) dX7_fewest_25 (by decide) ?_
      refine aw_icmp_ne (pc := 26) hX 32 dX7_fewest_26 rfl (fun hc26 => ?_) (fun hc26 => ?_)
      · have h := ite_f h hc26
        refine aw_iconst (pc := 32) hX (0 : Int32) dX7_fewest_32 (by decide) ?_
        refine aw_istore_nE (pc := 33) hX 3 [.ref 77, .int x1, .int x2, .int (0 : Int32), .null] dX7_fewest_33 rfl (by decide) rfl rfl ?_
        exact AW.lo (t_X7_fewest_34 hX hZ 2000 x1 x2 (0 : Int32) h) (And.intro (Or.inr rfl) (And.intro (Or.inr rfl) (And.intro (Or.inr rfl) (And.intro (Or.inr rfl) (And.intro (Or.inl rfl) trivial)))))
      · have h := ite_t h hc26
        refine aw_bipush (pc := 29) hX (-2 : Int32) dX7_fewest_29 (by decide) ?_
        have e := Option.some.inj h
        subst e
        exact aw_iret hX hZ dX7_fewest_31 rfl rfl rfl rfl rfl rfl rfl (Nat.le_refl _)
    · have h := ite_f h (bI0 hc12)
      refine aw_iconst (pc := 15) hX (-1 : Int32) dX7_fewest_15 (by decide) ?_
      have e := Option.some.inj h
      subst e
      exact aw_iret hX hZ dX7_fewest_16 rfl rfl rfl rfl rfl rfl rfl (Nat.le_refl _)
def b_X7_nextOrder_100   : Nat → Hi → Int32 → Int32 → Option (Bool × Hi)
  | 0, _, _, _ => none
  | n + 1, I, x5, x6 => if x6 ≤ x5 then (some (true, I)) else (if vinb x5 6 then if vinb x6 6 then if vinb x5 6 then (some (u2 I (94) (x5).toNatClampNeg (I (94) (x6).toNatClampNeg))).bind fun I129 => if vinb x6 6 then (some (u2 I129 (94) (x6).toNatClampNeg (I (94) (x5).toNatClampNeg))).bind fun I138 => b_X7_nextOrder_100 n I138 (x5 + 1) (x6 + (-1)) else none else none else none else none)
set_option maxRecDepth 100000 in
set_option maxHeartbeats 4000000 in
theorem t_X7_nextOrder_100 {G : GP} {X : CX} (hX : XOK G X mi_X7_nextOrder) {c d : Nat} {L : Hl} {p : Bool × Hi} (hZ : XZ G X mi_X7_nextOrder (some (.int (bI p.1))) S0 p.2 (R0 c d) L) : ∀ (n : Nat) (I : Hi) (x5 : Int32) (x6 : Int32), b_X7_nextOrder_100 n I x5 x6 = some p → AW G X 0 0 S0 I (R0 c d) L 100 [.ref 77, .null, .null, .null, .null, .int x5, .int x6] [] := by
  intro n
  induction n with
  | zero => intro I x5 x6 h; cases h
  | succ n ih =>
    intro I x5 x6 h
    rw [b_X7_nextOrder_100] at h
    refine aw_iload (pc := 100) hX dX7_nextOrder_100 rfl ?_
    refine aw_iload (pc := 102) hX dX7_nextOrder_102 rfl ?_
    refine aw_icmp_ge (pc := 104) hX 148 dX7_nextOrder_104 rfl (fun hc104 => ?_) (fun hc104 => ?_)
    · have h := ite_t h hc104
      refine aw_iconst (pc := 148) hX (1 : Int32) dX7_nextOrder_148 (by decide) ?_
      have e := Option.some.inj h
      subst e
      exact aw_zret hX hZ dX7_nextOrder_149 rfl (bI01 _) rfl rfl rfl rfl rfl rfl (Nat.le_refl _)
    · have h := ite_f h hc104
      refine aw_aload_n (pc := 107) hX 0 dX7_nextOrder_107 rfl rfl ?_
      refine aw_getR (pc := 108) hX dX7_nextOrder_108 f_X7_63 rfl (by rfl) (q := 94) (by rfl) ?_
      refine aw_iload (pc := 111) hX dX7_nextOrder_111 rfl ?_
      obtain ⟨hv113, h⟩ := ite_g h
      refine aw_iaload (pc := 113) hX dX7_nextOrder_113 (by rfl) (vinb_in hv113) ?_
      refine aw_istoreE (pc := 114) hX [.ref 77, .null, .null, .null, .int (I (94) (x5).toNatClampNeg), .int x5, .int x6] dX7_nextOrder_114 (by decide) rfl rfl ?_
      refine aw_aload_n (pc := 116) hX 0 dX7_nextOrder_116 rfl rfl ?_
      refine aw_getR (pc := 117) hX dX7_nextOrder_117 f_X7_63 rfl (by rfl) (q := 94) (by rfl) ?_
      refine aw_iload (pc := 120) hX dX7_nextOrder_120 rfl ?_
      refine aw_aload_n (pc := 122) hX 0 dX7_nextOrder_122 rfl rfl ?_
      refine aw_getR (pc := 123) hX dX7_nextOrder_123 f_X7_63 rfl (by rfl) (q := 94) (by rfl) ?_
      refine aw_iload (pc := 126) hX dX7_nextOrder_126 rfl ?_
      obtain ⟨hv128, h⟩ := ite_g h
      refine aw_iaload (pc := 128) hX dX7_nextOrder_128 (by rfl) (vinb_in hv128) ?_
      obtain ⟨hv129, h⟩ := ite_g h
      refine aw_iastore (pc := 129) hX dX7_nextOrder_129 (by rfl) (vinb_in hv129) ?_
      obtain ⟨I129, hi129, h⟩ := bind_s h
      refine AW.iEq hi129 ?_
      refine aw_aload_n (pc := 130) hX 0 dX7_nextOrder_130 rfl rfl ?_
      refine aw_getR (pc := 131) hX dX7_nextOrder_131 f_X7_63 rfl (by rfl) (q := 94) (by rfl) ?_
      refine aw_iload (pc := 134) hX dX7_nextOrder_134 rfl ?_
      refine aw_iload (pc := 136) hX dX7_nextOrder_136 rfl ?_
      obtain ⟨hv138, h⟩ := ite_g h
      refine aw_iastore (pc := 138) hX dX7_nextOrder_138 (by rfl) (vinb_in hv138) ?_
      obtain ⟨I138, hi138, h⟩ := bind_s h
      refine AW.iEq hi138 ?_
      refine aw_iincE (pc := 139) hX (x5 + 1) [.ref 77, .null, .null, .null, .int (I (94) (x5).toNatClampNeg), .int (x5 + 1), .int x6] dX7_nextOrder_139 rfl rfl (by decide) rfl rfl ?_
      refine aw_iincE (pc := 142) hX (x6 + (-1)) [.ref 77, .null, .null, .null, .int (I (94) (x5).toNatClampNeg), .int (x5 + 1), .int (x6 + (-1))] dX7_nextOrder_142 rfl rfl (by decide) rfl rfl ?_
      refine aw_goto (pc := 145) hX 100 dX7_nextOrder_145 rfl ?_
      exact AW.lo (ih I138 (x5 + 1) (x6 + (-1))  h) (And.intro (Or.inr rfl) (And.intro (Or.inl rfl) (And.intro (Or.inl rfl) (And.intro (Or.inl rfl) (And.intro (Or.inl rfl) (And.intro (Or.inr rfl) (And.intro (Or.inr rfl) trivial)))))))
def b_X7_nextOrder_62   (I : Hi) (x1 : Int32) (x2 : Int32) (x3 : Int32) : Option (Bool × Hi) := if vinb x2 6 then if vinb x3 6 then if vinb x2 6 then (some (u2 I (94) (x2).toNatClampNeg (I (94) (x3).toNatClampNeg))).bind fun I81 => if vinb x3 6 then (some (u2 I81 (94) (x3).toNatClampNeg (I (94) (x2).toNatClampNeg))).bind fun I89 => b_X7_nextOrder_100 2000 I89 (x2 + (1 : Int32)) (x1 - (1 : Int32)) else none else none else none else none
set_option maxRecDepth 100000 in
set_option maxHeartbeats 4000000 in
theorem t_X7_nextOrder_62 {G : GP} {X : CX} (hX : XOK G X mi_X7_nextOrder) {c d : Nat} {L : Hl} {p : Bool × Hi} (hZ : XZ G X mi_X7_nextOrder (some (.int (bI p.1))) S0 p.2 (R0 c d) L) (I : Hi) (x1 : Int32) (x2 : Int32) (x3 : Int32) (h : b_X7_nextOrder_62 I x1 x2 x3 = some p) : AW G X 0 0 S0 I (R0 c d) L 62 [.ref 77, .int x1, .int x2, .int x3, .null, .null, .null] [] := by
  rw [b_X7_nextOrder_62] at h
  refine aw_aload_n (pc := 62) hX 0 dX7_nextOrder_62 rfl rfl ?_
  refine aw_getR (pc := 63) hX dX7_nextOrder_63 f_X7_63 rfl (by rfl) (q := 94) (by rfl) ?_
  refine aw_iload_n (pc := 66) hX 2 dX7_nextOrder_66 rfl rfl ?_
  obtain ⟨hv67, h⟩ := ite_g h
  refine aw_iaload (pc := 67) hX dX7_nextOrder_67 (by rfl) (vinb_in hv67) ?_
  refine aw_istoreE (pc := 68) hX [.ref 77, .int x1, .int x2, .int x3, .int (I (94) (x2).toNatClampNeg), .null, .null] dX7_nextOrder_68 (by decide) rfl rfl ?_
  refine aw_aload_n (pc := 70) hX 0 dX7_nextOrder_70 rfl rfl ?_
  refine aw_getR (pc := 71) hX dX7_nextOrder_71 f_X7_63 rfl (by rfl) (q := 94) (by rfl) ?_
  refine aw_iload_n (pc := 74) hX 2 dX7_nextOrder_74 rfl rfl ?_
  refine aw_aload_n (pc := 75) hX 0 dX7_nextOrder_75 rfl rfl ?_
  refine aw_getR (pc := 76) hX dX7_nextOrder_76 f_X7_63 rfl (by rfl) (q := 94) (by rfl) ?_
  refine aw_iload_n (pc := 79) hX 3 dX7_nextOrder_79 rfl rfl ?_
  obtain ⟨hv80, h⟩ := ite_g h
  refine aw_iaload (pc := 80) hX dX7_nextOrder_80 (by rfl) (vinb_in hv80) ?_
  obtain ⟨hv81, h⟩ := ite_g h
  refine aw_iastore (pc := 81) hX dX7_nextOrder_81 (by rfl) (vinb_in hv81) ?_
  obtain ⟨I81, hi81, h⟩ := bind_s h
  refine AW.iEq hi81 ?_
  refine aw_aload_n (pc := 82) hX 0 dX7_nextOrder_82 rfl rfl ?_
  refine aw_getR (pc := 83) hX dX7_nextOrder_83 f_X7_63 rfl (by rfl) (q := 94) (by rfl) ?_
  refine aw_iload_n (pc := 86) hX 3 dX7_nextOrder_86 rfl rfl ?_
  refine aw_iload (pc := 87) hX dX7_nextOrder_87 rfl ?_
  obtain ⟨hv89, h⟩ := ite_g h
  refine aw_iastore (pc := 89) hX dX7_nextOrder_89 (by rfl) (vinb_in hv89) ?_
  obtain ⟨I89, hi89, h⟩ := bind_s h
  refine AW.iEq hi89 ?_
  refine aw_iload_n (pc := 90) hX 2 dX7_nextOrder_90 rfl rfl ?_
  refine aw_iconst (pc := 91) hX (1 : Int32) dX7_nextOrder_91 (by decide) ?_
  refine aw_iadd (pc := 92) hX dX7_nextOrder_92 ?_
  refine aw_istoreE (pc := 93) hX [.ref 77, .int x1, .int x2, .int x3, .int (I (94) (x2).toNatClampNeg), .int (x2 + (1 : Int32)), .null] dX7_nextOrder_93 (by decide) rfl rfl ?_
  refine aw_iload_n (pc := 95) hX 1 dX7_nextOrder_95 rfl rfl ?_
  refine aw_iconst (pc := 96) hX (1 : Int32) dX7_nextOrder_96 (by decide) ?_
  refine aw_isub (pc := 97) hX dX7_nextOrder_97 ?_
  refine aw_istoreE (pc := 98) hX [.ref 77, .int x1, .int x2, .int x3, .int (I (94) (x2).toNatClampNeg), .int (x2 + (1 : Int32)), .int (x1 - (1 : Int32))] dX7_nextOrder_98 (by decide) rfl rfl ?_
  exact AW.lo (t_X7_nextOrder_100 hX hZ 2000 I89 (x2 + (1 : Int32)) (x1 - (1 : Int32)) h) (And.intro (Or.inr rfl) (And.intro (Or.inl rfl) (And.intro (Or.inl rfl) (And.intro (Or.inl rfl) (And.intro (Or.inl rfl) (And.intro (Or.inr rfl) (And.intro (Or.inr rfl) trivial)))))))
def b_X7_nextOrder_41   : Nat → Hi → Int32 → Int32 → Int32 → Option (Bool × Hi)
  | 0, _, _, _, _ => none
  | n + 1, I, x1, x2, x3 => if vinb x3 6 then if vinb x2 6 then if (I (94) (x2).toNatClampNeg) ≤ (I (94) (x3).toNatClampNeg) then (b_X7_nextOrder_62 I x1 x2 x3) else (b_X7_nextOrder_41 n I x1 x2 (x3 + (-1))) else none else none
set_option maxRecDepth 100000 in
set_option maxHeartbeats 4000000 in
theorem t_X7_nextOrder_41 {G : GP} {X : CX} (hX : XOK G X mi_X7_nextOrder) {c d : Nat} {L : Hl} {p : Bool × Hi} (hZ : XZ G X mi_X7_nextOrder (some (.int (bI p.1))) S0 p.2 (R0 c d) L) : ∀ (n : Nat) (I : Hi) (x1 : Int32) (x2 : Int32) (x3 : Int32), b_X7_nextOrder_41 n I x1 x2 x3 = some p → AW G X 0 0 S0 I (R0 c d) L 41 [.ref 77, .int x1, .int x2, .int x3, .null, .null, .null] [] := by
  intro n
  induction n with
  | zero => intro I x1 x2 x3 h; cases h
  | succ n ih =>
    intro I x1 x2 x3 h
    rw [b_X7_nextOrder_41] at h
    refine aw_aload_n (pc := 41) hX 0 dX7_nextOrder_41 rfl rfl ?_
    refine aw_getR (pc := 42) hX dX7_nextOrder_42 f_X7_63 rfl (by rfl) (q := 94) (by rfl) ?_
    refine aw_iload_n (pc := 45) hX 3 dX7_nextOrder_45 rfl rfl ?_
    obtain ⟨hv46, h⟩ := ite_g h
    refine aw_iaload (pc := 46) hX dX7_nextOrder_46 (by rfl) (vinb_in hv46) ?_
    refine aw_aload_n (pc := 47) hX 0 dX7_nextOrder_47 rfl rfl ?_
    refine aw_getR (pc := 48) hX dX7_nextOrder_48 f_X7_63 rfl (by rfl) (q := 94) (by rfl) ?_
    refine aw_iload_n (pc := 51) hX 2 dX7_nextOrder_51 rfl rfl ?_
    obtain ⟨hv52, h⟩ := ite_g h
    refine aw_iaload (pc := 52) hX dX7_nextOrder_52 (by rfl) (vinb_in hv52) ?_
    refine aw_icmp_ge (pc := 53) hX 62 dX7_nextOrder_53 rfl (fun hc53 => ?_) (fun hc53 => ?_)
    · have h := ite_t h hc53
      exact AW.lo (t_X7_nextOrder_62 hX hZ I x1 x2 x3 h) (And.intro (Or.inr rfl) (And.intro (Or.inr rfl) (And.intro (Or.inr rfl) (And.intro (Or.inr rfl) (And.intro (Or.inl rfl) (And.intro (Or.inl rfl) (And.intro (Or.inl rfl) trivial)))))))
    · have h := ite_f h hc53
      refine aw_iincE (pc := 56) hX (x3 + (-1)) [.ref 77, .int x1, .int x2, .int (x3 + (-1)), .null, .null, .null] dX7_nextOrder_56 rfl rfl (by decide) rfl rfl ?_
      refine aw_goto (pc := 59) hX 41 dX7_nextOrder_59 rfl ?_
      exact AW.lo (ih I x1 x2 (x3 + (-1))  h) (And.intro (Or.inr rfl) (And.intro (Or.inr rfl) (And.intro (Or.inr rfl) (And.intro (Or.inr rfl) (And.intro (Or.inl rfl) (And.intro (Or.inl rfl) (And.intro (Or.inl rfl) trivial)))))))
def b_X7_nextOrder_31   (I : Hi) (x1 : Int32) (x2 : Int32) : Option (Bool × Hi) := if (0 : Int32) ≤ x2 then (b_X7_nextOrder_41 2000 I x1 x2 (x1 - (1 : Int32))) else (some (false, I))
set_option maxRecDepth 100000 in
set_option maxHeartbeats 4000000 in
theorem t_X7_nextOrder_31 {G : GP} {X : CX} (hX : XOK G X mi_X7_nextOrder) {c d : Nat} {L : Hl} {p : Bool × Hi} (hZ : XZ G X mi_X7_nextOrder (some (.int (bI p.1))) S0 p.2 (R0 c d) L) (I : Hi) (x1 : Int32) (x2 : Int32) (h : b_X7_nextOrder_31 I x1 x2 = some p) : AW G X 0 0 S0 I (R0 c d) L 31 [.ref 77, .int x1, .int x2, .null, .null, .null, .null] [] := by
  rw [b_X7_nextOrder_31] at h
  refine aw_iload_n (pc := 31) hX 2 dX7_nextOrder_31 rfl rfl ?_
  refine aw_if_ge (pc := 32) hX 37 dX7_nextOrder_32 rfl (fun hc32 => ?_) (fun hc32 => ?_)
  · have h := ite_t h hc32
    refine aw_iload_n (pc := 37) hX 1 dX7_nextOrder_37 rfl rfl ?_
    refine aw_iconst (pc := 38) hX (1 : Int32) dX7_nextOrder_38 (by decide) ?_
    refine aw_isub (pc := 39) hX dX7_nextOrder_39 ?_
    refine aw_istore_nE (pc := 40) hX 3 [.ref 77, .int x1, .int x2, .int (x1 - (1 : Int32)), .null, .null, .null] dX7_nextOrder_40 rfl (by decide) rfl rfl ?_
    exact AW.lo (t_X7_nextOrder_41 hX hZ 2000 I x1 x2 (x1 - (1 : Int32)) h) (And.intro (Or.inr rfl) (And.intro (Or.inr rfl) (And.intro (Or.inr rfl) (And.intro (Or.inr rfl) (And.intro (Or.inl rfl) (And.intro (Or.inl rfl) (And.intro (Or.inl rfl) trivial)))))))
  · have h := ite_f h hc32
    refine aw_iconst (pc := 35) hX (0 : Int32) dX7_nextOrder_35 (by decide) ?_
    have e := Option.some.inj h
    subst e
    exact aw_zret hX hZ dX7_nextOrder_36 rfl (bI01 _) rfl rfl rfl rfl rfl rfl (Nat.le_refl _)
def b_X7_nextOrder_4   : Nat → Hi → Int32 → Int32 → Option (Bool × Hi)
  | 0, _, _, _ => none
  | n + 1, I, x1, x2 => if x2 < (0 : Int32) then (b_X7_nextOrder_31 I x1 x2) else (if vinb x2 6 then if vinb (x2 + (1 : Int32)) 6 then if (I (94) (x2).toNatClampNeg) ≤ (I (94) ((x2 + (1 : Int32))).toNatClampNeg) then (b_X7_nextOrder_31 I x1 x2) else (b_X7_nextOrder_4 n I x1 (x2 + (-1))) else none else none)
set_option maxRecDepth 100000 in
set_option maxHeartbeats 4000000 in
theorem t_X7_nextOrder_4 {G : GP} {X : CX} (hX : XOK G X mi_X7_nextOrder) {c d : Nat} {L : Hl} {p : Bool × Hi} (hZ : XZ G X mi_X7_nextOrder (some (.int (bI p.1))) S0 p.2 (R0 c d) L) : ∀ (n : Nat) (I : Hi) (x1 : Int32) (x2 : Int32), b_X7_nextOrder_4 n I x1 x2 = some p → AW G X 0 0 S0 I (R0 c d) L 4 [.ref 77, .int x1, .int x2, .null, .null, .null, .null] [] := by
  intro n
  induction n with
  | zero => intro I x1 x2 h; cases h
  | succ n ih =>
    intro I x1 x2 h
    rw [b_X7_nextOrder_4] at h
    refine aw_iload_n (pc := 4) hX 2 dX7_nextOrder_4 rfl rfl ?_
    refine aw_if_lt (pc := 5) hX 31 dX7_nextOrder_5 rfl (fun hc5 => ?_) (fun hc5 => ?_)
    · have h := ite_t h hc5
      exact AW.lo (t_X7_nextOrder_31 hX hZ I x1 x2 h) (And.intro (Or.inr rfl) (And.intro (Or.inr rfl) (And.intro (Or.inr rfl) (And.intro (Or.inl rfl) (And.intro (Or.inl rfl) (And.intro (Or.inl rfl) (And.intro (Or.inl rfl) trivial)))))))
    · have h := ite_f h hc5
      refine aw_aload_n (pc := 8) hX 0 dX7_nextOrder_8 rfl rfl ?_
      refine aw_getR (pc := 9) hX dX7_nextOrder_9 f_X7_63 rfl (by rfl) (q := 94) (by rfl) ?_
      refine aw_iload_n (pc := 12) hX 2 dX7_nextOrder_12 rfl rfl ?_
      obtain ⟨hv13, h⟩ := ite_g h
      refine aw_iaload (pc := 13) hX dX7_nextOrder_13 (by rfl) (vinb_in hv13) ?_
      refine aw_aload_n (pc := 14) hX 0 dX7_nextOrder_14 rfl rfl ?_
      refine aw_getR (pc := 15) hX dX7_nextOrder_15 f_X7_63 rfl (by rfl) (q := 94) (by rfl) ?_
      refine aw_iload_n (pc := 18) hX 2 dX7_nextOrder_18 rfl rfl ?_
      refine aw_iconst (pc := 19) hX (1 : Int32) dX7_nextOrder_19 (by decide) ?_
      refine aw_iadd (pc := 20) hX dX7_nextOrder_20 ?_
      obtain ⟨hv21, h⟩ := ite_g h
      refine aw_iaload (pc := 21) hX dX7_nextOrder_21 (by rfl) (vinb_in hv21) ?_
      refine aw_icmp_le (pc := 22) hX 31 dX7_nextOrder_22 rfl (fun hc22 => ?_) (fun hc22 => ?_)
      · have h := ite_t h hc22
        exact AW.lo (t_X7_nextOrder_31 hX hZ I x1 x2 h) (And.intro (Or.inr rfl) (And.intro (Or.inr rfl) (And.intro (Or.inr rfl) (And.intro (Or.inl rfl) (And.intro (Or.inl rfl) (And.intro (Or.inl rfl) (And.intro (Or.inl rfl) trivial)))))))
      · have h := ite_f h hc22
        refine aw_iincE (pc := 25) hX (x2 + (-1)) [.ref 77, .int x1, .int (x2 + (-1)), .null, .null, .null, .null] dX7_nextOrder_25 rfl rfl (by decide) rfl rfl ?_
        refine aw_goto (pc := 28) hX 4 dX7_nextOrder_28 rfl ?_
        exact AW.lo (ih I x1 (x2 + (-1))  h) (And.intro (Or.inr rfl) (And.intro (Or.inr rfl) (And.intro (Or.inr rfl) (And.intro (Or.inl rfl) (And.intro (Or.inl rfl) (And.intro (Or.inl rfl) (And.intro (Or.inl rfl) trivial)))))))
def f_X7_nextOrder (I : Hi) (x1 : Int32) : Option (Bool × Hi) := b_X7_nextOrder_4 2000 I x1 (x1 - (2 : Int32))
set_option maxRecDepth 100000 in
set_option maxHeartbeats 4000000 in
theorem s_X7_nextOrder {G : GP} {c d : Nat} {I : Hi} {L : Hl} {x1 : Int32} {p : Bool × Hi} (h : f_X7_nextOrder I x1 = some p) : CD G mi_X7_nextOrder [.ref 77, .int x1] S0 I (R0 c d) L (some (.int (bI p.1))) S0 p.2 (R0 c d) L := by
  refine CD.intro 5 rfl (by decide) rfl fun X hX hZ => ?_
  rw [f_X7_nextOrder] at h
  show AW G X 0 0 S0 I (R0 c d) L 0 [.ref 77, .int x1, .null, .null, .null, .null, .null] []
  refine aw_iload_n (pc := 0) hX 1 dX7_nextOrder_0 rfl rfl ?_
  refine aw_iconst (pc := 1) hX (2 : Int32) dX7_nextOrder_1 (by decide) ?_
  refine aw_isub (pc := 2) hX dX7_nextOrder_2 ?_
  refine aw_istore_nE (pc := 3) hX 2 [.ref 77, .int x1, .int (x1 - (2 : Int32)), .null, .null, .null, .null] dX7_nextOrder_3 rfl (by decide) rfl rfl ?_
  exact AW.lo (t_X7_nextOrder_4 hX hZ 2000 I x1 (x1 - (2 : Int32)) h) (And.intro (Or.inr rfl) (And.intro (Or.inr rfl) (And.intro (Or.inr rfl) (And.intro (Or.inl rfl) (And.intro (Or.inl rfl) (And.intro (Or.inl rfl) (And.intro (Or.inl rfl) trivial)))))))
def b_X7_line_162   (I : Hi) (x1 : Int32) (x2 : Int32) (x3 : Int32) : Option (Int32 × Hi) := if x1 = (-1 : Int32) then (some (x3, I)) else (if x2 ≤ x1 then (some ((-9 : Int32), I)) else (if vinb x1 6 then some ((I (95) (x1).toNatClampNeg), I) else none))
set_option maxRecDepth 100000 in
set_option maxHeartbeats 4000000 in
theorem t_X7_line_162 {G : GP} {X : CX} (hX : XOK G X mi_X7_line) {c d : Nat} {L : Hl} {p : Int32 × Hi} (hZ : XZ G X mi_X7_line (some (.int p.1)) S0 p.2 (R0 c d) L) (I : Hi) (x1 : Int32) (x2 : Int32) (x3 : Int32) (h : b_X7_line_162 I x1 x2 x3 = some p) : AW G X 0 0 S0 I (R0 c d) L 162 [.ref 77, .int x1, .int x2, .int x3, .null, .null, .null] [] := by
  rw [b_X7_line_162] at h
  refine aw_iload_n (pc := 162) hX 1 dX7_line_162 rfl rfl ?_
  refine aw_iconst (pc := 163) hX (-1 : Int32) dX7_line_163 (by decide) ?_
  refine aw_icmp_ne (pc := 164) hX 171 dX7_line_164 rfl (fun hc164 => ?_) (fun hc164 => ?_)
  · have h := ite_f h hc164
    refine aw_iload_n (pc := 171) hX 1 dX7_line_171 rfl rfl ?_
    refine aw_iload_n (pc := 172) hX 2 dX7_line_172 rfl rfl ?_
    refine aw_icmp_ge (pc := 173) hX 185 dX7_line_173 rfl (fun hc173 => ?_) (fun hc173 => ?_)
    · have h := ite_t h hc173
      refine aw_bipush (pc := 185) hX (-9 : Int32) dX7_line_185 (by decide) ?_
      have e := Option.some.inj h
      subst e
      exact aw_iret hX hZ dX7_line_187 rfl rfl rfl rfl rfl rfl rfl (Nat.le_refl _)
    · have h := ite_f h hc173
      refine aw_aload_n (pc := 176) hX 0 dX7_line_176 rfl rfl ?_
      refine aw_getR (pc := 177) hX dX7_line_177 f_X7_66 rfl (by rfl) (q := 95) (by rfl) ?_
      refine aw_iload_n (pc := 180) hX 1 dX7_line_180 rfl rfl ?_
      obtain ⟨hv181, h⟩ := ite_g h
      refine aw_iaload (pc := 181) hX dX7_line_181 (by rfl) (vinb_in hv181) ?_
      refine aw_goto (pc := 182) hX 187 dX7_line_182 rfl ?_
      have e := Option.some.inj h
      subst e
      exact aw_iret hX hZ dX7_line_187 rfl rfl rfl rfl rfl rfl rfl (Nat.le_refl _)
  · have h := ite_t h hc164
    refine aw_iload_n (pc := 167) hX 3 dX7_line_167 rfl rfl ?_
    refine aw_goto (pc := 168) hX 187 dX7_line_168 rfl ?_
    have e := Option.some.inj h
    subst e
    exact aw_iret hX hZ dX7_line_187 rfl rfl rfl rfl rfl rfl rfl (Nat.le_refl _)
def b_X7_line_152  (k61 : Hi → Int32 → Int32 → Int32 → Bool → Option (Int32 × Hi)) (I : Hi) (x1 : Int32) (x2 : Int32) (x3 : Int32) : Option (Int32 × Hi) := (f_X7_nextOrder I x2).bind fun r154 => k61 r154.2 x1 x2 x3 r154.1
set_option maxRecDepth 100000 in
set_option maxHeartbeats 4000000 in
theorem t_X7_line_152 {G : GP} {X : CX} (hX : XOK G X mi_X7_line) {c d : Nat} {L : Hl} {p : Int32 × Hi} (hZ : XZ G X mi_X7_line (some (.int p.1)) S0 p.2 (R0 c d) L) {k61 : Hi → Int32 → Int32 → Int32 → Bool → Option (Int32 × Hi)} (hk61 : ∀ (I : Hi) (x1 : Int32) (x2 : Int32) (x3 : Int32) (b4 : Bool), k61 I x1 x2 x3 b4 = some p → AW G X 0 0 S0 I (R0 c d) L 61 [.ref 77, .int x1, .int x2, .int x3, .int (bI b4), .null, .null] []) (I : Hi) (x1 : Int32) (x2 : Int32) (x3 : Int32) (h : b_X7_line_152 k61 I x1 x2 x3 = some p) : AW G X 0 0 S0 I (R0 c d) L 152 [.ref 77, .int x1, .int x2, .int x3, .null, .null, .null] [] := by
  rw [b_X7_line_152] at h
  refine aw_aload_n (pc := 152) hX 0 dX7_line_152 rfl rfl ?_
  refine aw_iload_n (pc := 153) hX 2 dX7_line_153 rfl rfl ?_
  obtain ⟨r154, hq154, h⟩ := bind_s h
  refine aw_V1i (pc := 154) hX h_X7_nextOrder l_X7_230 dX7_line_154 (by rfl) (by decide) (by rfl) rfl rfl rfl (Nat.le_of_ble_eq_true rfl) (s_X7_nextOrder  hq154) ?_
  refine aw_istoreE (pc := 157) hX [.ref 77, .int x1, .int x2, .int x3, .int (bI r154.1), .null, .null] dX7_line_157 (by decide) rfl rfl ?_
  refine aw_goto (pc := 159) hX 61 dX7_line_159 rfl ?_
  exact AW.lo (hk61 r154.2 x1 x2 x3 r154.1  h) (And.intro (Or.inr rfl) (And.intro (Or.inr rfl) (And.intro (Or.inr rfl) (And.intro (Or.inr rfl) (And.intro (Or.inr rfl) (And.intro (Or.inl rfl) (And.intro (Or.inl rfl) trivial)))))))
def b_X7_line_129  (k61 : Hi → Int32 → Int32 → Int32 → Bool → Option (Int32 × Hi)) (I : Hi) (x1 : Int32) (x2 : Int32) (x3 : Int32) (x5 : Int32) : Option (Int32 × Hi) := if x5 ≤ x3 then (b_X7_line_152 (k61) I x1 x2 x3) else ((f_X7_copies (94) 6 (95) 6 I (0 : Int32) (0 : Int32) x2).bind fun r149 => b_X7_line_152 (k61) r149 x1 x2 x5)
set_option maxRecDepth 100000 in
set_option maxHeartbeats 4000000 in
theorem t_X7_line_129 {G : GP} {X : CX} (hX : XOK G X mi_X7_line) {c d : Nat} {L : Hl} {p : Int32 × Hi} (hZ : XZ G X mi_X7_line (some (.int p.1)) S0 p.2 (R0 c d) L) {k61 : Hi → Int32 → Int32 → Int32 → Bool → Option (Int32 × Hi)} (hk61 : ∀ (I : Hi) (x1 : Int32) (x2 : Int32) (x3 : Int32) (b4 : Bool), k61 I x1 x2 x3 b4 = some p → AW G X 0 0 S0 I (R0 c d) L 61 [.ref 77, .int x1, .int x2, .int x3, .int (bI b4), .null, .null] []) (I : Hi) (x1 : Int32) (x2 : Int32) (x3 : Int32) (x5 : Int32) (h : b_X7_line_129 k61 I x1 x2 x3 x5 = some p) : AW G X 0 0 S0 I (R0 c d) L 129 [.ref 77, .int x1, .int x2, .int x3, .null, .int x5, .null] [] := by
  rw [b_X7_line_129] at h
  refine aw_iload (pc := 129) hX dX7_line_129 rfl ?_
  refine aw_iload_n (pc := 131) hX 3 dX7_line_131 rfl rfl ?_
  refine aw_icmp_le (pc := 132) hX 152 dX7_line_132 rfl (fun hc132 => ?_) (fun hc132 => ?_)
  · have h := ite_t h hc132
    exact AW.lo (t_X7_line_152 hX hZ (hk61) I x1 x2 x3 h) (And.intro (Or.inr rfl) (And.intro (Or.inr rfl) (And.intro (Or.inr rfl) (And.intro (Or.inr rfl) (And.intro (Or.inl rfl) (And.intro (Or.inl rfl) (And.intro (Or.inl rfl) trivial)))))))
  · have h := ite_f h hc132
    refine aw_iload (pc := 135) hX dX7_line_135 rfl ?_
    refine aw_istore_nE (pc := 137) hX 3 [.ref 77, .int x1, .int x2, .int x5, .null, .int x5, .null] dX7_line_137 rfl (by decide) rfl rfl ?_
    refine aw_aload_n (pc := 138) hX 0 dX7_line_138 rfl rfl ?_
    refine aw_getR (pc := 139) hX dX7_line_139 f_X7_63 rfl (by rfl) (q := 94) (by rfl) ?_
    refine aw_iconst (pc := 142) hX (0 : Int32) dX7_line_142 (by decide) ?_
    refine aw_aload_n (pc := 143) hX 0 dX7_line_143 rfl rfl ?_
    refine aw_getR (pc := 144) hX dX7_line_144 f_X7_66 rfl (by rfl) (q := 95) (by rfl) ?_
    refine aw_iconst (pc := 147) hX (0 : Int32) dX7_line_147 (by decide) ?_
    refine aw_iload_n (pc := 148) hX 2 dX7_line_148 rfl rfl ?_
    obtain ⟨r149, hq149, h⟩ := bind_s h
    refine aw_S5v (pc := 149) hX h_X7_copies l_X7_176 dX7_line_149 rfl rfl rfl (Nat.le_of_ble_eq_true rfl) (s_X7_copies (by rfl) (by rfl) hq149) ?_
    exact AW.lo (t_X7_line_152 hX hZ (hk61) r149 x1 x2 x5 h) (And.intro (Or.inr rfl) (And.intro (Or.inr rfl) (And.intro (Or.inr rfl) (And.intro (Or.inr rfl) (And.intro (Or.inl rfl) (And.intro (Or.inl rfl) (And.intro (Or.inl rfl) trivial)))))))
def b_X7_line_120  (k61 : Hi → Int32 → Int32 → Int32 → Bool → Option (Int32 × Hi)) (k72 : Hi → Int32 → Int32 → Int32 → Int32 → Int32 → Option (Int32 × Hi)) (I : Hi) (x1 : Int32) (x2 : Int32) (x3 : Int32) (x6 : Int32) (bs0 : Bool) (xs1 : Int32) : Option (Int32 × Hi) := k72 I x1 x2 x3 (xs1 + (bI bs0)) (x6 + 1)
set_option maxRecDepth 100000 in
set_option maxHeartbeats 4000000 in
theorem t_X7_line_120 {G : GP} {X : CX} (hX : XOK G X mi_X7_line) {c d : Nat} {L : Hl} {p : Int32 × Hi} (hZ : XZ G X mi_X7_line (some (.int p.1)) S0 p.2 (R0 c d) L) {k61 : Hi → Int32 → Int32 → Int32 → Bool → Option (Int32 × Hi)} (hk61 : ∀ (I : Hi) (x1 : Int32) (x2 : Int32) (x3 : Int32) (b4 : Bool), k61 I x1 x2 x3 b4 = some p → AW G X 0 0 S0 I (R0 c d) L 61 [.ref 77, .int x1, .int x2, .int x3, .int (bI b4), .null, .null] []) {k72 : Hi → Int32 → Int32 → Int32 → Int32 → Int32 → Option (Int32 × Hi)} (hk72 : ∀ (I : Hi) (x1 : Int32) (x2 : Int32) (x3 : Int32) (x5 : Int32) (x6 : Int32), k72 I x1 x2 x3 x5 x6 = some p → AW G X 0 0 S0 I (R0 c d) L 72 [.ref 77, .int x1, .int x2, .int x3, .null, .int x5, .int x6] []) (I : Hi) (x1 : Int32) (x2 : Int32) (x3 : Int32) (x6 : Int32) (bs0 : Bool) (xs1 : Int32) (h : b_X7_line_120 k61 k72 I x1 x2 x3 x6 bs0 xs1 = some p) : AW G X 0 0 S0 I (R0 c d) L 120 [.ref 77, .int x1, .int x2, .int x3, .null, .null, .int x6] [.int (bI bs0), .int xs1] := by
  rw [b_X7_line_120] at h
  refine aw_iadd (pc := 120) hX dX7_line_120 ?_
  refine aw_istoreE (pc := 121) hX [.ref 77, .int x1, .int x2, .int x3, .null, .int (xs1 + (bI bs0)), .int x6] dX7_line_121 (by decide) rfl rfl ?_
  refine aw_iincE (pc := 123) hX (x6 + 1) [.ref 77, .int x1, .int x2, .int x3, .null, .int (xs1 + (bI bs0)), .int (x6 + 1)] dX7_line_123 rfl rfl (by decide) rfl rfl ?_
  refine aw_goto (pc := 126) hX 72 dX7_line_126 rfl ?_
  exact AW.lo (hk72 I x1 x2 x3 (xs1 + (bI bs0)) (x6 + 1)  h) (And.intro (Or.inr rfl) (And.intro (Or.inr rfl) (And.intro (Or.inr rfl) (And.intro (Or.inr rfl) (And.intro (Or.inl rfl) (And.intro (Or.inr rfl) (And.intro (Or.inr rfl) trivial)))))))
def b_X7_line_72  (k61 : Hi → Int32 → Int32 → Int32 → Bool → Option (Int32 × Hi)) : Nat → Hi → Int32 → Int32 → Int32 → Int32 → Int32 → Option (Int32 × Hi)
  | 0, _, _, _, _, _, _ => none
  | n + 1, I, x1, x2, x3, x5, x6 => if x2 ≤ x6 then (b_X7_line_129 (k61) I x1 x2 x3 x5) else (if (I (77) 0) ≤ (0 : Int32) then (b_X7_line_129 (k61) I x1 x2 x3 x5) else (if vinb (1 : Int32) 21 then if (I (77) 0) = (0 : Int32) then none else if vinb x6 6 then (f_X7_lets I (((I (83) ((1 : Int32)).toNatClampNeg) + x6) - ((I (83) ((1 : Int32)).toNatClampNeg) + x6) / (I (77) 0) * (I (77) 0)) (I (94) (x6).toNatClampNeg)).bind fun r109 => if r109 = true then (b_X7_line_120 (k61) (b_X7_line_72 k61 n) I x1 x2 x3 x6 true x5) else (b_X7_line_120 (k61) (b_X7_line_72 k61 n) I x1 x2 x3 x6 false x5) else none else none))
set_option maxRecDepth 100000 in
set_option maxHeartbeats 4000000 in
theorem t_X7_line_72 {G : GP} {X : CX} (hX : XOK G X mi_X7_line) {c d : Nat} {L : Hl} {p : Int32 × Hi} (hZ : XZ G X mi_X7_line (some (.int p.1)) S0 p.2 (R0 c d) L) {k61 : Hi → Int32 → Int32 → Int32 → Bool → Option (Int32 × Hi)} (hk61 : ∀ (I : Hi) (x1 : Int32) (x2 : Int32) (x3 : Int32) (b4 : Bool), k61 I x1 x2 x3 b4 = some p → AW G X 0 0 S0 I (R0 c d) L 61 [.ref 77, .int x1, .int x2, .int x3, .int (bI b4), .null, .null] []) : ∀ (n : Nat) (I : Hi) (x1 : Int32) (x2 : Int32) (x3 : Int32) (x5 : Int32) (x6 : Int32), b_X7_line_72 k61 n I x1 x2 x3 x5 x6 = some p → AW G X 0 0 S0 I (R0 c d) L 72 [.ref 77, .int x1, .int x2, .int x3, .null, .int x5, .int x6] [] := by
  intro n
  induction n with
  | zero => intro I x1 x2 x3 x5 x6 h; cases h
  | succ n ih =>
    intro I x1 x2 x3 x5 x6 h
    rw [b_X7_line_72] at h
    refine aw_iload (pc := 72) hX dX7_line_72 rfl ?_
    refine aw_iload_n (pc := 74) hX 2 dX7_line_74 rfl rfl ?_
    refine aw_icmp_ge (pc := 75) hX 129 dX7_line_75 rfl (fun hc75 => ?_) (fun hc75 => ?_)
    · have h := ite_t h hc75
      exact AW.lo (t_X7_line_129 hX hZ (hk61) I x1 x2 x3 x5 h) (And.intro (Or.inr rfl) (And.intro (Or.inr rfl) (And.intro (Or.inr rfl) (And.intro (Or.inr rfl) (And.intro (Or.inl rfl) (And.intro (Or.inr rfl) (And.intro (Or.inl rfl) trivial)))))))
    · have h := ite_f h hc75
      refine aw_aload_n (pc := 78) hX 0 dX7_line_78 rfl rfl ?_
      refine aw_getI (pc := 79) hX dX7_line_79 f_X7_164 rfl (by rfl) ?_
      refine aw_if_le (pc := 82) hX 129 dX7_line_82 rfl (fun hc82 => ?_) (fun hc82 => ?_)
      · have h := ite_t h hc82
        exact AW.lo (t_X7_line_129 hX hZ (hk61) I x1 x2 x3 x5 h) (And.intro (Or.inr rfl) (And.intro (Or.inr rfl) (And.intro (Or.inr rfl) (And.intro (Or.inr rfl) (And.intro (Or.inl rfl) (And.intro (Or.inr rfl) (And.intro (Or.inl rfl) trivial)))))))
      · have h := ite_f h hc82
        refine aw_iload (pc := 85) hX dX7_line_85 rfl ?_
        refine aw_aload_n (pc := 87) hX 0 dX7_line_87 rfl rfl ?_
        refine aw_aload_n (pc := 88) hX 0 dX7_line_88 rfl rfl ?_
        refine aw_getR (pc := 89) hX dX7_line_89 f_X7_29 rfl (by rfl) (q := 83) (by rfl) ?_
        refine aw_iconst (pc := 92) hX (1 : Int32) dX7_line_92 (by decide) ?_
        obtain ⟨hv93, h⟩ := ite_g h
        refine aw_iaload (pc := 93) hX dX7_line_93 (by rfl) (vinb_in hv93) ?_
        refine aw_iload (pc := 94) hX dX7_line_94 rfl ?_
        refine aw_iadd (pc := 96) hX dX7_line_96 ?_
        refine aw_aload_n (pc := 97) hX 0 dX7_line_97 rfl rfl ?_
        refine aw_getI (pc := 98) hX dX7_line_98 f_X7_164 rfl (by rfl) ?_
        obtain ⟨hne101, h⟩ := ite_n h
        refine aw_irem (pc := 101) hX dX7_line_101 hne101 ?_
        refine aw_aload_n (pc := 102) hX 0 dX7_line_102 rfl rfl ?_
        refine aw_getR (pc := 103) hX dX7_line_103 f_X7_63 rfl (by rfl) (q := 94) (by rfl) ?_
        refine aw_iload (pc := 106) hX dX7_line_106 rfl ?_
        obtain ⟨hv108, h⟩ := ite_g h
        refine aw_iaload (pc := 108) hX dX7_line_108 (by rfl) (vinb_in hv108) ?_
        obtain ⟨r109, hq109, h⟩ := bind_s h
        refine aw_V2i (pc := 109) hX h_X7_lets l_X7_188 dX7_line_109 (by rfl) (by decide) (by rfl) rfl rfl rfl (Nat.le_of_ble_eq_true rfl) (s_X7_lets  hq109) ?_
        refine aw_if_eq (pc := 112) hX 119 dX7_line_112 rfl (fun hc112 => ?_) (fun hc112 => ?_)
        · have h := ite_f h (bI0 hc112)
          refine aw_iconst (pc := 119) hX (0 : Int32) dX7_line_119 (by decide) ?_
          exact AW.lo (t_X7_line_120 hX hZ (hk61) (ih) I x1 x2 x3 x6 false x5 h) (And.intro (Or.inr rfl) (And.intro (Or.inr rfl) (And.intro (Or.inr rfl) (And.intro (Or.inr rfl) (And.intro (Or.inl rfl) (And.intro (Or.inl rfl) (And.intro (Or.inr rfl) trivial)))))))
        · have h := ite_t h (bI1 hc112)
          refine aw_iconst (pc := 115) hX (1 : Int32) dX7_line_115 (by decide) ?_
          refine aw_goto (pc := 116) hX 120 dX7_line_116 rfl ?_
          exact AW.lo (t_X7_line_120 hX hZ (hk61) (ih) I x1 x2 x3 x6 true x5 h) (And.intro (Or.inr rfl) (And.intro (Or.inr rfl) (And.intro (Or.inr rfl) (And.intro (Or.inr rfl) (And.intro (Or.inl rfl) (And.intro (Or.inl rfl) (And.intro (Or.inr rfl) trivial)))))))
def b_X7_line_61   : Nat → Hi → Int32 → Int32 → Int32 → Bool → Option (Int32 × Hi)
  | 0, _, _, _, _, _ => none
  | n + 1, I, x1, x2, x3, b4 => if b4 = true then (b_X7_line_72 (b_X7_line_61 n) 2000 I x1 x2 x3 (0 : Int32) (0 : Int32)) else (b_X7_line_162 I x1 x2 x3)
set_option maxRecDepth 100000 in
set_option maxHeartbeats 4000000 in
theorem t_X7_line_61 {G : GP} {X : CX} (hX : XOK G X mi_X7_line) {c d : Nat} {L : Hl} {p : Int32 × Hi} (hZ : XZ G X mi_X7_line (some (.int p.1)) S0 p.2 (R0 c d) L) : ∀ (n : Nat) (I : Hi) (x1 : Int32) (x2 : Int32) (x3 : Int32) (b4 : Bool), b_X7_line_61 n I x1 x2 x3 b4 = some p → AW G X 0 0 S0 I (R0 c d) L 61 [.ref 77, .int x1, .int x2, .int x3, .int (bI b4), .null, .null] [] := by
  intro n
  induction n with
  | zero => intro I x1 x2 x3 b4 h; cases h
  | succ n ih =>
    intro I x1 x2 x3 b4 h
    rw [b_X7_line_61] at h
    refine aw_iload (pc := 61) hX dX7_line_61 rfl ?_
    refine aw_if_eq (pc := 63) hX 162 dX7_line_63 rfl (fun hc63 => ?_) (fun hc63 => ?_)
    · have h := ite_f h (bI0 hc63)
      exact AW.lo (t_X7_line_162 hX hZ I x1 x2 x3 h) (And.intro (Or.inr rfl) (And.intro (Or.inr rfl) (And.intro (Or.inr rfl) (And.intro (Or.inr rfl) (And.intro (Or.inl rfl) (And.intro (Or.inl rfl) (And.intro (Or.inl rfl) trivial)))))))
    · have h := ite_t h (bI1 hc63)
      refine aw_iconst (pc := 66) hX (0 : Int32) dX7_line_66 (by decide) ?_
      refine aw_istoreE (pc := 67) hX [.ref 77, .int x1, .int x2, .int x3, .int (bI b4), .int (0 : Int32), .null] dX7_line_67 (by decide) rfl rfl ?_
      refine aw_iconst (pc := 69) hX (0 : Int32) dX7_line_69 (by decide) ?_
      refine aw_istoreE (pc := 70) hX [.ref 77, .int x1, .int x2, .int x3, .int (bI b4), .int (0 : Int32), .int (0 : Int32)] dX7_line_70 (by decide) rfl rfl ?_
      exact AW.lo (t_X7_line_72 hX hZ (ih) 2000 I x1 x2 x3 (0 : Int32) (0 : Int32) h) (And.intro (Or.inr rfl) (And.intro (Or.inr rfl) (And.intro (Or.inr rfl) (And.intro (Or.inr rfl) (And.intro (Or.inl rfl) (And.intro (Or.inr rfl) (And.intro (Or.inr rfl) trivial)))))))
def b_X7_line_56   (I : Hi) (x1 : Int32) (x2 : Int32) : Option (Int32 × Hi) := b_X7_line_61 2000 I x1 x2 (-1 : Int32) true
set_option maxRecDepth 100000 in
set_option maxHeartbeats 4000000 in
theorem t_X7_line_56 {G : GP} {X : CX} (hX : XOK G X mi_X7_line) {c d : Nat} {L : Hl} {p : Int32 × Hi} (hZ : XZ G X mi_X7_line (some (.int p.1)) S0 p.2 (R0 c d) L) (I : Hi) (x1 : Int32) (x2 : Int32) (h : b_X7_line_56 I x1 x2 = some p) : AW G X 0 0 S0 I (R0 c d) L 56 [.ref 77, .int x1, .int x2, .null, .null, .null, .null] [] := by
  rw [b_X7_line_56] at h
  refine aw_iconst (pc := 56) hX (-1 : Int32) dX7_line_56 (by decide) ?_
  refine aw_istore_nE (pc := 57) hX 3 [.ref 77, .int x1, .int x2, .int (-1 : Int32), .null, .null, .null] dX7_line_57 rfl (by decide) rfl rfl ?_
  refine aw_iconst (pc := 58) hX (1 : Int32) dX7_line_58 (by decide) ?_
  refine aw_istoreE (pc := 59) hX [.ref 77, .int x1, .int x2, .int (-1 : Int32), .int (1 : Int32), .null, .null] dX7_line_59 (by decide) rfl rfl ?_
  exact AW.lo (t_X7_line_61 hX hZ 2000 I x1 x2 (-1 : Int32) true h) (And.intro (Or.inr rfl) (And.intro (Or.inr rfl) (And.intro (Or.inr rfl) (And.intro (Or.inr rfl) (And.intro (Or.inr rfl) (And.intro (Or.inl rfl) (And.intro (Or.inl rfl) trivial)))))))
def b_X7_line_50  (k20 : Hi → Int32 → Int32 → Int32 → Option (Int32 × Hi)) (I : Hi) (x1 : Int32) (x2 : Int32) (x3 : Int32) : Option (Int32 × Hi) := k20 I x1 x2 (x3 + 1)
set_option maxRecDepth 100000 in
set_option maxHeartbeats 4000000 in
theorem t_X7_line_50 {G : GP} {X : CX} (hX : XOK G X mi_X7_line) {c d : Nat} {L : Hl} {p : Int32 × Hi} (hZ : XZ G X mi_X7_line (some (.int p.1)) S0 p.2 (R0 c d) L) {k20 : Hi → Int32 → Int32 → Int32 → Option (Int32 × Hi)} (hk20 : ∀ (I : Hi) (x1 : Int32) (x2 : Int32) (x3 : Int32), k20 I x1 x2 x3 = some p → AW G X 0 0 S0 I (R0 c d) L 20 [.ref 77, .int x1, .int x2, .int x3, .null, .null, .null] []) (I : Hi) (x1 : Int32) (x2 : Int32) (x3 : Int32) (h : b_X7_line_50 k20 I x1 x2 x3 = some p) : AW G X 0 0 S0 I (R0 c d) L 50 [.ref 77, .int x1, .int x2, .int x3, .null, .null, .null] [] := by
  rw [b_X7_line_50] at h
  refine aw_iincE (pc := 50) hX (x3 + 1) [.ref 77, .int x1, .int x2, .int (x3 + 1), .null, .null, .null] dX7_line_50 rfl rfl (by decide) rfl rfl ?_
  refine aw_goto (pc := 53) hX 20 dX7_line_53 rfl ?_
  exact AW.lo (hk20 I x1 x2 (x3 + 1)  h) (And.intro (Or.inr rfl) (And.intro (Or.inr rfl) (And.intro (Or.inr rfl) (And.intro (Or.inr rfl) (And.intro (Or.inl rfl) (And.intro (Or.inl rfl) (And.intro (Or.inl rfl) trivial)))))))
def b_X7_line_20   : Nat → Hi → Int32 → Int32 → Int32 → Option (Int32 × Hi)
  | 0, _, _, _, _ => none
  | n + 1, I, x1, x2, x3 => if (I (77) 2) ≤ x3 then (b_X7_line_56 I x1 x2) else (if vinb ((3 : Int32) + x3) 21 then if (I (83) (((3 : Int32) + x3)).toNatClampNeg) = (1 : Int32) then (if vinb x2 6 then (some (u2 I (94) (x2).toNatClampNeg x3)).bind fun I46 => b_X7_line_50 (b_X7_line_20 n) I46 x1 (x2 + 1) x3 else none) else (b_X7_line_50 (b_X7_line_20 n) I x1 x2 x3) else none)
set_option maxRecDepth 100000 in
set_option maxHeartbeats 4000000 in
theorem t_X7_line_20 {G : GP} {X : CX} (hX : XOK G X mi_X7_line) {c d : Nat} {L : Hl} {p : Int32 × Hi} (hZ : XZ G X mi_X7_line (some (.int p.1)) S0 p.2 (R0 c d) L) : ∀ (n : Nat) (I : Hi) (x1 : Int32) (x2 : Int32) (x3 : Int32), b_X7_line_20 n I x1 x2 x3 = some p → AW G X 0 0 S0 I (R0 c d) L 20 [.ref 77, .int x1, .int x2, .int x3, .null, .null, .null] [] := by
  intro n
  induction n with
  | zero => intro I x1 x2 x3 h; cases h
  | succ n ih =>
    intro I x1 x2 x3 h
    rw [b_X7_line_20] at h
    refine aw_iload_n (pc := 20) hX 3 dX7_line_20 rfl rfl ?_
    refine aw_aload_n (pc := 21) hX 0 dX7_line_21 rfl rfl ?_
    refine aw_getI (pc := 22) hX dX7_line_22 f_X7_167 rfl (by rfl) ?_
    refine aw_icmp_ge (pc := 25) hX 56 dX7_line_25 rfl (fun hc25 => ?_) (fun hc25 => ?_)
    · have h := ite_t h hc25
      exact AW.lo (t_X7_line_56 hX hZ I x1 x2 h) (And.intro (Or.inr rfl) (And.intro (Or.inr rfl) (And.intro (Or.inr rfl) (And.intro (Or.inl rfl) (And.intro (Or.inl rfl) (And.intro (Or.inl rfl) (And.intro (Or.inl rfl) trivial)))))))
    · have h := ite_f h hc25
      refine aw_aload_n (pc := 28) hX 0 dX7_line_28 rfl rfl ?_
      refine aw_getR (pc := 29) hX dX7_line_29 f_X7_29 rfl (by rfl) (q := 83) (by rfl) ?_
      refine aw_iconst (pc := 32) hX (3 : Int32) dX7_line_32 (by decide) ?_
      refine aw_iload_n (pc := 33) hX 3 dX7_line_33 rfl rfl ?_
      refine aw_iadd (pc := 34) hX dX7_line_34 ?_
      obtain ⟨hv35, h⟩ := ite_g h
      refine aw_iaload (pc := 35) hX dX7_line_35 (by rfl) (vinb_in hv35) ?_
      refine aw_iconst (pc := 36) hX (1 : Int32) dX7_line_36 (by decide) ?_
      refine aw_icmp_ne (pc := 37) hX 50 dX7_line_37 rfl (fun hc37 => ?_) (fun hc37 => ?_)
      · have h := ite_f h hc37
        exact AW.lo (t_X7_line_50 hX hZ (ih) I x1 x2 x3 h) (And.intro (Or.inr rfl) (And.intro (Or.inr rfl) (And.intro (Or.inr rfl) (And.intro (Or.inr rfl) (And.intro (Or.inl rfl) (And.intro (Or.inl rfl) (And.intro (Or.inl rfl) trivial)))))))
      · have h := ite_t h hc37
        refine aw_aload_n (pc := 40) hX 0 dX7_line_40 rfl rfl ?_
        refine aw_getR (pc := 41) hX dX7_line_41 f_X7_63 rfl (by rfl) (q := 94) (by rfl) ?_
        refine aw_iload_n (pc := 44) hX 2 dX7_line_44 rfl rfl ?_
        refine aw_iload_n (pc := 45) hX 3 dX7_line_45 rfl rfl ?_
        obtain ⟨hv46, h⟩ := ite_g h
        refine aw_iastore (pc := 46) hX dX7_line_46 (by rfl) (vinb_in hv46) ?_
        obtain ⟨I46, hi46, h⟩ := bind_s h
        refine AW.iEq hi46 ?_
        refine aw_iincE (pc := 47) hX (x2 + 1) [.ref 77, .int x1, .int (x2 + 1), .int x3, .null, .null, .null] dX7_line_47 rfl rfl (by decide) rfl rfl ?_
        exact AW.lo (t_X7_line_50 hX hZ (ih) I46 x1 (x2 + 1) x3 h) (And.intro (Or.inr rfl) (And.intro (Or.inr rfl) (And.intro (Or.inr rfl) (And.intro (Or.inr rfl) (And.intro (Or.inl rfl) (And.intro (Or.inl rfl) (And.intro (Or.inl rfl) trivial)))))))
def f_X7_line (I : Hi) (x1 : Int32) : Option (Int32 × Hi) := (f_X7_in (x1).toInt64 (-1 : Int64) (5 : Int64)).bind fun r8 => if r8 = true then (b_X7_line_20 2000 I x1 (0 : Int32) (0 : Int32)) else (some ((-1 : Int32), I))
set_option maxRecDepth 100000 in
set_option maxHeartbeats 4000000 in
theorem s_X7_line {G : GP} {c d : Nat} {I : Hi} {L : Hl} {x1 : Int32} {p : Int32 × Hi} (h : f_X7_line I x1 = some p) : CD G mi_X7_line [.ref 77, .int x1] S0 I (R0 c d) L (some (.int p.1)) S0 p.2 (R0 c d) L := by
  refine CD.intro 5 rfl (by decide) rfl fun X hX hZ => ?_
  rw [f_X7_line] at h
  show AW G X 0 0 S0 I (R0 c d) L 0 [.ref 77, .int x1, .null, .null, .null, .null, .null] []
  refine aw_iload_n (pc := 0) hX 1 dX7_line_0 rfl rfl ?_
  refine aw_i2l (pc := 1) hX dX7_line_1 ?_
  refine aw_ldc2 (pc := 2) hX dX7_line_2 v_X7_228 ?_
  refine aw_ldc2 (pc := 5) hX dX7_line_5 v_X7_186 ?_
  obtain ⟨r8, hq8, h⟩ := bind_s h
  refine aw_S3i (pc := 8) hX h_X7_in l_X7_75 dX7_line_8 rfl rfl rfl (Nat.le_of_ble_eq_true rfl) (s_X7_in  hq8) ?_
  refine aw_if_ne (pc := 11) hX 16 dX7_line_11 rfl (fun hc11 => ?_) (fun hc11 => ?_)
  · have h := ite_t h (bI1 hc11)
    refine aw_iconst (pc := 16) hX (0 : Int32) dX7_line_16 (by decide) ?_
    refine aw_istore_nE (pc := 17) hX 2 [.ref 77, .int x1, .int (0 : Int32), .null, .null, .null, .null] dX7_line_17 rfl (by decide) rfl rfl ?_
    refine aw_iconst (pc := 18) hX (0 : Int32) dX7_line_18 (by decide) ?_
    refine aw_istore_nE (pc := 19) hX 3 [.ref 77, .int x1, .int (0 : Int32), .int (0 : Int32), .null, .null, .null] dX7_line_19 rfl (by decide) rfl rfl ?_
    exact AW.lo (t_X7_line_20 hX hZ 2000 I x1 (0 : Int32) (0 : Int32) h) (And.intro (Or.inr rfl) (And.intro (Or.inr rfl) (And.intro (Or.inr rfl) (And.intro (Or.inr rfl) (And.intro (Or.inl rfl) (And.intro (Or.inl rfl) (And.intro (Or.inl rfl) trivial)))))))
  · have h := ite_f h (bI0 hc11)
    refine aw_iconst (pc := 14) hX (-1 : Int32) dX7_line_14 (by decide) ?_
    have e := Option.some.inj h
    subst e
    exact aw_iret hX hZ dX7_line_15 rfl rfl rfl rfl rfl rfl rfl (Nat.le_refl _)
def f_X7_sees (I : Hi) (x1 : Int32) (x2 : Int32) (x3 : Int32) : Option (Int32 × Hi) := (f_X7_isTaste x1).bind fun r1 => if r1 = true then ((f_X7_isTheLeaf I x2).bind fun r9 => if r9 = true then ((f_X7_isBit x3).bind fun r16 => if r16 = true then (if (I (77) 16) = (6 : Int32) then (some ((-3 : Int32), I)) else (if vinb ((3 : Int32) * (I (77) 16)) 18 then (some (u2 I (87) (((3 : Int32) * (I (77) 16))).toNatClampNeg x1)).bind fun I47 => if vinb (((3 : Int32) * (I47 (77) 16)) + (1 : Int32)) 18 then (some (u2 I47 (87) ((((3 : Int32) * (I47 (77) 16)) + (1 : Int32))).toNatClampNeg x2)).bind fun I61 => if vinb (((3 : Int32) * (I61 (77) 16)) + (2 : Int32)) 18 then (some (u2 I61 (87) ((((3 : Int32) * (I61 (77) 16)) + (2 : Int32))).toNatClampNeg x3)).bind fun I75 => (some (u2 I75 (77) 16 ((I75 (77) 16) + (1 : Int32)))).bind fun I83 => some ((I83 (77) 16), I83) else none else none else none)) else (some ((-1 : Int32), I))) else (some ((-1 : Int32), I))) else (some ((-1 : Int32), I))
set_option maxRecDepth 100000 in
set_option maxHeartbeats 4000000 in
theorem s_X7_sees {G : GP} {c d : Nat} {I : Hi} {L : Hl} {x1 : Int32} {x2 : Int32} {x3 : Int32} {p : Int32 × Hi} (h : f_X7_sees I x1 x2 x3 = some p) : CD G mi_X7_sees [.ref 77, .int x1, .int x2, .int x3] S0 I (R0 c d) L (some (.int p.1)) S0 p.2 (R0 c d) L := by
  refine CD.intro 0 rfl (by decide) rfl fun X hX hZ => ?_
  rw [f_X7_sees] at h
  show AW G X 0 0 S0 I (R0 c d) L 0 [.ref 77, .int x1, .int x2, .int x3] []
  refine aw_iload_n (pc := 0) hX 1 dX7_sees_0 rfl rfl ?_
  obtain ⟨r1, hq1, h⟩ := bind_s h
  refine aw_S1i (pc := 1) hX h_X7_isTaste l_X7_211 dX7_sees_1 rfl rfl rfl (Nat.le_of_ble_eq_true rfl) (s_X7_isTaste  hq1) ?_
  refine aw_if_eq (pc := 4) hX 22 dX7_sees_4 rfl (fun hc4 => ?_) (fun hc4 => ?_)
  · have h := ite_f h (bI0 hc4)
    refine aw_iconst (pc := 22) hX (-1 : Int32) dX7_sees_22 (by decide) ?_
    have e := Option.some.inj h
    subst e
    exact aw_iret hX hZ dX7_sees_23 rfl rfl rfl rfl rfl rfl rfl (Nat.le_refl _)
  · have h := ite_t h (bI1 hc4)
    refine aw_aload_n (pc := 7) hX 0 dX7_sees_7 rfl rfl ?_
    refine aw_iload_n (pc := 8) hX 2 dX7_sees_8 rfl rfl ?_
    obtain ⟨r9, hq9, h⟩ := bind_s h
    refine aw_V1i (pc := 9) hX h_X7_isTheLeaf l_X7_198 dX7_sees_9 (by rfl) (by decide) (by rfl) rfl rfl rfl (Nat.le_of_ble_eq_true rfl) (s_X7_isTheLeaf  hq9) ?_
    refine aw_if_eq (pc := 12) hX 22 dX7_sees_12 rfl (fun hc12 => ?_) (fun hc12 => ?_)
    · have h := ite_f h (bI0 hc12)
      refine aw_iconst (pc := 22) hX (-1 : Int32) dX7_sees_22 (by decide) ?_
      have e := Option.some.inj h
      subst e
      exact aw_iret hX hZ dX7_sees_23 rfl rfl rfl rfl rfl rfl rfl (Nat.le_refl _)
    · have h := ite_t h (bI1 hc12)
      refine aw_iload_n (pc := 15) hX 3 dX7_sees_15 rfl rfl ?_
      obtain ⟨r16, hq16, h⟩ := bind_s h
      refine aw_S1i (pc := 16) hX h_X7_isBit l_X7_202 dX7_sees_16 rfl rfl rfl (Nat.le_of_ble_eq_true rfl) (s_X7_isBit  hq16) ?_
      refine aw_if_ne (pc := 19) hX 24 dX7_sees_19 rfl (fun hc19 => ?_) (fun hc19 => ?_)
      · have h := ite_t h (bI1 hc19)
        refine aw_aload_n (pc := 24) hX 0 dX7_sees_24 rfl rfl ?_
        refine aw_getI (pc := 25) hX dX7_sees_25 f_X7_183 rfl (by rfl) ?_
        refine aw_bipush (pc := 28) hX (6 : Int32) dX7_sees_28 (by decide) ?_
        refine aw_icmp_ne (pc := 30) hX 36 dX7_sees_30 rfl (fun hc30 => ?_) (fun hc30 => ?_)
        · have h := ite_f h hc30
          refine aw_aload_n (pc := 36) hX 0 dX7_sees_36 rfl rfl ?_
          refine aw_getR (pc := 37) hX dX7_sees_37 f_X7_42 rfl (by rfl) (q := 87) (by rfl) ?_
          refine aw_iconst (pc := 40) hX (3 : Int32) dX7_sees_40 (by decide) ?_
          refine aw_aload_n (pc := 41) hX 0 dX7_sees_41 rfl rfl ?_
          refine aw_getI (pc := 42) hX dX7_sees_42 f_X7_183 rfl (by rfl) ?_
          refine aw_imul (pc := 45) hX dX7_sees_45 ?_
          refine aw_iload_n (pc := 46) hX 1 dX7_sees_46 rfl rfl ?_
          obtain ⟨hv47, h⟩ := ite_g h
          refine aw_iastore (pc := 47) hX dX7_sees_47 (by rfl) (vinb_in hv47) ?_
          obtain ⟨I47, hi47, h⟩ := bind_s h
          refine AW.iEq hi47 ?_
          refine aw_aload_n (pc := 48) hX 0 dX7_sees_48 rfl rfl ?_
          refine aw_getR (pc := 49) hX dX7_sees_49 f_X7_42 rfl (by rfl) (q := 87) (by rfl) ?_
          refine aw_iconst (pc := 52) hX (3 : Int32) dX7_sees_52 (by decide) ?_
          refine aw_aload_n (pc := 53) hX 0 dX7_sees_53 rfl rfl ?_
          refine aw_getI (pc := 54) hX dX7_sees_54 f_X7_183 rfl (by rfl) ?_
          refine aw_imul (pc := 57) hX dX7_sees_57 ?_
          refine aw_iconst (pc := 58) hX (1 : Int32) dX7_sees_58 (by decide) ?_
          refine aw_iadd (pc := 59) hX dX7_sees_59 ?_
          refine aw_iload_n (pc := 60) hX 2 dX7_sees_60 rfl rfl ?_
          obtain ⟨hv61, h⟩ := ite_g h
          refine aw_iastore (pc := 61) hX dX7_sees_61 (by rfl) (vinb_in hv61) ?_
          obtain ⟨I61, hi61, h⟩ := bind_s h
          refine AW.iEq hi61 ?_
          refine aw_aload_n (pc := 62) hX 0 dX7_sees_62 rfl rfl ?_
          refine aw_getR (pc := 63) hX dX7_sees_63 f_X7_42 rfl (by rfl) (q := 87) (by rfl) ?_
          refine aw_iconst (pc := 66) hX (3 : Int32) dX7_sees_66 (by decide) ?_
          refine aw_aload_n (pc := 67) hX 0 dX7_sees_67 rfl rfl ?_
          refine aw_getI (pc := 68) hX dX7_sees_68 f_X7_183 rfl (by rfl) ?_
          refine aw_imul (pc := 71) hX dX7_sees_71 ?_
          refine aw_iconst (pc := 72) hX (2 : Int32) dX7_sees_72 (by decide) ?_
          refine aw_iadd (pc := 73) hX dX7_sees_73 ?_
          refine aw_iload_n (pc := 74) hX 3 dX7_sees_74 rfl rfl ?_
          obtain ⟨hv75, h⟩ := ite_g h
          refine aw_iastore (pc := 75) hX dX7_sees_75 (by rfl) (vinb_in hv75) ?_
          obtain ⟨I75, hi75, h⟩ := bind_s h
          refine AW.iEq hi75 ?_
          refine aw_aload_n (pc := 76) hX 0 dX7_sees_76 rfl rfl ?_
          refine aw_dup (pc := 77) hX dX7_sees_77 rfl ?_
          refine aw_getI (pc := 78) hX dX7_sees_78 f_X7_183 rfl (by rfl) ?_
          refine aw_iconst (pc := 81) hX (1 : Int32) dX7_sees_81 (by decide) ?_
          refine aw_iadd (pc := 82) hX dX7_sees_82 ?_
          refine aw_putI (pc := 83) hX dX7_sees_83 f_X7_183 rfl rfl (by first | rfl | decide) (by first | rfl | decide) (by rfl) ?_
          obtain ⟨I83, hi83, h⟩ := bind_s h
          refine AW.iEq hi83 ?_
          refine aw_aload_n (pc := 86) hX 0 dX7_sees_86 rfl rfl ?_
          refine aw_getI (pc := 87) hX dX7_sees_87 f_X7_183 rfl (by rfl) ?_
          have e := Option.some.inj h
          subst e
          exact aw_iret hX hZ dX7_sees_90 rfl rfl rfl rfl rfl rfl rfl (Nat.le_refl _)
        · have h := ite_t h hc30
          refine aw_bipush (pc := 33) hX (-3 : Int32) dX7_sees_33 (by decide) ?_
          have e := Option.some.inj h
          subst e
          exact aw_iret hX hZ dX7_sees_35 rfl rfl rfl rfl rfl rfl rfl (Nat.le_refl _)
      · have h := ite_f h (bI0 hc19)
        refine aw_iconst (pc := 22) hX (-1 : Int32) dX7_sees_22 (by decide) ?_
        have e := Option.some.inj h
        subst e
        exact aw_iret hX hZ dX7_sees_23 rfl rfl rfl rfl rfl rfl rfl (Nat.le_refl _)
def f_X7_forget (I : Hi)  : Option (Int32 × Hi) := (some (u2 I (77) 16 (0 : Int32))).bind fun I7 => some ((I (77) 16), I7)
set_option maxRecDepth 100000 in
set_option maxHeartbeats 4000000 in
theorem s_X7_forget {G : GP} {c d : Nat} {I : Hi} {L : Hl}  {p : Int32 × Hi} (h : f_X7_forget I = some p) : CD G mi_X7_forget [.ref 77] S0 I (R0 c d) L (some (.int p.1)) S0 p.2 (R0 c d) L := by
  refine CD.intro 1 rfl (by decide) rfl fun X hX hZ => ?_
  rw [f_X7_forget] at h
  show AW G X 0 0 S0 I (R0 c d) L 0 [.ref 77, .null] []
  refine aw_aload_n (pc := 0) hX 0 dX7_forget_0 rfl rfl ?_
  refine aw_getI (pc := 1) hX dX7_forget_1 f_X7_183 rfl (by rfl) ?_
  refine aw_istore_nE (pc := 4) hX 1 [.ref 77, .int (I (77) 16)] dX7_forget_4 rfl (by decide) rfl rfl ?_
  refine aw_aload_n (pc := 5) hX 0 dX7_forget_5 rfl rfl ?_
  refine aw_iconst (pc := 6) hX (0 : Int32) dX7_forget_6 (by decide) ?_
  refine aw_putI (pc := 7) hX dX7_forget_7 f_X7_183 rfl rfl (by first | rfl | decide) (by first | rfl | decide) (by rfl) ?_
  obtain ⟨I7, hi7, h⟩ := bind_s h
  refine AW.iEq hi7 ?_
  refine aw_iload_n (pc := 10) hX 1 dX7_forget_10 rfl rfl ?_
  have e := Option.some.inj h
  subst e
  exact aw_iret hX hZ dX7_forget_11 rfl rfl rfl rfl rfl rfl rfl (Nat.le_refl _)
def b_X7_canHave_67 (I : Hi) (k4 : Int32 → Bool → Int32 → Option (Bool)) (x1 : Int32) (x3 : Int32) (bs0 : Bool) : Option (Bool) := k4 x1 bs0 (x3 + 3)
set_option maxRecDepth 100000 in
set_option maxHeartbeats 4000000 in
theorem t_X7_canHave_67 {G : GP} {X : CX} (hX : XOK G X mi_X7_canHave) {c d : Nat} {I : Hi} {L : Hl} {p : Bool} (hZ : XZ G X mi_X7_canHave (some (.int (bI p))) S0 I (R0 c d) L) {k4 : Int32 → Bool → Int32 → Option (Bool)} (hk4 : ∀ (x1 : Int32) (b2 : Bool) (x3 : Int32), k4 x1 b2 x3 = some p → AW G X 0 0 S0 I (R0 c d) L 4 [.ref 77, .int x1, .int (bI b2), .int x3] []) (x1 : Int32) (x3 : Int32) (bs0 : Bool) (h : b_X7_canHave_67 I k4 x1 x3 bs0 = some p) : AW G X 0 0 S0 I (R0 c d) L 67 [.ref 77, .int x1, .null, .int x3] [.int (bI bs0)] := by
  rw [b_X7_canHave_67] at h
  refine aw_istore_nE (pc := 67) hX 2 [.ref 77, .int x1, .int (bI bs0), .int x3] dX7_canHave_67 rfl (by decide) rfl rfl ?_
  refine aw_iincE (pc := 68) hX (x3 + 3) [.ref 77, .int x1, .int (bI bs0), .int (x3 + 3)] dX7_canHave_68 rfl rfl (by decide) rfl rfl ?_
  refine aw_goto (pc := 71) hX 4 dX7_canHave_71 rfl ?_
  exact AW.lo (hk4 x1 bs0 (x3 + 3)  h) (And.intro (Or.inr rfl) (And.intro (Or.inr rfl) (And.intro (Or.inr rfl) (And.intro (Or.inr rfl) trivial))))
def b_X7_canHave_66 (I : Hi) (k4 : Int32 → Bool → Int32 → Option (Bool)) (x1 : Int32) (x3 : Int32) : Option (Bool) := b_X7_canHave_67 I (k4) x1 x3 false
set_option maxRecDepth 100000 in
set_option maxHeartbeats 4000000 in
theorem t_X7_canHave_66 {G : GP} {X : CX} (hX : XOK G X mi_X7_canHave) {c d : Nat} {I : Hi} {L : Hl} {p : Bool} (hZ : XZ G X mi_X7_canHave (some (.int (bI p))) S0 I (R0 c d) L) {k4 : Int32 → Bool → Int32 → Option (Bool)} (hk4 : ∀ (x1 : Int32) (b2 : Bool) (x3 : Int32), k4 x1 b2 x3 = some p → AW G X 0 0 S0 I (R0 c d) L 4 [.ref 77, .int x1, .int (bI b2), .int x3] []) (x1 : Int32) (x3 : Int32) (h : b_X7_canHave_66 I k4 x1 x3 = some p) : AW G X 0 0 S0 I (R0 c d) L 66 [.ref 77, .int x1, .null, .int x3] [] := by
  rw [b_X7_canHave_66] at h
  refine aw_iconst (pc := 66) hX (0 : Int32) dX7_canHave_66 (by decide) ?_
  exact AW.lo (t_X7_canHave_67 hX hZ (hk4) x1 x3 false h) (And.intro (Or.inr rfl) (And.intro (Or.inr rfl) (And.intro (Or.inl rfl) (And.intro (Or.inr rfl) trivial))))
def b_X7_canHave_59 (I : Hi) (k4 : Int32 → Bool → Int32 → Option (Bool)) (x1 : Int32) (x3 : Int32) (bs0 : Bool) (bs1 : Bool) : Option (Bool) := if (bI bs1) = (bI bs0) then (b_X7_canHave_67 I (k4) x1 x3 true) else (b_X7_canHave_66 I (k4) x1 x3)
set_option maxRecDepth 100000 in
set_option maxHeartbeats 4000000 in
theorem t_X7_canHave_59 {G : GP} {X : CX} (hX : XOK G X mi_X7_canHave) {c d : Nat} {I : Hi} {L : Hl} {p : Bool} (hZ : XZ G X mi_X7_canHave (some (.int (bI p))) S0 I (R0 c d) L) {k4 : Int32 → Bool → Int32 → Option (Bool)} (hk4 : ∀ (x1 : Int32) (b2 : Bool) (x3 : Int32), k4 x1 b2 x3 = some p → AW G X 0 0 S0 I (R0 c d) L 4 [.ref 77, .int x1, .int (bI b2), .int x3] []) (x1 : Int32) (x3 : Int32) (bs0 : Bool) (bs1 : Bool) (h : b_X7_canHave_59 I k4 x1 x3 bs0 bs1 = some p) : AW G X 0 0 S0 I (R0 c d) L 59 [.ref 77, .int x1, .null, .int x3] [.int (bI bs0), .int (bI bs1)] := by
  rw [b_X7_canHave_59] at h
  refine aw_icmp_ne (pc := 59) hX 66 dX7_canHave_59 rfl (fun hc59 => ?_) (fun hc59 => ?_)
  · have h := ite_f h hc59
    exact AW.lo (t_X7_canHave_66 hX hZ (hk4) x1 x3 h) (And.intro (Or.inr rfl) (And.intro (Or.inr rfl) (And.intro (Or.inl rfl) (And.intro (Or.inr rfl) trivial))))
  · have h := ite_t h hc59
    refine aw_iconst (pc := 62) hX (1 : Int32) dX7_canHave_62 (by decide) ?_
    refine aw_goto (pc := 63) hX 67 dX7_canHave_63 rfl ?_
    exact AW.lo (t_X7_canHave_67 hX hZ (hk4) x1 x3 true h) (And.intro (Or.inr rfl) (And.intro (Or.inr rfl) (And.intro (Or.inl rfl) (And.intro (Or.inr rfl) trivial))))
def b_X7_canHave_4 (I : Hi)  : Nat → Int32 → Bool → Int32 → Option (Bool)
  | 0, _, _, _ => none
  | n + 1, x1, b2, x3 => if ((3 : Int32) * (I (77) 16)) ≤ x3 then (some (b2)) else (if b2 = true then (if vinb (x3 + (1 : Int32)) 18 then if vinb (I (87) ((x3 + (1 : Int32))).toNatClampNeg) 5 then if vinb x3 18 then (f_X7_has (x1 &&& (I (78) ((I (87) ((x3 + (1 : Int32))).toNatClampNeg)).toNatClampNeg)) (I (87) (x3).toNatClampNeg)).bind fun r39 => if vinb (x3 + (2 : Int32)) 18 then if (I (87) ((x3 + (2 : Int32))).toNatClampNeg) = (1 : Int32) then (b_X7_canHave_59 I (b_X7_canHave_4 I n) x1 x3 true r39) else (b_X7_canHave_59 I (b_X7_canHave_4 I n) x1 x3 false r39) else none else none else none else none) else (b_X7_canHave_66 I (b_X7_canHave_4 I n) x1 x3))
set_option maxRecDepth 100000 in
set_option maxHeartbeats 4000000 in
theorem t_X7_canHave_4 {G : GP} {X : CX} (hX : XOK G X mi_X7_canHave) {c d : Nat} {I : Hi} {L : Hl} {p : Bool} (hZ : XZ G X mi_X7_canHave (some (.int (bI p))) S0 I (R0 c d) L) : ∀ (n : Nat) (x1 : Int32) (b2 : Bool) (x3 : Int32), b_X7_canHave_4 I n x1 b2 x3 = some p → AW G X 0 0 S0 I (R0 c d) L 4 [.ref 77, .int x1, .int (bI b2), .int x3] [] := by
  intro n
  induction n with
  | zero => intro x1 b2 x3 h; cases h
  | succ n ih =>
    intro x1 b2 x3 h
    rw [b_X7_canHave_4] at h
    refine aw_iload_n (pc := 4) hX 3 dX7_canHave_4 rfl rfl ?_
    refine aw_iconst (pc := 5) hX (3 : Int32) dX7_canHave_5 (by decide) ?_
    refine aw_aload_n (pc := 6) hX 0 dX7_canHave_6 rfl rfl ?_
    refine aw_getI (pc := 7) hX dX7_canHave_7 f_X7_183 rfl (by rfl) ?_
    refine aw_imul (pc := 10) hX dX7_canHave_10 ?_
    refine aw_icmp_ge (pc := 11) hX 74 dX7_canHave_11 rfl (fun hc11 => ?_) (fun hc11 => ?_)
    · have h := ite_t h hc11
      refine aw_iload_n (pc := 74) hX 2 dX7_canHave_74 rfl rfl ?_
      have e := Option.some.inj h
      subst e
      exact aw_zret hX hZ dX7_canHave_75 rfl (bI01 _) rfl rfl rfl rfl rfl rfl (Nat.le_refl _)
    · have h := ite_f h hc11
      refine aw_iload_n (pc := 14) hX 2 dX7_canHave_14 rfl rfl ?_
      refine aw_if_eq (pc := 15) hX 66 dX7_canHave_15 rfl (fun hc15 => ?_) (fun hc15 => ?_)
      · have h := ite_f h (bI0 hc15)
        exact AW.lo (t_X7_canHave_66 hX hZ (ih) x1 x3 h) (And.intro (Or.inr rfl) (And.intro (Or.inr rfl) (And.intro (Or.inl rfl) (And.intro (Or.inr rfl) trivial))))
      · have h := ite_t h (bI1 hc15)
        refine aw_iload_n (pc := 18) hX 1 dX7_canHave_18 rfl rfl ?_
        refine aw_aload_n (pc := 19) hX 0 dX7_canHave_19 rfl rfl ?_
        refine aw_getR (pc := 20) hX dX7_canHave_20 f_X7_7 rfl (by rfl) (q := 78) (by rfl) ?_
        refine aw_aload_n (pc := 23) hX 0 dX7_canHave_23 rfl rfl ?_
        refine aw_getR (pc := 24) hX dX7_canHave_24 f_X7_42 rfl (by rfl) (q := 87) (by rfl) ?_
        refine aw_iload_n (pc := 27) hX 3 dX7_canHave_27 rfl rfl ?_
        refine aw_iconst (pc := 28) hX (1 : Int32) dX7_canHave_28 (by decide) ?_
        refine aw_iadd (pc := 29) hX dX7_canHave_29 ?_
        obtain ⟨hv30, h⟩ := ite_g h
        refine aw_iaload (pc := 30) hX dX7_canHave_30 (by rfl) (vinb_in hv30) ?_
        obtain ⟨hv31, h⟩ := ite_g h
        refine aw_iaload (pc := 31) hX dX7_canHave_31 (by rfl) (vinb_in hv31) ?_
        refine aw_iand (pc := 32) hX dX7_canHave_32 ?_
        refine aw_aload_n (pc := 33) hX 0 dX7_canHave_33 rfl rfl ?_
        refine aw_getR (pc := 34) hX dX7_canHave_34 f_X7_42 rfl (by rfl) (q := 87) (by rfl) ?_
        refine aw_iload_n (pc := 37) hX 3 dX7_canHave_37 rfl rfl ?_
        obtain ⟨hv38, h⟩ := ite_g h
        refine aw_iaload (pc := 38) hX dX7_canHave_38 (by rfl) (vinb_in hv38) ?_
        obtain ⟨r39, hq39, h⟩ := bind_s h
        refine aw_S2i (pc := 39) hX h_X7_has l_X7_69 dX7_canHave_39 rfl rfl rfl (Nat.le_of_ble_eq_true rfl) (s_X7_has  hq39) ?_
        refine aw_aload_n (pc := 42) hX 0 dX7_canHave_42 rfl rfl ?_
        refine aw_getR (pc := 43) hX dX7_canHave_43 f_X7_42 rfl (by rfl) (q := 87) (by rfl) ?_
        refine aw_iload_n (pc := 46) hX 3 dX7_canHave_46 rfl rfl ?_
        refine aw_iconst (pc := 47) hX (2 : Int32) dX7_canHave_47 (by decide) ?_
        refine aw_iadd (pc := 48) hX dX7_canHave_48 ?_
        obtain ⟨hv49, h⟩ := ite_g h
        refine aw_iaload (pc := 49) hX dX7_canHave_49 (by rfl) (vinb_in hv49) ?_
        refine aw_iconst (pc := 50) hX (1 : Int32) dX7_canHave_50 (by decide) ?_
        refine aw_icmp_ne (pc := 51) hX 58 dX7_canHave_51 rfl (fun hc51 => ?_) (fun hc51 => ?_)
        · have h := ite_f h hc51
          refine aw_iconst (pc := 58) hX (0 : Int32) dX7_canHave_58 (by decide) ?_
          exact AW.lo (t_X7_canHave_59 hX hZ (ih) x1 x3 false r39 h) (And.intro (Or.inr rfl) (And.intro (Or.inr rfl) (And.intro (Or.inl rfl) (And.intro (Or.inr rfl) trivial))))
        · have h := ite_t h hc51
          refine aw_iconst (pc := 54) hX (1 : Int32) dX7_canHave_54 (by decide) ?_
          refine aw_goto (pc := 55) hX 59 dX7_canHave_55 rfl ?_
          exact AW.lo (t_X7_canHave_59 hX hZ (ih) x1 x3 true r39 h) (And.intro (Or.inr rfl) (And.intro (Or.inr rfl) (And.intro (Or.inl rfl) (And.intro (Or.inr rfl) trivial))))
def f_X7_canHave (I : Hi) (x1 : Int32) : Option (Bool) := b_X7_canHave_4 I 2000 x1 true (0 : Int32)
set_option maxRecDepth 100000 in
set_option maxHeartbeats 4000000 in
theorem s_X7_canHave {G : GP} {c d : Nat} {I : Hi} {L : Hl} {x1 : Int32} {p : Bool} (h : f_X7_canHave I x1 = some p) : CD G mi_X7_canHave [.ref 77, .int x1] S0 I (R0 c d) L (some (.int (bI p))) S0 I (R0 c d) L := by
  refine CD.intro 2 rfl (by decide) rfl fun X hX hZ => ?_
  rw [f_X7_canHave] at h
  show AW G X 0 0 S0 I (R0 c d) L 0 [.ref 77, .int x1, .null, .null] []
  refine aw_iconst (pc := 0) hX (1 : Int32) dX7_canHave_0 (by decide) ?_
  refine aw_istore_nE (pc := 1) hX 2 [.ref 77, .int x1, .int (1 : Int32), .null] dX7_canHave_1 rfl (by decide) rfl rfl ?_
  refine aw_iconst (pc := 2) hX (0 : Int32) dX7_canHave_2 (by decide) ?_
  refine aw_istore_nE (pc := 3) hX 3 [.ref 77, .int x1, .int (1 : Int32), .int (0 : Int32)] dX7_canHave_3 rfl (by decide) rfl rfl ?_
  exact AW.lo (t_X7_canHave_4 hX hZ 2000 x1 true (0 : Int32) h) (And.intro (Or.inr rfl) (And.intro (Or.inr rfl) (And.intro (Or.inr rfl) (And.intro (Or.inr rfl) trivial))))
def b_X7_had_62 (I : Hi)  (x1 : Int32) (x2 : Int32) (x3 : Int32) (x4 : Int32) : Option (Int32) := if x1 = (0 : Int32) then (some (x2)) else (if x1 = (2 : Int32) then (some (x4)) else (if x2 = (0 : Int32) then (some ((-9 : Int32))) else (some (x3))))
set_option maxRecDepth 100000 in
set_option maxHeartbeats 4000000 in
theorem t_X7_had_62 {G : GP} {X : CX} (hX : XOK G X mi_X7_had) {c d : Nat} {I : Hi} {L : Hl} {p : Int32} (hZ : XZ G X mi_X7_had (some (.int p)) S0 I (R0 c d) L) (x1 : Int32) (x2 : Int32) (x3 : Int32) (x4 : Int32) (h : b_X7_had_62 I x1 x2 x3 x4 = some p) : AW G X 0 0 S0 I (R0 c d) L 62 [.null, .int x1, .int x2, .int x3, .int x4, .null] [] := by
  rw [b_X7_had_62] at h
  refine aw_iload_n (pc := 62) hX 1 dX7_had_62 rfl rfl ?_
  refine aw_if_ne (pc := 63) hX 70 dX7_had_63 rfl (fun hc63 => ?_) (fun hc63 => ?_)
  · have h := ite_f h hc63
    refine aw_iload_n (pc := 70) hX 1 dX7_had_70 rfl rfl ?_
    refine aw_iconst (pc := 71) hX (2 : Int32) dX7_had_71 (by decide) ?_
    refine aw_icmp_ne (pc := 72) hX 80 dX7_had_72 rfl (fun hc72 => ?_) (fun hc72 => ?_)
    · have h := ite_f h hc72
      refine aw_iload_n (pc := 80) hX 2 dX7_had_80 rfl rfl ?_
      refine aw_if_ne (pc := 81) hX 89 dX7_had_81 rfl (fun hc81 => ?_) (fun hc81 => ?_)
      · have h := ite_f h hc81
        refine aw_iload_n (pc := 89) hX 3 dX7_had_89 rfl rfl ?_
        have e := Option.some.inj h
        subst e
        exact aw_iret hX hZ dX7_had_90 rfl rfl rfl rfl rfl rfl rfl (Nat.le_refl _)
      · have h := ite_t h hc81
        refine aw_bipush (pc := 84) hX (-9 : Int32) dX7_had_84 (by decide) ?_
        refine aw_goto (pc := 86) hX 90 dX7_had_86 rfl ?_
        have e := Option.some.inj h
        subst e
        exact aw_iret hX hZ dX7_had_90 rfl rfl rfl rfl rfl rfl rfl (Nat.le_refl _)
    · have h := ite_t h hc72
      refine aw_iload (pc := 75) hX dX7_had_75 rfl ?_
      refine aw_goto (pc := 77) hX 90 dX7_had_77 rfl ?_
      have e := Option.some.inj h
      subst e
      exact aw_iret hX hZ dX7_had_90 rfl rfl rfl rfl rfl rfl rfl (Nat.le_refl _)
  · have h := ite_t h hc63
    refine aw_iload_n (pc := 66) hX 2 dX7_had_66 rfl rfl ?_
    refine aw_goto (pc := 67) hX 90 dX7_had_67 rfl ?_
    have e := Option.some.inj h
    subst e
    exact aw_iret hX hZ dX7_had_90 rfl rfl rfl rfl rfl rfl rfl (Nat.le_refl _)
def b_X7_had_56 (I : Hi) (k25 : Int32 → Int32 → Int32 → Int32 → Int32 → Option (Int32)) (x1 : Int32) (x2 : Int32) (x3 : Int32) (x4 : Int32) (x5 : Int32) : Option (Int32) := k25 x1 x2 x3 x4 (x5 + 1)
set_option maxRecDepth 100000 in
set_option maxHeartbeats 4000000 in
theorem t_X7_had_56 {G : GP} {X : CX} (hX : XOK G X mi_X7_had) {c d : Nat} {I : Hi} {L : Hl} {p : Int32} (hZ : XZ G X mi_X7_had (some (.int p)) S0 I (R0 c d) L) {k25 : Int32 → Int32 → Int32 → Int32 → Int32 → Option (Int32)} (hk25 : ∀ (x1 : Int32) (x2 : Int32) (x3 : Int32) (x4 : Int32) (x5 : Int32), k25 x1 x2 x3 x4 x5 = some p → AW G X 0 0 S0 I (R0 c d) L 25 [.ref 77, .int x1, .int x2, .int x3, .int x4, .int x5] []) (x1 : Int32) (x2 : Int32) (x3 : Int32) (x4 : Int32) (x5 : Int32) (h : b_X7_had_56 I k25 x1 x2 x3 x4 x5 = some p) : AW G X 0 0 S0 I (R0 c d) L 56 [.ref 77, .int x1, .int x2, .int x3, .int x4, .int x5] [] := by
  rw [b_X7_had_56] at h
  refine aw_iincE (pc := 56) hX (x5 + 1) [.ref 77, .int x1, .int x2, .int x3, .int x4, .int (x5 + 1)] dX7_had_56 rfl rfl (by decide) rfl rfl ?_
  refine aw_goto (pc := 59) hX 25 dX7_had_59 rfl ?_
  exact AW.lo (hk25 x1 x2 x3 x4 (x5 + 1)  h) (And.intro (Or.inr rfl) (And.intro (Or.inr rfl) (And.intro (Or.inr rfl) (And.intro (Or.inr rfl) (And.intro (Or.inr rfl) (And.intro (Or.inr rfl) trivial))))))
def b_X7_had_25 (I : Hi)  : Nat → Int32 → Int32 → Int32 → Int32 → Int32 → Option (Int32)
  | 0, _, _, _, _, _ => none
  | n + 1, x1, x2, x3, x4, x5 => if (64 : Int32) ≤ x5 then (b_X7_had_62 I x1 x2 x3 x4) else ((f_X7_canHave I x5).bind fun r35 => if r35 = true then (b_X7_had_56 I (b_X7_had_25 I n) x1 (x2 + 1) (x3 &&& x5) (x4 ||| x5) x5) else (b_X7_had_56 I (b_X7_had_25 I n) x1 x2 x3 x4 x5))
set_option maxRecDepth 100000 in
set_option maxHeartbeats 4000000 in
theorem t_X7_had_25 {G : GP} {X : CX} (hX : XOK G X mi_X7_had) {c d : Nat} {I : Hi} {L : Hl} {p : Int32} (hZ : XZ G X mi_X7_had (some (.int p)) S0 I (R0 c d) L) : ∀ (n : Nat) (x1 : Int32) (x2 : Int32) (x3 : Int32) (x4 : Int32) (x5 : Int32), b_X7_had_25 I n x1 x2 x3 x4 x5 = some p → AW G X 0 0 S0 I (R0 c d) L 25 [.ref 77, .int x1, .int x2, .int x3, .int x4, .int x5] [] := by
  intro n
  induction n with
  | zero => intro x1 x2 x3 x4 x5 h; cases h
  | succ n ih =>
    intro x1 x2 x3 x4 x5 h
    rw [b_X7_had_25] at h
    refine aw_iload (pc := 25) hX dX7_had_25 rfl ?_
    refine aw_bipush (pc := 27) hX (64 : Int32) dX7_had_27 (by decide) ?_
    refine aw_icmp_ge (pc := 29) hX 62 dX7_had_29 rfl (fun hc29 => ?_) (fun hc29 => ?_)
    · have h := ite_t h hc29
      exact AW.lo (t_X7_had_62 hX hZ x1 x2 x3 x4 h) (And.intro (Or.inl rfl) (And.intro (Or.inr rfl) (And.intro (Or.inr rfl) (And.intro (Or.inr rfl) (And.intro (Or.inr rfl) (And.intro (Or.inl rfl) trivial))))))
    · have h := ite_f h hc29
      refine aw_aload_n (pc := 32) hX 0 dX7_had_32 rfl rfl ?_
      refine aw_iload (pc := 33) hX dX7_had_33 rfl ?_
      obtain ⟨r35, hq35, h⟩ := bind_s h
      refine aw_V1i (pc := 35) hX h_X7_canHave l_X7_235 dX7_had_35 (by rfl) (by decide) (by rfl) rfl rfl rfl (Nat.le_of_ble_eq_true rfl) (s_X7_canHave  hq35) ?_
      refine aw_if_eq (pc := 38) hX 56 dX7_had_38 rfl (fun hc38 => ?_) (fun hc38 => ?_)
      · have h := ite_f h (bI0 hc38)
        exact AW.lo (t_X7_had_56 hX hZ (ih) x1 x2 x3 x4 x5 h) (And.intro (Or.inr rfl) (And.intro (Or.inr rfl) (And.intro (Or.inr rfl) (And.intro (Or.inr rfl) (And.intro (Or.inr rfl) (And.intro (Or.inr rfl) trivial))))))
      · have h := ite_t h (bI1 hc38)
        refine aw_iincE (pc := 41) hX (x2 + 1) [.ref 77, .int x1, .int (x2 + 1), .int x3, .int x4, .int x5] dX7_had_41 rfl rfl (by decide) rfl rfl ?_
        refine aw_iload_n (pc := 44) hX 3 dX7_had_44 rfl rfl ?_
        refine aw_iload (pc := 45) hX dX7_had_45 rfl ?_
        refine aw_iand (pc := 47) hX dX7_had_47 ?_
        refine aw_istore_nE (pc := 48) hX 3 [.ref 77, .int x1, .int (x2 + 1), .int (x3 &&& x5), .int x4, .int x5] dX7_had_48 rfl (by decide) rfl rfl ?_
        refine aw_iload (pc := 49) hX dX7_had_49 rfl ?_
        refine aw_iload (pc := 51) hX dX7_had_51 rfl ?_
        refine aw_ior (pc := 53) hX dX7_had_53 ?_
        refine aw_istoreE (pc := 54) hX [.ref 77, .int x1, .int (x2 + 1), .int (x3 &&& x5), .int (x4 ||| x5), .int x5] dX7_had_54 (by decide) rfl rfl ?_
        exact AW.lo (t_X7_had_56 hX hZ (ih) x1 (x2 + 1) (x3 &&& x5) (x4 ||| x5) x5 h) (And.intro (Or.inr rfl) (And.intro (Or.inr rfl) (And.intro (Or.inr rfl) (And.intro (Or.inr rfl) (And.intro (Or.inr rfl) (And.intro (Or.inr rfl) trivial))))))
def f_X7_had (I : Hi) (x1 : Int32) : Option (Int32) := (f_X7_in (x1).toInt64 (0 : Int64) (2 : Int64)).bind fun r6 => if r6 = true then (b_X7_had_25 I 2000 x1 (0 : Int32) (63 : Int32) (0 : Int32) (0 : Int32)) else (some ((-1 : Int32)))
set_option maxRecDepth 100000 in
set_option maxHeartbeats 4000000 in
theorem s_X7_had {G : GP} {c d : Nat} {I : Hi} {L : Hl} {x1 : Int32} {p : Int32} (h : f_X7_had I x1 = some p) : CD G mi_X7_had [.ref 77, .int x1] S0 I (R0 c d) L (some (.int p)) S0 I (R0 c d) L := by
  refine CD.intro 4 rfl (by decide) rfl fun X hX hZ => ?_
  rw [f_X7_had] at h
  show AW G X 0 0 S0 I (R0 c d) L 0 [.ref 77, .int x1, .null, .null, .null, .null] []
  refine aw_iload_n (pc := 0) hX 1 dX7_had_0 rfl rfl ?_
  refine aw_i2l (pc := 1) hX dX7_had_1 ?_
  refine aw_lconst (pc := 2) hX (0 : Int64) dX7_had_2 (by decide) ?_
  refine aw_ldc2 (pc := 3) hX dX7_had_3 v_X7_233 ?_
  obtain ⟨r6, hq6, h⟩ := bind_s h
  refine aw_S3i (pc := 6) hX h_X7_in l_X7_75 dX7_had_6 rfl rfl rfl (Nat.le_of_ble_eq_true rfl) (s_X7_in  hq6) ?_
  refine aw_if_ne (pc := 9) hX 14 dX7_had_9 rfl (fun hc9 => ?_) (fun hc9 => ?_)
  · have h := ite_t h (bI1 hc9)
    refine aw_iconst (pc := 14) hX (0 : Int32) dX7_had_14 (by decide) ?_
    refine aw_istore_nE (pc := 15) hX 2 [.ref 77, .int x1, .int (0 : Int32), .null, .null, .null] dX7_had_15 rfl (by decide) rfl rfl ?_
    refine aw_bipush (pc := 16) hX (63 : Int32) dX7_had_16 (by decide) ?_
    refine aw_istore_nE (pc := 18) hX 3 [.ref 77, .int x1, .int (0 : Int32), .int (63 : Int32), .null, .null] dX7_had_18 rfl (by decide) rfl rfl ?_
    refine aw_iconst (pc := 19) hX (0 : Int32) dX7_had_19 (by decide) ?_
    refine aw_istoreE (pc := 20) hX [.ref 77, .int x1, .int (0 : Int32), .int (63 : Int32), .int (0 : Int32), .null] dX7_had_20 (by decide) rfl rfl ?_
    refine aw_iconst (pc := 22) hX (0 : Int32) dX7_had_22 (by decide) ?_
    refine aw_istoreE (pc := 23) hX [.ref 77, .int x1, .int (0 : Int32), .int (63 : Int32), .int (0 : Int32), .int (0 : Int32)] dX7_had_23 (by decide) rfl rfl ?_
    exact AW.lo (t_X7_had_25 hX hZ 2000 x1 (0 : Int32) (63 : Int32) (0 : Int32) (0 : Int32) h) (And.intro (Or.inr rfl) (And.intro (Or.inr rfl) (And.intro (Or.inr rfl) (And.intro (Or.inr rfl) (And.intro (Or.inr rfl) (And.intro (Or.inr rfl) trivial))))))
  · have h := ite_f h (bI0 hc9)
    refine aw_iconst (pc := 12) hX (-1 : Int32) dX7_had_12 (by decide) ?_
    have e := Option.some.inj h
    subst e
    exact aw_iret hX hZ dX7_had_13 rfl rfl rfl rfl rfl rfl rfl (Nat.le_refl _)
