def f_X5_readLane (a1 : Nat) (I : Hi)  : Option (Bool × Hi) := if (I (1) 5) = (0 : Int32) then ((f_X5_step I).bind fun r10 => (f_X5_isNumber r10 (1 : Int32) (9 : Int32)).bind fun r17 => if r17 = true then ((f_X5_number r10).bind fun r27 => (some (u2 r10 (a1) 9 r27)).bind fun I30 => (some (u2 I30 (1) 5 (1 : Int32))).bind fun I35 => (f_X5_step I35).bind fun r39 => some (true, r39)) else (some (false, r10))) else (some (false, I))
set_option maxRecDepth 100000 in
set_option maxHeartbeats 4000000 in
theorem s_X5_readLane {G : GP} {a1 : Nat} (ha1 : isC a1) {c d : Nat} {I : Hi} {L : Hl}  {p : Bool × Hi} (h : f_X5_readLane a1 I = some p) : CD G mi_X5_readLane [.ref 1, .ref a1] S0 I (R0 c d) L (some (.int (bI p.1))) S0 p.2 (R0 c d) L := by
  refine CD.intro 0 rfl (by decide) rfl fun X hX hZ => ?_
  rw [f_X5_readLane] at h
  show AW G X 0 0 S0 I (R0 c d) L 0 [.ref 1, .ref a1] []
  refine aw_aload_n (pc := 0) hX 0 dX5_readLane_0 rfl rfl ?_
  refine aw_getI (pc := 1) hX dX5_readLane_1 f_X5_28 rfl (by rfl) ?_
  refine aw_if_eq (pc := 4) hX 9 dX5_readLane_4 rfl (fun hc4 => ?_) (fun hc4 => ?_)
  · have h := ite_t h hc4
    refine aw_aload_n (pc := 9) hX 0 dX5_readLane_9 rfl rfl ?_
    obtain ⟨r10, hq10, h⟩ := bind_s h
    refine aw_V0v (pc := 10) hX h_X5_step l_X5_37 dX5_readLane_10 (by rfl) (by decide) (by rfl) rfl rfl rfl (Nat.le_of_ble_eq_true rfl) (s_X5_step  hq10) ?_
    refine aw_aload_n (pc := 13) hX 0 dX5_readLane_13 rfl rfl ?_
    refine aw_iconst (pc := 14) hX (1 : Int32) dX5_readLane_14 (by decide) ?_
    refine aw_bipush (pc := 15) hX (9 : Int32) dX5_readLane_15 (by decide) ?_
    obtain ⟨r17, hq17, h⟩ := bind_s h
    refine aw_V2i (pc := 17) hX h_X5_isNumber l_X5_92 dX5_readLane_17 (by rfl) (by decide) (by rfl) rfl rfl rfl (Nat.le_of_ble_eq_true rfl) (s_X5_isNumber  hq17) ?_
    refine aw_if_ne (pc := 20) hX 25 dX5_readLane_20 rfl (fun hc20 => ?_) (fun hc20 => ?_)
    · have h := ite_t h (bI1 hc20)
      refine aw_aload_n (pc := 25) hX 1 dX5_readLane_25 rfl rfl ?_
      refine aw_aload_n (pc := 26) hX 0 dX5_readLane_26 rfl rfl ?_
      obtain ⟨r27, hq27, h⟩ := bind_s h
      refine aw_V0i (pc := 27) hX h_X5_number l_X5_96 dX5_readLane_27 (by rfl) (by decide) (by rfl) rfl rfl rfl (Nat.le_of_ble_eq_true rfl) (s_X5_number  hq27) ?_
      refine aw_putI (pc := 30) hX dX5_readLane_30 f_X5_105 rfl rfl (by first | rfl | decide) (by first | rfl | decide) (csh0 ha1) ?_
      obtain ⟨I30, hi30, h⟩ := bind_s h
      refine AW.iEq hi30 ?_
      refine aw_aload_n (pc := 33) hX 0 dX5_readLane_33 rfl rfl ?_
      refine aw_iconst (pc := 34) hX (1 : Int32) dX5_readLane_34 (by decide) ?_
      refine aw_putI (pc := 35) hX dX5_readLane_35 f_X5_28 rfl rfl (by first | rfl | decide) (by first | rfl | decide) (by rfl) ?_
      obtain ⟨I35, hi35, h⟩ := bind_s h
      refine AW.iEq hi35 ?_
      refine aw_aload_n (pc := 38) hX 0 dX5_readLane_38 rfl rfl ?_
      obtain ⟨r39, hq39, h⟩ := bind_s h
      refine aw_V0v (pc := 39) hX h_X5_step l_X5_37 dX5_readLane_39 (by rfl) (by decide) (by rfl) rfl rfl rfl (Nat.le_of_ble_eq_true rfl) (s_X5_step  hq39) ?_
      refine aw_iconst (pc := 42) hX (1 : Int32) dX5_readLane_42 (by decide) ?_
      have e := Option.some.inj h
      subst e
      exact aw_zret hX hZ dX5_readLane_43 rfl (bI01 _) rfl rfl rfl rfl rfl rfl (Nat.le_refl _)
    · have h := ite_f h (bI0 hc20)
      refine aw_iconst (pc := 23) hX (0 : Int32) dX5_readLane_23 (by decide) ?_
      have e := Option.some.inj h
      subst e
      exact aw_zret hX hZ dX5_readLane_24 rfl (bI01 _) rfl rfl rfl rfl rfl rfl (Nat.le_refl _)
  · have h := ite_f h hc4
    refine aw_iconst (pc := 7) hX (0 : Int32) dX5_readLane_7 (by decide) ?_
    have e := Option.some.inj h
    subst e
    exact aw_zret hX hZ dX5_readLane_8 rfl (bI01 _) rfl rfl rfl rfl rfl rfl (Nat.le_refl _)
def b_X5_readItem_131 (a1 : Nat)  (I : Hi) (b2 : Bool) : Option (Bool × Hi) := if b2 = true then (if (I (1) 2) = (3 : Int32) then ((f_X5_step I).bind fun r146 => some (true, r146)) else (some (false, I))) else (some (false, I))
set_option maxRecDepth 100000 in
set_option maxHeartbeats 4000000 in
theorem t_X5_readItem_131 {G : GP} {X : CX} (hX : XOK G X mi_X5_readItem) {a1 : Nat} (ha1 : isC a1) {c d : Nat} {L : Hl} {p : Bool × Hi} (hZ : XZ G X mi_X5_readItem (some (.int (bI p.1))) S0 p.2 (R0 c d) L) (I : Hi) (b2 : Bool) (h : b_X5_readItem_131 a1 I b2 = some p) : AW G X 0 0 S0 I (R0 c d) L 131 [.ref 1, .null, .int (bI b2)] [] := by
  rw [b_X5_readItem_131] at h
  refine aw_iload_n (pc := 131) hX 2 dX5_readItem_131 rfl rfl ?_
  refine aw_if_eq (pc := 132) hX 143 dX5_readItem_132 rfl (fun hc132 => ?_) (fun hc132 => ?_)
  · have h := ite_f h (bI0 hc132)
    refine aw_iconst (pc := 143) hX (0 : Int32) dX5_readItem_143 (by decide) ?_
    have e := Option.some.inj h
    subst e
    exact aw_zret hX hZ dX5_readItem_144 rfl (bI01 _) rfl rfl rfl rfl rfl rfl (Nat.le_refl _)
  · have h := ite_t h (bI1 hc132)
    refine aw_aload_n (pc := 135) hX 0 dX5_readItem_135 rfl rfl ?_
    refine aw_getI (pc := 136) hX dX5_readItem_136 f_X5_19 rfl (by rfl) ?_
    refine aw_iconst (pc := 139) hX (3 : Int32) dX5_readItem_139 (by decide) ?_
    refine aw_icmp_eq (pc := 140) hX 145 dX5_readItem_140 rfl (fun hc140 => ?_) (fun hc140 => ?_)
    · have h := ite_t h hc140
      refine aw_aload_n (pc := 145) hX 0 dX5_readItem_145 rfl rfl ?_
      obtain ⟨r146, hq146, h⟩ := bind_s h
      refine aw_V0v (pc := 146) hX h_X5_step l_X5_37 dX5_readItem_146 (by rfl) (by decide) (by rfl) rfl rfl rfl (Nat.le_of_ble_eq_true rfl) (s_X5_step  hq146) ?_
      refine aw_iconst (pc := 149) hX (1 : Int32) dX5_readItem_149 (by decide) ?_
      have e := Option.some.inj h
      subst e
      exact aw_zret hX hZ dX5_readItem_150 rfl (bI01 _) rfl rfl rfl rfl rfl rfl (Nat.le_refl _)
    · have h := ite_f h hc140
      refine aw_iconst (pc := 143) hX (0 : Int32) dX5_readItem_143 (by decide) ?_
      have e := Option.some.inj h
      subst e
      exact aw_zret hX hZ dX5_readItem_144 rfl (bI01 _) rfl rfl rfl rfl rfl rfl (Nat.le_refl _)
def f_X5_readItem (a1 : Nat) (I : Hi)  : Option (Bool × Hi) := if (I (1) 2) = (1 : Int32) then (if ((I (1) 4) - (I (1) 3)) = (1 : Int32) then (if vinb (I (1) 3) 160 then if (I (2) ((I (1) 3)).toNatClampNeg) = (103 : Int32) then ((f_X5_readGoer (a1) I).bind fun r95 => b_X5_readItem_131 a1 r95.2 r95.1) else (if (I (2) ((I (1) 3)).toNatClampNeg) = (107 : Int32) then ((f_X5_readFriday (a1) I).bind fun r113 => b_X5_readItem_131 a1 r113.2 r113.1) else (if (I (2) ((I (1) 3)).toNatClampNeg) = (110 : Int32) then ((f_X5_readLane (a1) I).bind fun r122 => b_X5_readItem_131 a1 r122.2 r122.1) else (if (I (2) ((I (1) 3)).toNatClampNeg) = (118 : Int32) then ((f_X5_readLeaf (a1) I).bind fun r86 => b_X5_readItem_131 a1 r86.2 r86.1) else (if (I (2) ((I (1) 3)).toNatClampNeg) = (121 : Int32) then ((f_X5_readSister (a1) I).bind fun r104 => b_X5_readItem_131 a1 r104.2 r104.1) else (b_X5_readItem_131 a1 I false))))) else none) else (some (false, I))) else (some (false, I))
set_option maxRecDepth 100000 in
set_option maxHeartbeats 4000000 in
theorem s_X5_readItem {G : GP} {a1 : Nat} (ha1 : isC a1) {c d : Nat} {I : Hi} {L : Hl}  {p : Bool × Hi} (h : f_X5_readItem a1 I = some p) : CD G mi_X5_readItem [.ref 1, .ref a1] S0 I (R0 c d) L (some (.int (bI p.1))) S0 p.2 (R0 c d) L := by
  refine CD.intro 1 rfl (by decide) rfl fun X hX hZ => ?_
  rw [f_X5_readItem] at h
  show AW G X 0 0 S0 I (R0 c d) L 0 [.ref 1, .ref a1, .null] []
  refine aw_aload_n (pc := 0) hX 0 dX5_readItem_0 rfl rfl ?_
  refine aw_getI (pc := 1) hX dX5_readItem_1 f_X5_19 rfl (by rfl) ?_
  refine aw_iconst (pc := 4) hX (1 : Int32) dX5_readItem_4 (by decide) ?_
  refine aw_icmp_ne (pc := 5) hX 21 dX5_readItem_5 rfl (fun hc5 => ?_) (fun hc5 => ?_)
  · have h := ite_f h hc5
    refine aw_iconst (pc := 21) hX (0 : Int32) dX5_readItem_21 (by decide) ?_
    have e := Option.some.inj h
    subst e
    exact aw_zret hX hZ dX5_readItem_22 rfl (bI01 _) rfl rfl rfl rfl rfl rfl (Nat.le_refl _)
  · have h := ite_t h hc5
    refine aw_aload_n (pc := 8) hX 0 dX5_readItem_8 rfl rfl ?_
    refine aw_getI (pc := 9) hX dX5_readItem_9 f_X5_25 rfl (by rfl) ?_
    refine aw_aload_n (pc := 12) hX 0 dX5_readItem_12 rfl rfl ?_
    refine aw_getI (pc := 13) hX dX5_readItem_13 f_X5_22 rfl (by rfl) ?_
    refine aw_isub (pc := 16) hX dX5_readItem_16 ?_
    refine aw_iconst (pc := 17) hX (1 : Int32) dX5_readItem_17 (by decide) ?_
    refine aw_icmp_eq (pc := 18) hX 23 dX5_readItem_18 rfl (fun hc18 => ?_) (fun hc18 => ?_)
    · have h := ite_t h hc18
      refine aw_aload_n (pc := 23) hX 0 dX5_readItem_23 rfl rfl ?_
      refine aw_getR (pc := 24) hX dX5_readItem_24 f_X5_9 rfl (by rfl) (q := 2) (by rfl) ?_
      refine aw_aload_n (pc := 27) hX 0 dX5_readItem_27 rfl rfl ?_
      refine aw_getI (pc := 28) hX dX5_readItem_28 f_X5_22 rfl (by rfl) ?_
      obtain ⟨hv31, h⟩ := ite_g h
      refine aw_iaload (pc := 31) hX dX5_readItem_31 (by rfl) (vinb_in hv31) ?_
      by_cases hs32_0 : (I (2) ((I (1) 3)).toNatClampNeg) = (103 : Int32)
      · have h := ite_t h hs32_0
        refine aw_lcase (pc := 32) (off := 61) hX (103 : Int32) 93 dX5_readItem_32 hs32_0 (by decide) (by decide) rfl ?_
        refine aw_aload_n (pc := 93) hX 0 dX5_readItem_93 rfl rfl ?_
        refine aw_aload_n (pc := 94) hX 1 dX5_readItem_94 rfl rfl ?_
        obtain ⟨r95, hq95, h⟩ := bind_s h
        refine aw_V1i (pc := 95) hX h_X5_readGoer l_X5_47 dX5_readItem_95 (by rfl) (by decide) (by rfl) rfl rfl rfl (Nat.le_of_ble_eq_true rfl) (s_X5_readGoer ha1 hq95) ?_
        refine aw_istore_nE (pc := 98) hX 2 [.ref 1, .ref a1, .int (bI r95.1)] dX5_readItem_98 rfl (by decide) rfl rfl ?_
        refine aw_goto (pc := 99) hX 131 dX5_readItem_99 rfl ?_
        exact AW.lo (t_X5_readItem_131 hX ha1 hZ r95.2 r95.1 h) (And.intro (Or.inr rfl) (And.intro (Or.inl rfl) (And.intro (Or.inr rfl) trivial)))
      have h := ite_f h hs32_0
      by_cases hs32_1 : (I (2) ((I (1) 3)).toNatClampNeg) = (107 : Int32)
      · have h := ite_t h hs32_1
        refine aw_lcase (pc := 32) (off := 79) hX (107 : Int32) 111 dX5_readItem_32 hs32_1 (by decide) (by decide) rfl ?_
        refine aw_aload_n (pc := 111) hX 0 dX5_readItem_111 rfl rfl ?_
        refine aw_aload_n (pc := 112) hX 1 dX5_readItem_112 rfl rfl ?_
        obtain ⟨r113, hq113, h⟩ := bind_s h
        refine aw_V1i (pc := 113) hX h_X5_readFriday l_X5_53 dX5_readItem_113 (by rfl) (by decide) (by rfl) rfl rfl rfl (Nat.le_of_ble_eq_true rfl) (s_X5_readFriday ha1 hq113) ?_
        refine aw_istore_nE (pc := 116) hX 2 [.ref 1, .ref a1, .int (bI r113.1)] dX5_readItem_116 rfl (by decide) rfl rfl ?_
        refine aw_goto (pc := 117) hX 131 dX5_readItem_117 rfl ?_
        exact AW.lo (t_X5_readItem_131 hX ha1 hZ r113.2 r113.1 h) (And.intro (Or.inr rfl) (And.intro (Or.inl rfl) (And.intro (Or.inr rfl) trivial)))
      have h := ite_f h hs32_1
      by_cases hs32_2 : (I (2) ((I (1) 3)).toNatClampNeg) = (110 : Int32)
      · have h := ite_t h hs32_2
        refine aw_lcase (pc := 32) (off := 88) hX (110 : Int32) 120 dX5_readItem_32 hs32_2 (by decide) (by decide) rfl ?_
        refine aw_aload_n (pc := 120) hX 0 dX5_readItem_120 rfl rfl ?_
        refine aw_aload_n (pc := 121) hX 1 dX5_readItem_121 rfl rfl ?_
        obtain ⟨r122, hq122, h⟩ := bind_s h
        refine aw_V1i (pc := 122) hX h_X5_readLane l_X5_56 dX5_readItem_122 (by rfl) (by decide) (by rfl) rfl rfl rfl (Nat.le_of_ble_eq_true rfl) (s_X5_readLane ha1 hq122) ?_
        refine aw_istore_nE (pc := 125) hX 2 [.ref 1, .ref a1, .int (bI r122.1)] dX5_readItem_125 rfl (by decide) rfl rfl ?_
        refine aw_goto (pc := 126) hX 131 dX5_readItem_126 rfl ?_
        exact AW.lo (t_X5_readItem_131 hX ha1 hZ r122.2 r122.1 h) (And.intro (Or.inr rfl) (And.intro (Or.inl rfl) (And.intro (Or.inr rfl) trivial)))
      have h := ite_f h hs32_2
      by_cases hs32_3 : (I (2) ((I (1) 3)).toNatClampNeg) = (118 : Int32)
      · have h := ite_t h hs32_3
        refine aw_lcase (pc := 32) (off := 52) hX (118 : Int32) 84 dX5_readItem_32 hs32_3 (by decide) (by decide) rfl ?_
        refine aw_aload_n (pc := 84) hX 0 dX5_readItem_84 rfl rfl ?_
        refine aw_aload_n (pc := 85) hX 1 dX5_readItem_85 rfl rfl ?_
        obtain ⟨r86, hq86, h⟩ := bind_s h
        refine aw_V1i (pc := 86) hX h_X5_readLeaf l_X5_44 dX5_readItem_86 (by rfl) (by decide) (by rfl) rfl rfl rfl (Nat.le_of_ble_eq_true rfl) (s_X5_readLeaf ha1 hq86) ?_
        refine aw_istore_nE (pc := 89) hX 2 [.ref 1, .ref a1, .int (bI r86.1)] dX5_readItem_89 rfl (by decide) rfl rfl ?_
        refine aw_goto (pc := 90) hX 131 dX5_readItem_90 rfl ?_
        exact AW.lo (t_X5_readItem_131 hX ha1 hZ r86.2 r86.1 h) (And.intro (Or.inr rfl) (And.intro (Or.inl rfl) (And.intro (Or.inr rfl) trivial)))
      have h := ite_f h hs32_3
      by_cases hs32_4 : (I (2) ((I (1) 3)).toNatClampNeg) = (121 : Int32)
      · have h := ite_t h hs32_4
        refine aw_lcase (pc := 32) (off := 70) hX (121 : Int32) 102 dX5_readItem_32 hs32_4 (by decide) (by decide) rfl ?_
        refine aw_aload_n (pc := 102) hX 0 dX5_readItem_102 rfl rfl ?_
        refine aw_aload_n (pc := 103) hX 1 dX5_readItem_103 rfl rfl ?_
        obtain ⟨r104, hq104, h⟩ := bind_s h
        refine aw_V1i (pc := 104) hX h_X5_readSister l_X5_50 dX5_readItem_104 (by rfl) (by decide) (by rfl) rfl rfl rfl (Nat.le_of_ble_eq_true rfl) (s_X5_readSister ha1 hq104) ?_
        refine aw_istore_nE (pc := 107) hX 2 [.ref 1, .ref a1, .int (bI r104.1)] dX5_readItem_107 rfl (by decide) rfl rfl ?_
        refine aw_goto (pc := 108) hX 131 dX5_readItem_108 rfl ?_
        exact AW.lo (t_X5_readItem_131 hX ha1 hZ r104.2 r104.1 h) (And.intro (Or.inr rfl) (And.intro (Or.inl rfl) (And.intro (Or.inr rfl) trivial)))
      have h := ite_f h hs32_4
      refine aw_lookup (pc := 32) (off := 97) hX 129 dX5_readItem_32 (by decide) (by rw [lv_osw hs32_0 (by decide), lv_osw hs32_1 (by decide), lv_osw hs32_2 (by decide), lv_osw hs32_3 (by decide), lv_osw hs32_4 (by decide)] <;> rfl) rfl ?_
      refine aw_iconst (pc := 129) hX (0 : Int32) dX5_readItem_129 (by decide) ?_
      refine aw_istore_nE (pc := 130) hX 2 [.ref 1, .ref a1, .int (0 : Int32)] dX5_readItem_130 rfl (by decide) rfl rfl ?_
      exact AW.lo (t_X5_readItem_131 hX ha1 hZ I false h) (And.intro (Or.inr rfl) (And.intro (Or.inl rfl) (And.intro (Or.inr rfl) trivial)))
    · have h := ite_f h hc18
      refine aw_iconst (pc := 21) hX (0 : Int32) dX5_readItem_21 (by decide) ?_
      have e := Option.some.inj h
      subst e
      exact aw_zret hX hZ dX5_readItem_22 rfl (bI01 _) rfl rfl rfl rfl rfl rfl (Nat.le_refl _)
def b_X5_readInto_42 (a1 : Nat)  (I : Hi) : Option (Int32 × Hi) := some (((-10 : Int32) - (I (1) 3)), I)
set_option maxRecDepth 100000 in
set_option maxHeartbeats 4000000 in
theorem t_X5_readInto_42 {G : GP} {X : CX} (hX : XOK G X mi_X5_readInto) {a1 : Nat} (ha1 : isC a1) {c d : Nat} {L : Hl} {p : Int32 × Hi} (hZ : XZ G X mi_X5_readInto (some (.int p.1)) S0 p.2 (R0 c d) L) (I : Hi) (h : b_X5_readInto_42 a1 I = some p) : AW G X 0 0 S0 I (R0 c d) L 42 [.ref 1, .null, .null] [] := by
  rw [b_X5_readInto_42] at h
  refine aw_bipush (pc := 42) hX (-10 : Int32) dX5_readInto_42 (by decide) ?_
  refine aw_aload_n (pc := 44) hX 0 dX5_readInto_44 rfl rfl ?_
  refine aw_getI (pc := 45) hX dX5_readInto_45 f_X5_22 rfl (by rfl) ?_
  refine aw_isub (pc := 48) hX dX5_readInto_48 ?_
  have e := Option.some.inj h
  subst e
  exact aw_iret hX hZ dX5_readInto_49 rfl rfl rfl rfl rfl rfl rfl (Nat.le_refl _)
def b_X5_readInto_20 (a1 : Nat)  : Nat → Hi → Int32 → Option (Int32 × Hi)
  | 0, _, _ => none
  | n + 1, I, x2 => if (I (1) 2) = (0 : Int32) then (some (x2, I)) else (if (160 : Int32) ≤ x2 then (some (x2, I)) else ((f_X5_readItem (a1) I).bind fun r36 => if r36.1 = true then (b_X5_readInto_20 a1 n r36.2 (x2 + 1)) else (b_X5_readInto_42 a1 r36.2)))
set_option maxRecDepth 100000 in
set_option maxHeartbeats 4000000 in
theorem t_X5_readInto_20 {G : GP} {X : CX} (hX : XOK G X mi_X5_readInto) {a1 : Nat} (ha1 : isC a1) {c d : Nat} {L : Hl} {p : Int32 × Hi} (hZ : XZ G X mi_X5_readInto (some (.int p.1)) S0 p.2 (R0 c d) L) : ∀ (n : Nat) (I : Hi) (x2 : Int32), b_X5_readInto_20 a1 n I x2 = some p → AW G X 0 0 S0 I (R0 c d) L 20 [.ref 1, .ref a1, .int x2] [] := by
  intro n
  induction n with
  | zero => intro I x2 h; cases h
  | succ n ih =>
    intro I x2 h
    rw [b_X5_readInto_20] at h
    refine aw_aload_n (pc := 20) hX 0 dX5_readInto_20 rfl rfl ?_
    refine aw_getI (pc := 21) hX dX5_readInto_21 f_X5_19 rfl (by rfl) ?_
    refine aw_if_eq (pc := 24) hX 56 dX5_readInto_24 rfl (fun hc24 => ?_) (fun hc24 => ?_)
    · have h := ite_t h hc24
      refine aw_iload_n (pc := 56) hX 2 dX5_readInto_56 rfl rfl ?_
      have e := Option.some.inj h
      subst e
      exact aw_iret hX hZ dX5_readInto_57 rfl rfl rfl rfl rfl rfl rfl (Nat.le_refl _)
    · have h := ite_f h hc24
      refine aw_iload_n (pc := 27) hX 2 dX5_readInto_27 rfl rfl ?_
      refine aw_sipush (pc := 28) hX (160 : Int32) dX5_readInto_28 (by decide) ?_
      refine aw_icmp_ge (pc := 31) hX 56 dX5_readInto_31 rfl (fun hc31 => ?_) (fun hc31 => ?_)
      · have h := ite_t h hc31
        refine aw_iload_n (pc := 56) hX 2 dX5_readInto_56 rfl rfl ?_
        have e := Option.some.inj h
        subst e
        exact aw_iret hX hZ dX5_readInto_57 rfl rfl rfl rfl rfl rfl rfl (Nat.le_refl _)
      · have h := ite_f h hc31
        refine aw_aload_n (pc := 34) hX 0 dX5_readInto_34 rfl rfl ?_
        refine aw_aload_n (pc := 35) hX 1 dX5_readInto_35 rfl rfl ?_
        obtain ⟨r36, hq36, h⟩ := bind_s h
        refine aw_V1i (pc := 36) hX h_X5_readItem l_X5_40 dX5_readInto_36 (by rfl) (by decide) (by rfl) rfl rfl rfl (Nat.le_of_ble_eq_true rfl) (s_X5_readItem ha1 hq36) ?_
        refine aw_if_ne (pc := 39) hX 50 dX5_readInto_39 rfl (fun hc39 => ?_) (fun hc39 => ?_)
        · have h := ite_t h (bI1 hc39)
          refine aw_iincE (pc := 50) hX (x2 + 1) [.ref 1, .ref a1, .int (x2 + 1)] dX5_readInto_50 rfl rfl (by decide) rfl rfl ?_
          refine aw_goto (pc := 53) hX 20 dX5_readInto_53 rfl ?_
          exact AW.lo (ih r36.2 (x2 + 1)  h) (And.intro (Or.inr rfl) (And.intro (Or.inr rfl) (And.intro (Or.inr rfl) trivial)))
        · have h := ite_f h (bI0 hc39)
          exact AW.lo (t_X5_readInto_42 hX ha1 hZ r36.2 h) (And.intro (Or.inr rfl) (And.intro (Or.inl rfl) (And.intro (Or.inl rfl) trivial)))
def f_X5_readInto (a1 : Nat) (I : Hi)  : Option (Int32 × Hi) := (f_X0_startAnew (a1) I).bind fun r1 => (some (u2 r1 (1) 5 (0 : Int32))).bind fun I6 => (some (u2 I6 (1) 4 (0 : Int32))).bind fun I11 => (f_X5_step I11).bind fun r15 => b_X5_readInto_20 a1 2000 r15 (0 : Int32)
set_option maxRecDepth 100000 in
set_option maxHeartbeats 4000000 in
theorem s_X5_readInto {G : GP} {a1 : Nat} (ha1 : isC a1) {c d : Nat} {I : Hi} {L : Hl}  {p : Int32 × Hi} (h : f_X5_readInto a1 I = some p) : CD G mi_X5_readInto [.ref 1, .ref a1] S0 I (R0 c d) L (some (.int p.1)) S0 p.2 (R0 c d) L := by
  refine CD.intro 1 rfl (by decide) rfl fun X hX hZ => ?_
  rw [f_X5_readInto] at h
  show AW G X 0 0 S0 I (R0 c d) L 0 [.ref 1, .ref a1, .null] []
  refine aw_aload_n (pc := 0) hX 1 dX5_readInto_0 rfl rfl ?_
  obtain ⟨r1, hq1, h⟩ := bind_s h
  refine aw_V0v (pc := 1) hX h_X0_startAnew l_X5_32 dX5_readInto_1 (csh0 ha1) (by decide) (by rfl) rfl rfl rfl (Nat.le_of_ble_eq_true rfl) (s_X0_startAnew ha1 hq1) ?_
  refine aw_aload_n (pc := 4) hX 0 dX5_readInto_4 rfl rfl ?_
  refine aw_iconst (pc := 5) hX (0 : Int32) dX5_readInto_5 (by decide) ?_
  refine aw_putI (pc := 6) hX dX5_readInto_6 f_X5_28 rfl rfl (by first | rfl | decide) (by first | rfl | decide) (by rfl) ?_
  obtain ⟨I6, hi6, h⟩ := bind_s h
  refine AW.iEq hi6 ?_
  refine aw_aload_n (pc := 9) hX 0 dX5_readInto_9 rfl rfl ?_
  refine aw_iconst (pc := 10) hX (0 : Int32) dX5_readInto_10 (by decide) ?_
  refine aw_putI (pc := 11) hX dX5_readInto_11 f_X5_25 rfl rfl (by first | rfl | decide) (by first | rfl | decide) (by rfl) ?_
  obtain ⟨I11, hi11, h⟩ := bind_s h
  refine AW.iEq hi11 ?_
  refine aw_aload_n (pc := 14) hX 0 dX5_readInto_14 rfl rfl ?_
  obtain ⟨r15, hq15, h⟩ := bind_s h
  refine aw_V0v (pc := 15) hX h_X5_step l_X5_37 dX5_readInto_15 (by rfl) (by decide) (by rfl) rfl rfl rfl (Nat.le_of_ble_eq_true rfl) (s_X5_step  hq15) ?_
  refine aw_iconst (pc := 18) hX (0 : Int32) dX5_readInto_18 (by decide) ?_
  refine aw_istore_nE (pc := 19) hX 2 [.ref 1, .ref a1, .int (0 : Int32)] dX5_readInto_19 rfl (by decide) rfl rfl ?_
  exact AW.lo (t_X5_readInto_20 hX ha1 hZ 2000 r15 (0 : Int32) h) (And.intro (Or.inr rfl) (And.intro (Or.inr rfl) (And.intro (Or.inr rfl) trivial)))
def f_X6_type (I : Hi) (x1 : Int32) : Option (Int32 × Hi) := if x1 < (0 : Int32) then (some ((-1 : Int32), I)) else (if x1 ≤ (255 : Int32) then (if (I (1) 1) < (160 : Int32) then (if vinb (I (1) 1) 160 then (some (u2 I (2) ((I (1) 1)).toNatClampNeg x1)).bind fun I44 => (some (u2 I44 (1) 1 ((I44 (1) 1) + (1 : Int32)))).bind fun I55 => some ((I55 (1) 1), I55) else none) else (some ((-3 : Int32), I))) else (some ((-1 : Int32), I)))
set_option maxRecDepth 100000 in
set_option maxHeartbeats 4000000 in
theorem s_X6_type {G : GP} {c d : Nat} {I : Hi} {L : Hl} {x1 : Int32} {p : Int32 × Hi} (h : f_X6_type I x1 = some p) : CD G mi_X6_type [.ref 0, .int x1] S0 I (R0 c d) L (some (.int p.1)) S0 p.2 (R0 c d) L := by
  refine CD.intro 0 rfl (by decide) rfl fun X hX hZ => ?_
  rw [f_X6_type] at h
  show AW G X 0 0 S0 I (R0 c d) L 0 [.ref 0, .int x1] []
  refine aw_iload_n (pc := 0) hX 1 dX6_type_0 rfl rfl ?_
  refine aw_if_lt (pc := 1) hX 11 dX6_type_1 rfl (fun hc1 => ?_) (fun hc1 => ?_)
  · have h := ite_t h hc1
    refine aw_iconst (pc := 11) hX (-1 : Int32) dX6_type_11 (by decide) ?_
    have e := Option.some.inj h
    subst e
    exact aw_iret hX hZ dX6_type_12 rfl rfl rfl rfl rfl rfl rfl (Nat.le_refl _)
  · have h := ite_f h hc1
    refine aw_iload_n (pc := 4) hX 1 dX6_type_4 rfl rfl ?_
    refine aw_sipush (pc := 5) hX (255 : Int32) dX6_type_5 (by decide) ?_
    refine aw_icmp_le (pc := 8) hX 13 dX6_type_8 rfl (fun hc8 => ?_) (fun hc8 => ?_)
    · have h := ite_t h hc8
      refine aw_aload_n (pc := 13) hX 0 dX6_type_13 rfl rfl ?_
      refine aw_getR (pc := 14) hX dX6_type_14 f_X6_10 rfl (by rfl) (q := 1) (by rfl) ?_
      refine aw_getI (pc := 17) hX dX6_type_17 f_X6_66 rfl (by rfl) ?_
      refine aw_sipush (pc := 20) hX (160 : Int32) dX6_type_20 (by decide) ?_
      refine aw_icmp_lt (pc := 23) hX 29 dX6_type_23 rfl (fun hc23 => ?_) (fun hc23 => ?_)
      · have h := ite_t h hc23
        refine aw_aload_n (pc := 29) hX 0 dX6_type_29 rfl rfl ?_
        refine aw_getR (pc := 30) hX dX6_type_30 f_X6_10 rfl (by rfl) (q := 1) (by rfl) ?_
        refine aw_getR (pc := 33) hX dX6_type_33 f_X6_70 rfl (by rfl) (q := 2) (by rfl) ?_
        refine aw_aload_n (pc := 36) hX 0 dX6_type_36 rfl rfl ?_
        refine aw_getR (pc := 37) hX dX6_type_37 f_X6_10 rfl (by rfl) (q := 1) (by rfl) ?_
        refine aw_getI (pc := 40) hX dX6_type_40 f_X6_66 rfl (by rfl) ?_
        refine aw_iload_n (pc := 43) hX 1 dX6_type_43 rfl rfl ?_
        obtain ⟨hv44, h⟩ := ite_g h
        refine aw_iastore (pc := 44) hX dX6_type_44 (by rfl) (vinb_in hv44) ?_
        obtain ⟨I44, hi44, h⟩ := bind_s h
        refine AW.iEq hi44 ?_
        refine aw_aload_n (pc := 45) hX 0 dX6_type_45 rfl rfl ?_
        refine aw_getR (pc := 46) hX dX6_type_46 f_X6_10 rfl (by rfl) (q := 1) (by rfl) ?_
        refine aw_dup (pc := 49) hX dX6_type_49 rfl ?_
        refine aw_getI (pc := 50) hX dX6_type_50 f_X6_66 rfl (by rfl) ?_
        refine aw_iconst (pc := 53) hX (1 : Int32) dX6_type_53 (by decide) ?_
        refine aw_iadd (pc := 54) hX dX6_type_54 ?_
        refine aw_putI (pc := 55) hX dX6_type_55 f_X6_66 rfl rfl (by first | rfl | decide) (by first | rfl | decide) (by rfl) ?_
        obtain ⟨I55, hi55, h⟩ := bind_s h
        refine AW.iEq hi55 ?_
        refine aw_aload_n (pc := 58) hX 0 dX6_type_58 rfl rfl ?_
        refine aw_getR (pc := 59) hX dX6_type_59 f_X6_10 rfl (by rfl) (q := 1) (by rfl) ?_
        refine aw_getI (pc := 62) hX dX6_type_62 f_X6_66 rfl (by rfl) ?_
        have e := Option.some.inj h
        subst e
        exact aw_iret hX hZ dX6_type_65 rfl rfl rfl rfl rfl rfl rfl (Nat.le_refl _)
      · have h := ite_f h hc23
        refine aw_bipush (pc := 26) hX (-3 : Int32) dX6_type_26 (by decide) ?_
        have e := Option.some.inj h
        subst e
        exact aw_iret hX hZ dX6_type_28 rfl rfl rfl rfl rfl rfl rfl (Nat.le_refl _)
    · have h := ite_f h hc8
      refine aw_iconst (pc := 11) hX (-1 : Int32) dX6_type_11 (by decide) ?_
      have e := Option.some.inj h
      subst e
      exact aw_iret hX hZ dX6_type_12 rfl rfl rfl rfl rfl rfl rfl (Nat.le_refl _)
def f_X6_clear (I : Hi)  : Option (Int32 × Hi) := (some (u2 I (1) 1 (0 : Int32))).bind fun I13 => some ((I (1) 1), I13)
set_option maxRecDepth 100000 in
set_option maxHeartbeats 4000000 in
theorem s_X6_clear {G : GP} {c d : Nat} {I : Hi} {L : Hl}  {p : Int32 × Hi} (h : f_X6_clear I = some p) : CD G mi_X6_clear [.ref 0] S0 I (R0 c d) L (some (.int p.1)) S0 p.2 (R0 c d) L := by
  refine CD.intro 1 rfl (by decide) rfl fun X hX hZ => ?_
  rw [f_X6_clear] at h
  show AW G X 0 0 S0 I (R0 c d) L 0 [.ref 0, .null] []
  refine aw_aload_n (pc := 0) hX 0 dX6_clear_0 rfl rfl ?_
  refine aw_getR (pc := 1) hX dX6_clear_1 f_X6_10 rfl (by rfl) (q := 1) (by rfl) ?_
  refine aw_getI (pc := 4) hX dX6_clear_4 f_X6_66 rfl (by rfl) ?_
  refine aw_istore_nE (pc := 7) hX 1 [.ref 0, .int (I (1) 1)] dX6_clear_7 rfl (by decide) rfl rfl ?_
  refine aw_aload_n (pc := 8) hX 0 dX6_clear_8 rfl rfl ?_
  refine aw_getR (pc := 9) hX dX6_clear_9 f_X6_10 rfl (by rfl) (q := 1) (by rfl) ?_
  refine aw_iconst (pc := 12) hX (0 : Int32) dX6_clear_12 (by decide) ?_
  refine aw_putI (pc := 13) hX dX6_clear_13 f_X6_66 rfl rfl (by first | rfl | decide) (by first | rfl | decide) (by rfl) ?_
  obtain ⟨I13, hi13, h⟩ := bind_s h
  refine AW.iEq hi13 ?_
  refine aw_iload_n (pc := 16) hX 1 dX6_clear_16 rfl rfl ?_
  have e := Option.some.inj h
  subst e
  exact aw_iret hX hZ dX6_clear_17 rfl rfl rfl rfl rfl rfl rfl (Nat.le_refl _)
def b_X6_court_69   : Nat → Nat → Nat → Hi → Int32 → Int32 → Option (Int32 × Hi × Nat × Nat)
  | 0, _, _, _, _, _ => none
  | n + 1, c, d, I, x1, x3 => if (2 : Int32) ≤ x3 then (some (x1, I, c, d)) else (if vinb x3 2 then (some (u2 I (62) (x3).toNatClampNeg (0 : Int32))).bind fun I80 => b_X6_court_69 n c d I80 x1 (x3 + 1) else none)
set_option maxRecDepth 100000 in
set_option maxHeartbeats 4000000 in
theorem t_X6_court_69 {G : GP} {X : CX} (hX : XOK G X mi_X6_court) {L : Hl} {p : Int32 × Hi × Nat × Nat} (hZ : XZ G X mi_X6_court (some (.int p.1)) S0 p.2.1 (R0 p.2.2.1 p.2.2.2) L) : ∀ (n : Nat) (c : Nat) (d : Nat) (I : Hi) (x1 : Int32) (x3 : Int32), isC c → isC d → b_X6_court_69 n c d I x1 x3 = some p → AW G X 0 0 S0 I (R0 c d) L 69 [.ref 0, .int x1, .null, .int x3] [] := by
  intro n
  induction n with
  | zero => intro c d I x1 x3 hc hd h; cases h
  | succ n ih =>
    intro c d I x1 x3 hc hd h
    rw [b_X6_court_69] at h
    refine aw_iload_n (pc := 69) hX 3 dX6_court_69 rfl rfl ?_
    refine aw_iconst (pc := 70) hX (2 : Int32) dX6_court_70 (by decide) ?_
    refine aw_icmp_ge (pc := 71) hX 87 dX6_court_71 rfl (fun hc71 => ?_) (fun hc71 => ?_)
    · have h := ite_t h hc71
      refine aw_iload_n (pc := 87) hX 1 dX6_court_87 rfl rfl ?_
      have e := Option.some.inj h
      subst e
      exact aw_iret hX hZ dX6_court_88 rfl rfl rfl rfl rfl rfl rfl (Nat.le_refl _)
    · have h := ite_f h hc71
      refine aw_aload_n (pc := 74) hX 0 dX6_court_74 rfl rfl ?_
      refine aw_getR (pc := 75) hX dX6_court_75 f_X6_44 rfl (by rfl) (q := 62) (by rfl) ?_
      refine aw_iload_n (pc := 78) hX 3 dX6_court_78 rfl rfl ?_
      refine aw_iconst (pc := 79) hX (0 : Int32) dX6_court_79 (by decide) ?_
      obtain ⟨hv80, h⟩ := ite_g h
      refine aw_bastore (pc := 80) hX dX6_court_80 (by rfl) (vinb_in hv80) (by decide) ?_
      obtain ⟨I80, hi80, h⟩ := bind_s h
      refine AW.iEq hi80 ?_
      refine aw_iincE (pc := 81) hX (x3 + 1) [.ref 0, .int x1, .null, .int (x3 + 1)] dX6_court_81 rfl rfl (by decide) rfl rfl ?_
      refine aw_goto (pc := 84) hX 69 dX6_court_84 rfl ?_
      exact AW.lo (ih c d I80 x1 (x3 + 1) hc hd h) (And.intro (Or.inr rfl) (And.intro (Or.inr rfl) (And.intro (Or.inl rfl) (And.intro (Or.inr rfl) trivial))))
def f_X6_court (c : Nat) (d : Nat) (I : Hi)  : Option (Int32 × Hi × Nat × Nat) := (f_X5_readInto (d) I).bind fun r8 => if (0 : Int32) ≤ r8.1 then ((some (u2 r8.2 (1) 1 (0 : Int32))).bind fun I41 => (f_X3_startAnew (15) I41).bind fun r48 => (some (u2 r48 (19) 1 (0 : Int32))).bind fun I56 => (some (u2 I56 (63) 3 (0 : Int32))).bind fun I64 => b_X6_court_69 2000 d c I64 r8.1 (0 : Int32)) else (some (r8.1, r8.2, c, d))
set_option maxRecDepth 100000 in
set_option maxHeartbeats 4000000 in
theorem s_X6_court {G : GP} {c d : Nat} (hc : isC c) (hd : isC d) {I : Hi} {L : Hl}  {p : Int32 × Hi × Nat × Nat} (h : f_X6_court c d I = some p) : CD G mi_X6_court [.ref 0] S0 I (R0 c d) L (some (.int p.1)) S0 p.2.1 (R0 p.2.2.1 p.2.2.2) L := by
  refine CD.intro 3 rfl (by decide) rfl fun X hX hZ => ?_
  rw [f_X6_court] at h
  show AW G X 0 0 S0 I (R0 c d) L 0 [.ref 0, .null, .null, .null] []
  refine aw_aload_n (pc := 0) hX 0 dX6_court_0 rfl rfl ?_
  refine aw_getR (pc := 1) hX dX6_court_1 f_X6_10 rfl (by rfl) (q := 1) (by rfl) ?_
  refine aw_aload_n (pc := 4) hX 0 dX6_court_4 rfl rfl ?_
  refine aw_getR (pc := 5) hX dX6_court_5 f_X6_23 rfl (by rfl) (q := d) (by rfl) ?_
  obtain ⟨r8, hq8, h⟩ := bind_s h
  refine aw_V1i (pc := 8) hX h_X5_readInto l_X6_74 dX6_court_8 (by rfl) (by decide) (by rfl) rfl rfl rfl (Nat.le_of_ble_eq_true rfl) (s_X5_readInto hd hq8) ?_
  refine aw_istore_nE (pc := 11) hX 1 [.ref 0, .int r8.1, .null, .null] dX6_court_11 rfl (by decide) rfl rfl ?_
  refine aw_iload_n (pc := 12) hX 1 dX6_court_12 rfl rfl ?_
  refine aw_if_ge (pc := 13) hX 18 dX6_court_13 rfl (fun hc13 => ?_) (fun hc13 => ?_)
  · have h := ite_t h hc13
    refine aw_aload_n (pc := 18) hX 0 dX6_court_18 rfl rfl ?_
    refine aw_getR (pc := 19) hX dX6_court_19 f_X6_19 rfl (by rfl) (q := c) (by rfl) ?_
    refine aw_astore_nE (pc := 22) hX 2 [.ref 0, .int r8.1, .ref c, .null] dX6_court_22 rfl (by decide) rfl rfl ?_
    refine aw_aload_n (pc := 23) hX 0 dX6_court_23 rfl rfl ?_
    refine aw_aload_n (pc := 24) hX 0 dX6_court_24 rfl rfl ?_
    refine aw_getR (pc := 25) hX dX6_court_25 f_X6_23 rfl (by rfl) (q := d) (by rfl) ?_
    refine aw_putR (pc := 28) hX dX6_court_28 f_X6_19 rfl rfl (fun _ => rfl) (fun _ => rfl) (by rfl) ?_
    refine AW.rEq R0_c ?_
    refine aw_aload_n (pc := 31) hX 0 dX6_court_31 rfl rfl ?_
    refine aw_aload_n (pc := 32) hX 2 dX6_court_32 rfl rfl ?_
    refine aw_putR (pc := 33) hX dX6_court_33 f_X6_23 rfl rfl (fun _ => rfl) (fun _ => rfl) (by rfl) ?_
    refine AW.rEq R0_d ?_
    refine aw_aload_n (pc := 36) hX 0 dX6_court_36 rfl rfl ?_
    refine aw_getR (pc := 37) hX dX6_court_37 f_X6_10 rfl (by rfl) (q := 1) (by rfl) ?_
    refine aw_iconst (pc := 40) hX (0 : Int32) dX6_court_40 (by decide) ?_
    refine aw_putI (pc := 41) hX dX6_court_41 f_X6_66 rfl rfl (by first | rfl | decide) (by first | rfl | decide) (by rfl) ?_
    obtain ⟨I41, hi41, h⟩ := bind_s h
    refine AW.iEq hi41 ?_
    refine aw_aload_n (pc := 44) hX 0 dX6_court_44 rfl rfl ?_
    refine aw_getR (pc := 45) hX dX6_court_45 f_X6_29 rfl (by rfl) (q := 15) (by rfl) ?_
    obtain ⟨r48, hq48, h⟩ := bind_s h
    refine aw_V0v (pc := 48) hX h_X3_startAnew l_X6_78 dX6_court_48 (by rfl) (by decide) (by rfl) rfl rfl rfl (Nat.le_of_ble_eq_true rfl) (s_X3_startAnew (isNb (by decide)) hq48) ?_
    refine aw_aload_n (pc := 51) hX 0 dX6_court_51 rfl rfl ?_
    refine aw_getR (pc := 52) hX dX6_court_52 f_X6_36 rfl (by rfl) (q := 19) (by rfl) ?_
    refine aw_iconst (pc := 55) hX (0 : Int32) dX6_court_55 (by decide) ?_
    refine aw_putI (pc := 56) hX dX6_court_56 f_X6_81 rfl rfl (by first | rfl | decide) (by first | rfl | decide) (by rfl) ?_
    obtain ⟨I56, hi56, h⟩ := bind_s h
    refine AW.iEq hi56 ?_
    refine aw_aload_n (pc := 59) hX 0 dX6_court_59 rfl rfl ?_
    refine aw_getR (pc := 60) hX dX6_court_60 f_X6_51 rfl (by rfl) (q := 63) (by rfl) ?_
    refine aw_iconst (pc := 63) hX (0 : Int32) dX6_court_63 (by decide) ?_
    refine aw_putI (pc := 64) hX dX6_court_64 f_X6_84 rfl rfl (by first | rfl | decide) (by first | rfl | decide) (by rfl) ?_
    obtain ⟨I64, hi64, h⟩ := bind_s h
    refine AW.iEq hi64 ?_
    refine aw_iconst (pc := 67) hX (0 : Int32) dX6_court_67 (by decide) ?_
    refine aw_istore_nE (pc := 68) hX 3 [.ref 0, .int r8.1, .ref c, .int (0 : Int32)] dX6_court_68 rfl (by decide) rfl rfl ?_
    exact AW.lo (t_X6_court_69 hX hZ 2000 d c I64 r8.1 (0 : Int32) hd hc h) (And.intro (Or.inr rfl) (And.intro (Or.inr rfl) (And.intro (Or.inl rfl) (And.intro (Or.inr rfl) trivial))))
  · have h := ite_f h hc13
    refine aw_iload_n (pc := 16) hX 1 dX6_court_16 rfl rfl ?_
    have e := Option.some.inj h
    subst e
    exact aw_iret hX hZ dX6_court_17 rfl rfl rfl rfl rfl rfl rfl (Nat.le_refl _)
def f_X6_leaf (c : Nat) (d : Nat) (I : Hi) (x1 : Int32) (x2 : Int32) : Option (Int32) := (f_X0_hasLeaf (c) I x1).bind fun r5 => if r5 = true then (if x2 = (0 : Int32) then (if vinb x1 5 then some ((I (c + 1) (x1).toNatClampNeg)) else none) else (if x2 = (1 : Int32) then ((f_X0_goersLetBy (c) I x1).bind fun r55 => some (r55)) else (some ((-1 : Int32))))) else (some ((-1 : Int32)))
set_option maxRecDepth 100000 in
set_option maxHeartbeats 4000000 in
theorem s_X6_leaf {G : GP} {c d : Nat} (hc : isC c) (hd : isC d) {I : Hi} {L : Hl} {x1 : Int32} {x2 : Int32} {p : Int32} (h : f_X6_leaf c d I x1 x2 = some p) : CD G mi_X6_leaf [.ref 0, .int x1, .int x2] S0 I (R0 c d) L (some (.int p)) S0 I (R0 c d) L := by
  refine CD.intro 0 rfl (by decide) rfl fun X hX hZ => ?_
  rw [f_X6_leaf] at h
  show AW G X 0 0 S0 I (R0 c d) L 0 [.ref 0, .int x1, .int x2] []
  refine aw_aload_n (pc := 0) hX 0 dX6_leaf_0 rfl rfl ?_
  refine aw_getR (pc := 1) hX dX6_leaf_1 f_X6_19 rfl (by rfl) (q := c) (by rfl) ?_
  refine aw_iload_n (pc := 4) hX 1 dX6_leaf_4 rfl rfl ?_
  obtain ⟨r5, hq5, h⟩ := bind_s h
  refine aw_V1i (pc := 5) hX h_X0_hasLeaf l_X6_87 dX6_leaf_5 (csh0 hc) (by decide) (by rfl) rfl rfl rfl (Nat.le_of_ble_eq_true rfl) (s_X0_hasLeaf hc hq5) ?_
  refine aw_if_ne (pc := 8) hX 13 dX6_leaf_8 rfl (fun hc8 => ?_) (fun hc8 => ?_)
  · have h := ite_t h (bI1 hc8)
    refine aw_iload_n (pc := 13) hX 2 dX6_leaf_13 rfl rfl ?_
    by_cases hs14_0 : x2 = (0 : Int32)
    · have h := ite_t h hs14_0
      refine aw_lcase (pc := 14) (off := 26) hX (0 : Int32) 40 dX6_leaf_14 hs14_0 (by decide) (by decide) rfl ?_
      refine aw_aload_n (pc := 40) hX 0 dX6_leaf_40 rfl rfl ?_
      refine aw_getR (pc := 41) hX dX6_leaf_41 f_X6_19 rfl (by rfl) (q := c) (by rfl) ?_
      refine aw_getR (pc := 44) hX dX6_leaf_44 f_X6_91 rfl (csh0 hc) (q := c + 1) (crf0 hc) ?_
      refine aw_iload_n (pc := 47) hX 1 dX6_leaf_47 rfl rfl ?_
      obtain ⟨hv48, h⟩ := ite_g h
      refine aw_iaload (pc := 48) hX dX6_leaf_48 (csh1 hc) (vinb_in hv48) ?_
      have e := Option.some.inj h
      subst e
      exact aw_iret hX hZ dX6_leaf_49 rfl rfl rfl rfl rfl rfl rfl (Nat.le_refl _)
    have h := ite_f h hs14_0
    by_cases hs14_1 : x2 = (1 : Int32)
    · have h := ite_t h hs14_1
      refine aw_lcase (pc := 14) (off := 36) hX (1 : Int32) 50 dX6_leaf_14 hs14_1 (by decide) (by decide) rfl ?_
      refine aw_aload_n (pc := 50) hX 0 dX6_leaf_50 rfl rfl ?_
      refine aw_getR (pc := 51) hX dX6_leaf_51 f_X6_19 rfl (by rfl) (q := c) (by rfl) ?_
      refine aw_iload_n (pc := 54) hX 1 dX6_leaf_54 rfl rfl ?_
      obtain ⟨r55, hq55, h⟩ := bind_s h
      refine aw_V1i (pc := 55) hX h_X0_goersLetBy l_X6_94 dX6_leaf_55 (csh0 hc) (by decide) (by rfl) rfl rfl rfl (Nat.le_of_ble_eq_true rfl) (s_X0_goersLetBy hc hq55) ?_
      have e := Option.some.inj h
      subst e
      exact aw_iret hX hZ dX6_leaf_58 rfl rfl rfl rfl rfl rfl rfl (Nat.le_refl _)
    have h := ite_f h hs14_1
    refine aw_lookup (pc := 14) (off := 45) hX 59 dX6_leaf_14 (by decide) (by rw [lv_osw hs14_0 (by decide), lv_osw hs14_1 (by decide)] <;> rfl) rfl ?_
    refine aw_iconst (pc := 59) hX (-1 : Int32) dX6_leaf_59 (by decide) ?_
    have e := Option.some.inj h
    subst e
    exact aw_iret hX hZ dX6_leaf_60 rfl rfl rfl rfl rfl rfl rfl (Nat.le_refl _)
  · have h := ite_f h (bI0 hc8)
    refine aw_iconst (pc := 11) hX (-1 : Int32) dX6_leaf_11 (by decide) ?_
    have e := Option.some.inj h
    subst e
    exact aw_iret hX hZ dX6_leaf_12 rfl rfl rfl rfl rfl rfl rfl (Nat.le_refl _)
def f_X6_goer (c : Nat) (d : Nat) (I : Hi) (x1 : Int32) (x2 : Int32) : Option (Int32) := (f_X0_hasGoer (c) I x1).bind fun r5 => if r5 = true then (if x2 = (0 : Int32) then (if vinb x1 6 then some ((I (c + 2) (x1).toNatClampNeg)) else none) else (if x2 = (1 : Int32) then (if vinb x1 6 then some ((I (16) (x1).toNatClampNeg)) else none) else (if x2 = (2 : Int32) then (if vinb x1 6 then if (I (16) (x1).toNatClampNeg) = (2 : Int32) then (if vinb x1 6 then some (((I (17) (x1).toNatClampNeg) - (I (15) 0))) else none) else (some ((0 : Int32))) else none) else (if x2 = (3 : Int32) then (if vinb x1 6 then some ((I (18) (x1).toNatClampNeg)) else none) else (if x2 = (4 : Int32) then ((f_X0_leavesThatLet (c) I x1).bind fun r118 => some (r118)) else (some ((-1 : Int32)))))))) else (some ((-1 : Int32)))
set_option maxRecDepth 100000 in
set_option maxHeartbeats 4000000 in
theorem s_X6_goer {G : GP} {c d : Nat} (hc : isC c) (hd : isC d) {I : Hi} {L : Hl} {x1 : Int32} {x2 : Int32} {p : Int32} (h : f_X6_goer c d I x1 x2 = some p) : CD G mi_X6_goer [.ref 0, .int x1, .int x2] S0 I (R0 c d) L (some (.int p)) S0 I (R0 c d) L := by
  refine CD.intro 0 rfl (by decide) rfl fun X hX hZ => ?_
  rw [f_X6_goer] at h
  show AW G X 0 0 S0 I (R0 c d) L 0 [.ref 0, .int x1, .int x2] []
  refine aw_aload_n (pc := 0) hX 0 dX6_goer_0 rfl rfl ?_
  refine aw_getR (pc := 1) hX dX6_goer_1 f_X6_19 rfl (by rfl) (q := c) (by rfl) ?_
  refine aw_iload_n (pc := 4) hX 1 dX6_goer_4 rfl rfl ?_
  obtain ⟨r5, hq5, h⟩ := bind_s h
  refine aw_V1i (pc := 5) hX h_X0_hasGoer l_X6_98 dX6_goer_5 (csh0 hc) (by decide) (by rfl) rfl rfl rfl (Nat.le_of_ble_eq_true rfl) (s_X0_hasGoer hc hq5) ?_
  refine aw_if_ne (pc := 8) hX 13 dX6_goer_8 rfl (fun hc8 => ?_) (fun hc8 => ?_)
  · have h := ite_t h (bI1 hc8)
    refine aw_iload_n (pc := 13) hX 2 dX6_goer_13 rfl rfl ?_
    by_cases hs14_0 : x2 = (0 : Int32)
    · have h := ite_t h hs14_0
      refine aw_tcase (pc := 14) (off := 34) hX (0 : Int32) 48 dX6_goer_14 hs14_0 (by decide) (by decide) (by decide) rfl ?_
      refine aw_aload_n (pc := 48) hX 0 dX6_goer_48 rfl rfl ?_
      refine aw_getR (pc := 49) hX dX6_goer_49 f_X6_19 rfl (by rfl) (q := c) (by rfl) ?_
      refine aw_getR (pc := 52) hX dX6_goer_52 f_X6_101 rfl (csh0 hc) (q := c + 2) (crf1 hc) ?_
      refine aw_iload_n (pc := 55) hX 1 dX6_goer_55 rfl rfl ?_
      obtain ⟨hv56, h⟩ := ite_g h
      refine aw_iaload (pc := 56) hX dX6_goer_56 (csh2 hc) (vinb_in hv56) ?_
      have e := Option.some.inj h
      subst e
      exact aw_iret hX hZ dX6_goer_57 rfl rfl rfl rfl rfl rfl rfl (Nat.le_refl _)
    have h := ite_f h hs14_0
    by_cases hs14_1 : x2 = (1 : Int32)
    · have h := ite_t h hs14_1
      refine aw_tcase (pc := 14) (off := 44) hX (1 : Int32) 58 dX6_goer_14 hs14_1 (by decide) (by decide) (by decide) rfl ?_
      refine aw_aload_n (pc := 58) hX 0 dX6_goer_58 rfl rfl ?_
      refine aw_getR (pc := 59) hX dX6_goer_59 f_X6_29 rfl (by rfl) (q := 15) (by rfl) ?_
      refine aw_getR (pc := 62) hX dX6_goer_62 f_X6_104 rfl (by rfl) (q := 16) (by rfl) ?_
      refine aw_iload_n (pc := 65) hX 1 dX6_goer_65 rfl rfl ?_
      obtain ⟨hv66, h⟩ := ite_g h
      refine aw_iaload (pc := 66) hX dX6_goer_66 (by rfl) (vinb_in hv66) ?_
      have e := Option.some.inj h
      subst e
      exact aw_iret hX hZ dX6_goer_67 rfl rfl rfl rfl rfl rfl rfl (Nat.le_refl _)
    have h := ite_f h hs14_1
    by_cases hs14_2 : x2 = (2 : Int32)
    · have h := ite_t h hs14_2
      refine aw_tcase (pc := 14) (off := 54) hX (2 : Int32) 68 dX6_goer_14 hs14_2 (by decide) (by decide) (by decide) rfl ?_
      refine aw_aload_n (pc := 68) hX 0 dX6_goer_68 rfl rfl ?_
      refine aw_getR (pc := 69) hX dX6_goer_69 f_X6_29 rfl (by rfl) (q := 15) (by rfl) ?_
      refine aw_getR (pc := 72) hX dX6_goer_72 f_X6_104 rfl (by rfl) (q := 16) (by rfl) ?_
      refine aw_iload_n (pc := 75) hX 1 dX6_goer_75 rfl rfl ?_
      obtain ⟨hv76, h⟩ := ite_g h
      refine aw_iaload (pc := 76) hX dX6_goer_76 (by rfl) (vinb_in hv76) ?_
      refine aw_iconst (pc := 77) hX (2 : Int32) dX6_goer_77 (by decide) ?_
      refine aw_icmp_ne (pc := 78) hX 101 dX6_goer_78 rfl (fun hc78 => ?_) (fun hc78 => ?_)
      · have h := ite_f h hc78
        refine aw_iconst (pc := 101) hX (0 : Int32) dX6_goer_101 (by decide) ?_
        have e := Option.some.inj h
        subst e
        exact aw_iret hX hZ dX6_goer_102 rfl rfl rfl rfl rfl rfl rfl (Nat.le_refl _)
      · have h := ite_t h hc78
        refine aw_aload_n (pc := 81) hX 0 dX6_goer_81 rfl rfl ?_
        refine aw_getR (pc := 82) hX dX6_goer_82 f_X6_29 rfl (by rfl) (q := 15) (by rfl) ?_
        refine aw_getR (pc := 85) hX dX6_goer_85 f_X6_107 rfl (by rfl) (q := 17) (by rfl) ?_
        refine aw_iload_n (pc := 88) hX 1 dX6_goer_88 rfl rfl ?_
        obtain ⟨hv89, h⟩ := ite_g h
        refine aw_iaload (pc := 89) hX dX6_goer_89 (by rfl) (vinb_in hv89) ?_
        refine aw_aload_n (pc := 90) hX 0 dX6_goer_90 rfl rfl ?_
        refine aw_getR (pc := 91) hX dX6_goer_91 f_X6_29 rfl (by rfl) (q := 15) (by rfl) ?_
        refine aw_getI (pc := 94) hX dX6_goer_94 f_X6_110 rfl (by rfl) ?_
        refine aw_isub (pc := 97) hX dX6_goer_97 ?_
        refine aw_goto (pc := 98) hX 102 dX6_goer_98 rfl ?_
        have e := Option.some.inj h
        subst e
        exact aw_iret hX hZ dX6_goer_102 rfl rfl rfl rfl rfl rfl rfl (Nat.le_refl _)
    have h := ite_f h hs14_2
    by_cases hs14_3 : x2 = (3 : Int32)
    · have h := ite_t h hs14_3
      refine aw_tcase (pc := 14) (off := 89) hX (3 : Int32) 103 dX6_goer_14 hs14_3 (by decide) (by decide) (by decide) rfl ?_
      refine aw_aload_n (pc := 103) hX 0 dX6_goer_103 rfl rfl ?_
      refine aw_getR (pc := 104) hX dX6_goer_104 f_X6_29 rfl (by rfl) (q := 15) (by rfl) ?_
      refine aw_getR (pc := 107) hX dX6_goer_107 f_X6_113 rfl (by rfl) (q := 18) (by rfl) ?_
      refine aw_iload_n (pc := 110) hX 1 dX6_goer_110 rfl rfl ?_
      obtain ⟨hv111, h⟩ := ite_g h
      refine aw_iaload (pc := 111) hX dX6_goer_111 (by rfl) (vinb_in hv111) ?_
      have e := Option.some.inj h
      subst e
      exact aw_iret hX hZ dX6_goer_112 rfl rfl rfl rfl rfl rfl rfl (Nat.le_refl _)
    have h := ite_f h hs14_3
    by_cases hs14_4 : x2 = (4 : Int32)
    · have h := ite_t h hs14_4
      refine aw_tcase (pc := 14) (off := 99) hX (4 : Int32) 113 dX6_goer_14 hs14_4 (by decide) (by decide) (by decide) rfl ?_
      refine aw_aload_n (pc := 113) hX 0 dX6_goer_113 rfl rfl ?_
      refine aw_getR (pc := 114) hX dX6_goer_114 f_X6_19 rfl (by rfl) (q := c) (by rfl) ?_
      refine aw_iload_n (pc := 117) hX 1 dX6_goer_117 rfl rfl ?_
      obtain ⟨r118, hq118, h⟩ := bind_s h
      refine aw_V1i (pc := 118) hX h_X0_leavesThatLet l_X6_116 dX6_goer_118 (csh0 hc) (by decide) (by rfl) rfl rfl rfl (Nat.le_of_ble_eq_true rfl) (s_X0_leavesThatLet hc hq118) ?_
      have e := Option.some.inj h
      subst e
      exact aw_iret hX hZ dX6_goer_121 rfl rfl rfl rfl rfl rfl rfl (Nat.le_refl _)
    have h := ite_f h hs14_4
    refine aw_tableOut (pc := 14) hX 122 dX6_goer_14 (by have g0 := lv_neT hs14_0 (show ((0 : Int32)).toInt = 0 by decide); have g1 := lv_neT hs14_1 (show ((1 : Int32)).toInt = 1 by decide); have g2 := lv_neT hs14_2 (show ((2 : Int32)).toInt = 2 by decide); have g3 := lv_neT hs14_3 (show ((3 : Int32)).toInt = 3 by decide); have g4 := lv_neT hs14_4 (show ((4 : Int32)).toInt = 4 by decide); omega) rfl ?_
    refine aw_iconst (pc := 122) hX (-1 : Int32) dX6_goer_122 (by decide) ?_
    have e := Option.some.inj h
    subst e
    exact aw_iret hX hZ dX6_goer_123 rfl rfl rfl rfl rfl rfl rfl (Nat.le_refl _)
  · have h := ite_f h (bI0 hc8)
    refine aw_iconst (pc := 11) hX (-1 : Int32) dX6_goer_11 (by decide) ?_
    have e := Option.some.inj h
    subst e
    exact aw_iret hX hZ dX6_goer_12 rfl rfl rfl rfl rfl rfl rfl (Nat.le_refl _)
def f_X6_sister (c : Nat) (d : Nat) (I : Hi) (x1 : Int32) (x2 : Int32) : Option (Int32) := if x1 < (0 : Int32) then (some ((-1 : Int32))) else (if (I (c) 7) ≤ x1 then (some ((-1 : Int32))) else ((f_X6_isTaste x2).bind fun r16 => if r16 = true then ((f_X0_changed (c) I x1 x2).bind fun r30 => some (r30)) else (some ((-1 : Int32)))))
set_option maxRecDepth 100000 in
set_option maxHeartbeats 4000000 in
theorem s_X6_sister {G : GP} {c d : Nat} (hc : isC c) (hd : isC d) {I : Hi} {L : Hl} {x1 : Int32} {x2 : Int32} {p : Int32} (h : f_X6_sister c d I x1 x2 = some p) : CD G mi_X6_sister [.ref 0, .int x1, .int x2] S0 I (R0 c d) L (some (.int p)) S0 I (R0 c d) L := by
  refine CD.intro 0 rfl (by decide) rfl fun X hX hZ => ?_
  rw [f_X6_sister] at h
  show AW G X 0 0 S0 I (R0 c d) L 0 [.ref 0, .int x1, .int x2] []
  refine aw_iload_n (pc := 0) hX 1 dX6_sister_0 rfl rfl ?_
  refine aw_if_lt (pc := 1) hX 22 dX6_sister_1 rfl (fun hc1 => ?_) (fun hc1 => ?_)
  · have h := ite_t h hc1
    refine aw_iconst (pc := 22) hX (-1 : Int32) dX6_sister_22 (by decide) ?_
    have e := Option.some.inj h
    subst e
    exact aw_iret hX hZ dX6_sister_23 rfl rfl rfl rfl rfl rfl rfl (Nat.le_refl _)
  · have h := ite_f h hc1
    refine aw_iload_n (pc := 4) hX 1 dX6_sister_4 rfl rfl ?_
    refine aw_aload_n (pc := 5) hX 0 dX6_sister_5 rfl rfl ?_
    refine aw_getR (pc := 6) hX dX6_sister_6 f_X6_19 rfl (by rfl) (q := c) (by rfl) ?_
    refine aw_getI (pc := 9) hX dX6_sister_9 f_X6_119 rfl (csh0 hc) ?_
    refine aw_icmp_ge (pc := 12) hX 22 dX6_sister_12 rfl (fun hc12 => ?_) (fun hc12 => ?_)
    · have h := ite_t h hc12
      refine aw_iconst (pc := 22) hX (-1 : Int32) dX6_sister_22 (by decide) ?_
      have e := Option.some.inj h
      subst e
      exact aw_iret hX hZ dX6_sister_23 rfl rfl rfl rfl rfl rfl rfl (Nat.le_refl _)
    · have h := ite_f h hc12
      refine aw_iload_n (pc := 15) hX 2 dX6_sister_15 rfl rfl ?_
      obtain ⟨r16, hq16, h⟩ := bind_s h
      refine aw_S1i (pc := 16) hX h_X6_isTaste l_X6_122 dX6_sister_16 rfl rfl rfl (Nat.le_of_ble_eq_true rfl) (s_X6_isTaste  hq16) ?_
      refine aw_if_ne (pc := 19) hX 24 dX6_sister_19 rfl (fun hc19 => ?_) (fun hc19 => ?_)
      · have h := ite_t h (bI1 hc19)
        refine aw_aload_n (pc := 24) hX 0 dX6_sister_24 rfl rfl ?_
        refine aw_getR (pc := 25) hX dX6_sister_25 f_X6_19 rfl (by rfl) (q := c) (by rfl) ?_
        refine aw_iload_n (pc := 28) hX 1 dX6_sister_28 rfl rfl ?_
        refine aw_iload_n (pc := 29) hX 2 dX6_sister_29 rfl rfl ?_
        obtain ⟨r30, hq30, h⟩ := bind_s h
        refine aw_V2i (pc := 30) hX h_X0_changed l_X6_125 dX6_sister_30 (csh0 hc) (by decide) (by rfl) rfl rfl rfl (Nat.le_of_ble_eq_true rfl) (s_X0_changed hc hq30) ?_
        have e := Option.some.inj h
        subst e
        exact aw_iret hX hZ dX6_sister_33 rfl rfl rfl rfl rfl rfl rfl (Nat.le_refl _)
      · have h := ite_f h (bI0 hc19)
        refine aw_iconst (pc := 22) hX (-1 : Int32) dX6_sister_22 (by decide) ?_
        have e := Option.some.inj h
        subst e
        exact aw_iret hX hZ dX6_sister_23 rfl rfl rfl rfl rfl rfl rfl (Nat.le_refl _)
def f_X6_now (c : Nat) (d : Nat) (I : Hi) (x1 : Int32) : Option (Int32) := if x1 = (0 : Int32) then (some ((I (15) 0))) else (if x1 = (1 : Int32) then (some ((I (15) 1))) else (if x1 = (2 : Int32) then (some ((I (15) 2))) else (if x1 = (3 : Int32) then ((f_X3_whoAre (15) I (1 : Int32)).bind fun r73 => some (r73)) else (if x1 = (4 : Int32) then ((f_X3_whoAre (15) I (3 : Int32)).bind fun r82 => some (r82)) else (if x1 = (5 : Int32) then ((f_X0_cover (c) I).bind fun r90 => some (r90)) else (if x1 = (6 : Int32) then (some ((I (19) 1))) else (some ((-1 : Int32)))))))))
set_option maxRecDepth 100000 in
set_option maxHeartbeats 4000000 in
theorem s_X6_now {G : GP} {c d : Nat} (hc : isC c) (hd : isC d) {I : Hi} {L : Hl} {x1 : Int32} {p : Int32} (h : f_X6_now c d I x1 = some p) : CD G mi_X6_now [.ref 0, .int x1] S0 I (R0 c d) L (some (.int p)) S0 I (R0 c d) L := by
  refine CD.intro 0 rfl (by decide) rfl fun X hX hZ => ?_
  rw [f_X6_now] at h
  show AW G X 0 0 S0 I (R0 c d) L 0 [.ref 0, .int x1] []
  refine aw_iload_n (pc := 0) hX 1 dX6_now_0 rfl rfl ?_
  by_cases hs1_0 : x1 = (0 : Int32)
  · have h := ite_t h hs1_0
    refine aw_tcase (pc := 1) (off := 43) hX (0 : Int32) 44 dX6_now_1 hs1_0 (by decide) (by decide) (by decide) rfl ?_
    refine aw_aload_n (pc := 44) hX 0 dX6_now_44 rfl rfl ?_
    refine aw_getR (pc := 45) hX dX6_now_45 f_X6_29 rfl (by rfl) (q := 15) (by rfl) ?_
    refine aw_getI (pc := 48) hX dX6_now_48 f_X6_110 rfl (by rfl) ?_
    have e := Option.some.inj h
    subst e
    exact aw_iret hX hZ dX6_now_51 rfl rfl rfl rfl rfl rfl rfl (Nat.le_refl _)
  have h := ite_f h hs1_0
  by_cases hs1_1 : x1 = (1 : Int32)
  · have h := ite_t h hs1_1
    refine aw_tcase (pc := 1) (off := 51) hX (1 : Int32) 52 dX6_now_1 hs1_1 (by decide) (by decide) (by decide) rfl ?_
    refine aw_aload_n (pc := 52) hX 0 dX6_now_52 rfl rfl ?_
    refine aw_getR (pc := 53) hX dX6_now_53 f_X6_29 rfl (by rfl) (q := 15) (by rfl) ?_
    refine aw_getI (pc := 56) hX dX6_now_56 f_X6_129 rfl (by rfl) ?_
    have e := Option.some.inj h
    subst e
    exact aw_iret hX hZ dX6_now_59 rfl rfl rfl rfl rfl rfl rfl (Nat.le_refl _)
  have h := ite_f h hs1_1
  by_cases hs1_2 : x1 = (2 : Int32)
  · have h := ite_t h hs1_2
    refine aw_tcase (pc := 1) (off := 59) hX (2 : Int32) 60 dX6_now_1 hs1_2 (by decide) (by decide) (by decide) rfl ?_
    refine aw_aload_n (pc := 60) hX 0 dX6_now_60 rfl rfl ?_
    refine aw_getR (pc := 61) hX dX6_now_61 f_X6_29 rfl (by rfl) (q := 15) (by rfl) ?_
    refine aw_getI (pc := 64) hX dX6_now_64 f_X6_132 rfl (by rfl) ?_
    have e := Option.some.inj h
    subst e
    exact aw_iret hX hZ dX6_now_67 rfl rfl rfl rfl rfl rfl rfl (Nat.le_refl _)
  have h := ite_f h hs1_2
  by_cases hs1_3 : x1 = (3 : Int32)
  · have h := ite_t h hs1_3
    refine aw_tcase (pc := 1) (off := 67) hX (3 : Int32) 68 dX6_now_1 hs1_3 (by decide) (by decide) (by decide) rfl ?_
    refine aw_aload_n (pc := 68) hX 0 dX6_now_68 rfl rfl ?_
    refine aw_getR (pc := 69) hX dX6_now_69 f_X6_29 rfl (by rfl) (q := 15) (by rfl) ?_
    refine aw_iconst (pc := 72) hX (1 : Int32) dX6_now_72 (by decide) ?_
    obtain ⟨r73, hq73, h⟩ := bind_s h
    refine aw_V1i (pc := 73) hX h_X3_whoAre l_X6_135 dX6_now_73 (by rfl) (by decide) (by rfl) rfl rfl rfl (Nat.le_of_ble_eq_true rfl) (s_X3_whoAre (isNb (by decide)) hq73) ?_
    have e := Option.some.inj h
    subst e
    exact aw_iret hX hZ dX6_now_76 rfl rfl rfl rfl rfl rfl rfl (Nat.le_refl _)
  have h := ite_f h hs1_3
  by_cases hs1_4 : x1 = (4 : Int32)
  · have h := ite_t h hs1_4
    refine aw_tcase (pc := 1) (off := 76) hX (4 : Int32) 77 dX6_now_1 hs1_4 (by decide) (by decide) (by decide) rfl ?_
    refine aw_aload_n (pc := 77) hX 0 dX6_now_77 rfl rfl ?_
    refine aw_getR (pc := 78) hX dX6_now_78 f_X6_29 rfl (by rfl) (q := 15) (by rfl) ?_
    refine aw_iconst (pc := 81) hX (3 : Int32) dX6_now_81 (by decide) ?_
    obtain ⟨r82, hq82, h⟩ := bind_s h
    refine aw_V1i (pc := 82) hX h_X3_whoAre l_X6_135 dX6_now_82 (by rfl) (by decide) (by rfl) rfl rfl rfl (Nat.le_of_ble_eq_true rfl) (s_X3_whoAre (isNb (by decide)) hq82) ?_
    have e := Option.some.inj h
    subst e
    exact aw_iret hX hZ dX6_now_85 rfl rfl rfl rfl rfl rfl rfl (Nat.le_refl _)
  have h := ite_f h hs1_4
  by_cases hs1_5 : x1 = (5 : Int32)
  · have h := ite_t h hs1_5
    refine aw_tcase (pc := 1) (off := 85) hX (5 : Int32) 86 dX6_now_1 hs1_5 (by decide) (by decide) (by decide) rfl ?_
    refine aw_aload_n (pc := 86) hX 0 dX6_now_86 rfl rfl ?_
    refine aw_getR (pc := 87) hX dX6_now_87 f_X6_19 rfl (by rfl) (q := c) (by rfl) ?_
    obtain ⟨r90, hq90, h⟩ := bind_s h
    refine aw_V0i (pc := 90) hX h_X0_cover l_X6_138 dX6_now_90 (csh0 hc) (by decide) (by rfl) rfl rfl rfl (Nat.le_of_ble_eq_true rfl) (s_X0_cover hc hq90) ?_
    have e := Option.some.inj h
    subst e
    exact aw_iret hX hZ dX6_now_93 rfl rfl rfl rfl rfl rfl rfl (Nat.le_refl _)
  have h := ite_f h hs1_5
  by_cases hs1_6 : x1 = (6 : Int32)
  · have h := ite_t h hs1_6
    refine aw_tcase (pc := 1) (off := 93) hX (6 : Int32) 94 dX6_now_1 hs1_6 (by decide) (by decide) (by decide) rfl ?_
    refine aw_aload_n (pc := 94) hX 0 dX6_now_94 rfl rfl ?_
    refine aw_getR (pc := 95) hX dX6_now_95 f_X6_36 rfl (by rfl) (q := 19) (by rfl) ?_
    refine aw_getI (pc := 98) hX dX6_now_98 f_X6_81 rfl (by rfl) ?_
    have e := Option.some.inj h
    subst e
    exact aw_iret hX hZ dX6_now_101 rfl rfl rfl rfl rfl rfl rfl (Nat.le_refl _)
  have h := ite_f h hs1_6
  refine aw_tableOut (pc := 1) hX 102 dX6_now_1 (by have g0 := lv_neT hs1_0 (show ((0 : Int32)).toInt = 0 by decide); have g1 := lv_neT hs1_1 (show ((1 : Int32)).toInt = 1 by decide); have g2 := lv_neT hs1_2 (show ((2 : Int32)).toInt = 2 by decide); have g3 := lv_neT hs1_3 (show ((3 : Int32)).toInt = 3 by decide); have g4 := lv_neT hs1_4 (show ((4 : Int32)).toInt = 4 by decide); have g5 := lv_neT hs1_5 (show ((5 : Int32)).toInt = 5 by decide); have g6 := lv_neT hs1_6 (show ((6 : Int32)).toInt = 6 by decide); omega) rfl ?_
  refine aw_iconst (pc := 102) hX (-1 : Int32) dX6_now_102 (by decide) ?_
  have e := Option.some.inj h
  subst e
  exact aw_iret hX hZ dX6_now_103 rfl rfl rfl rfl rfl rfl rfl (Nat.le_refl _)
def f_X6_comes (c : Nat) (d : Nat) (I : Hi) (x1 : Int32) : Option (Int32 × Hi) := (f_X0_hasGoer (c) I x1).bind fun r5 => if r5 = true then (if vinb x1 6 then if (I (16) (x1).toNatClampNeg) = (0 : Int32) then ((f_X1_remember (15) I).bind fun r36 => if vinb x1 6 then (some (u2 r36 (16) (x1).toNatClampNeg (1 : Int32))).bind fun I48 => (f_X3_whoAre (15) I48 (1 : Int32)).bind fun r54 => (f_J6_bitCount_0f7a4 r54).bind fun r57 => some (r57, I48) else none) else (some ((-2 : Int32), I)) else none) else (some ((-1 : Int32), I))
set_option maxRecDepth 100000 in
set_option maxHeartbeats 4000000 in
theorem s_X6_comes {G : GP} {c d : Nat} (hc : isC c) (hd : isC d) {I : Hi} {L : Hl} {x1 : Int32} {p : Int32 × Hi} (h : f_X6_comes c d I x1 = some p) : CD G mi_X6_comes [.ref 0, .int x1] S0 I (R0 c d) L (some (.int p.1)) S0 p.2 (R0 c d) L := by
  refine CD.intro 0 rfl (by decide) rfl fun X hX hZ => ?_
  rw [f_X6_comes] at h
  show AW G X 0 0 S0 I (R0 c d) L 0 [.ref 0, .int x1] []
  refine aw_aload_n (pc := 0) hX 0 dX6_comes_0 rfl rfl ?_
  refine aw_getR (pc := 1) hX dX6_comes_1 f_X6_19 rfl (by rfl) (q := c) (by rfl) ?_
  refine aw_iload_n (pc := 4) hX 1 dX6_comes_4 rfl rfl ?_
  obtain ⟨r5, hq5, h⟩ := bind_s h
  refine aw_V1i (pc := 5) hX h_X0_hasGoer l_X6_98 dX6_comes_5 (csh0 hc) (by decide) (by rfl) rfl rfl rfl (Nat.le_of_ble_eq_true rfl) (s_X0_hasGoer hc hq5) ?_
  refine aw_if_ne (pc := 8) hX 13 dX6_comes_8 rfl (fun hc8 => ?_) (fun hc8 => ?_)
  · have h := ite_t h (bI1 hc8)
    refine aw_aload_n (pc := 13) hX 0 dX6_comes_13 rfl rfl ?_
    refine aw_getR (pc := 14) hX dX6_comes_14 f_X6_29 rfl (by rfl) (q := 15) (by rfl) ?_
    refine aw_getR (pc := 17) hX dX6_comes_17 f_X6_104 rfl (by rfl) (q := 16) (by rfl) ?_
    refine aw_iload_n (pc := 20) hX 1 dX6_comes_20 rfl rfl ?_
    obtain ⟨hv21, h⟩ := ite_g h
    refine aw_iaload (pc := 21) hX dX6_comes_21 (by rfl) (vinb_in hv21) ?_
    refine aw_if_eq (pc := 22) hX 28 dX6_comes_22 rfl (fun hc22 => ?_) (fun hc22 => ?_)
    · have h := ite_t h hc22
      refine aw_aload_n (pc := 28) hX 0 dX6_comes_28 rfl rfl ?_
      refine aw_getR (pc := 29) hX dX6_comes_29 f_X6_36 rfl (by rfl) (q := 19) (by rfl) ?_
      refine aw_aload_n (pc := 32) hX 0 dX6_comes_32 rfl rfl ?_
      refine aw_getR (pc := 33) hX dX6_comes_33 f_X6_29 rfl (by rfl) (q := 15) (by rfl) ?_
      obtain ⟨r36, hq36, h⟩ := bind_s h
      refine aw_V1v (pc := 36) hX h_X1_remember l_X6_142 dX6_comes_36 (by rfl) (by decide) (by rfl) rfl rfl rfl (Nat.le_of_ble_eq_true rfl) (s_X1_remember (isNb (by decide)) hq36) ?_
      refine aw_aload_n (pc := 39) hX 0 dX6_comes_39 rfl rfl ?_
      refine aw_getR (pc := 40) hX dX6_comes_40 f_X6_29 rfl (by rfl) (q := 15) (by rfl) ?_
      refine aw_getR (pc := 43) hX dX6_comes_43 f_X6_104 rfl (by rfl) (q := 16) (by rfl) ?_
      refine aw_iload_n (pc := 46) hX 1 dX6_comes_46 rfl rfl ?_
      refine aw_iconst (pc := 47) hX (1 : Int32) dX6_comes_47 (by decide) ?_
      obtain ⟨hv48, h⟩ := ite_g h
      refine aw_iastore (pc := 48) hX dX6_comes_48 (by rfl) (vinb_in hv48) ?_
      obtain ⟨I48, hi48, h⟩ := bind_s h
      refine AW.iEq hi48 ?_
      refine aw_aload_n (pc := 49) hX 0 dX6_comes_49 rfl rfl ?_
      refine aw_getR (pc := 50) hX dX6_comes_50 f_X6_29 rfl (by rfl) (q := 15) (by rfl) ?_
      refine aw_iconst (pc := 53) hX (1 : Int32) dX6_comes_53 (by decide) ?_
      obtain ⟨r54, hq54, h⟩ := bind_s h
      refine aw_V1i (pc := 54) hX h_X3_whoAre l_X6_135 dX6_comes_54 (by rfl) (by decide) (by rfl) rfl rfl rfl (Nat.le_of_ble_eq_true rfl) (s_X3_whoAre (isNb (by decide)) hq54) ?_
      obtain ⟨r57, hq57, h⟩ := bind_s h
      refine aw_S1i (pc := 57) hX h_J6_bitCount_0f7a4 l_X6_146 dX6_comes_57 rfl rfl rfl (Nat.le_of_ble_eq_true rfl) (s_J6_bitCount_0f7a4  hq57) ?_
      have e := Option.some.inj h
      subst e
      exact aw_iret hX hZ dX6_comes_60 rfl rfl rfl rfl rfl rfl rfl (Nat.le_refl _)
    · have h := ite_f h hc22
      refine aw_bipush (pc := 25) hX (-2 : Int32) dX6_comes_25 (by decide) ?_
      have e := Option.some.inj h
      subst e
      exact aw_iret hX hZ dX6_comes_27 rfl rfl rfl rfl rfl rfl rfl (Nat.le_refl _)
  · have h := ite_f h (bI0 hc8)
    refine aw_iconst (pc := 11) hX (-1 : Int32) dX6_comes_11 (by decide) ?_
    have e := Option.some.inj h
    subst e
    exact aw_iret hX hZ dX6_comes_12 rfl rfl rfl rfl rfl rfl rfl (Nat.le_refl _)
