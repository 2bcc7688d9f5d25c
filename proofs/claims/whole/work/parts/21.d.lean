def f_X1_remember (a1 : Nat) (I : Hi)  : Option (Hi) := if vinb (I (19) 2) 10 then (f_X3_become (21 + 4 * ((I (19) 2)).toNatClampNeg) (a1) I).bind fun r10 => (some (u2 r10 (19) 2 (((r10 (19) 2) + (1 : Int32)) - ((r10 (19) 2) + (1 : Int32)) / (10 : Int32) * (10 : Int32)))).bind fun I23 => (some (u2 I23 (19) 1 (jmin (10 : Int32) ((I23 (19) 1) + (1 : Int32))))).bind fun I38 => some (I38) else none
set_option maxRecDepth 100000 in
set_option maxHeartbeats 4000000 in
theorem s_X1_remember {G : GP} {a1 : Nat} (ha1 : isN a1) {c d : Nat} {I : Hi} {L : Hl}  {p : Hi} (h : f_X1_remember a1 I = some p) : CD G mi_X1_remember [.ref 19, .ref a1] S0 I (R0 c d) L none S0 p (R0 c d) L := by
  refine CD.intro 0 rfl (by decide) rfl fun X hX hZ => ?_
  rw [f_X1_remember] at h
  show AW G X 0 0 S0 I (R0 c d) L 0 [.ref 19, .ref a1] []
  refine aw_aload_n (pc := 0) hX 0 dX1_remember_0 rfl rfl ?_
  refine aw_getR (pc := 1) hX dX1_remember_1 f_X1_11 rfl (by rfl) (q := 20) (by rfl) ?_
  refine aw_aload_n (pc := 4) hX 0 dX1_remember_4 rfl rfl ?_
  refine aw_getI (pc := 5) hX dX1_remember_5 f_X1_21 rfl (by rfl) ?_
  obtain ⟨hv8, h⟩ := ite_g h
  refine aw_aaload (pc := 8) hX dX1_remember_8 (by rfl) (vinb_in hv8) (bef_rf hv8) ?_
  refine aw_aload_n (pc := 9) hX 1 dX1_remember_9 rfl rfl ?_
  obtain ⟨r10, hq10, h⟩ := bind_s h
  refine aw_V1v (pc := 10) hX h_X3_become l_X1_25 dX1_remember_10 (nsh0 (bef_N hv8)) (by decide) (by rfl) rfl rfl rfl (Nat.le_of_ble_eq_true rfl) (s_X3_become (bef_N hv8) ha1 hq10) ?_
  refine aw_aload_n (pc := 13) hX 0 dX1_remember_13 rfl rfl ?_
  refine aw_aload_n (pc := 14) hX 0 dX1_remember_14 rfl rfl ?_
  refine aw_getI (pc := 15) hX dX1_remember_15 f_X1_21 rfl (by rfl) ?_
  refine aw_iconst (pc := 18) hX (1 : Int32) dX1_remember_18 (by decide) ?_
  refine aw_iadd (pc := 19) hX dX1_remember_19 ?_
  refine aw_bipush (pc := 20) hX (10 : Int32) dX1_remember_20 (by decide) ?_
  refine aw_irem (pc := 22) hX dX1_remember_22 (by decide) ?_
  refine aw_putI (pc := 23) hX dX1_remember_23 f_X1_21 rfl rfl (by first | rfl | decide) (by first | rfl | decide) (by rfl) ?_
  obtain ⟨I23, hi23, h⟩ := bind_s h
  refine AW.iEq hi23 ?_
  refine aw_aload_n (pc := 26) hX 0 dX1_remember_26 rfl rfl ?_
  refine aw_bipush (pc := 27) hX (10 : Int32) dX1_remember_27 (by decide) ?_
  refine aw_aload_n (pc := 29) hX 0 dX1_remember_29 rfl rfl ?_
  refine aw_getI (pc := 30) hX dX1_remember_30 f_X1_17 rfl (by rfl) ?_
  refine aw_iconst (pc := 33) hX (1 : Int32) dX1_remember_33 (by decide) ?_
  refine aw_iadd (pc := 34) hX dX1_remember_34 ?_
  refine aw_min (pc := 35) hX dX1_remember_35 l_X1_29 w_stat_J9_min_7cf53 w_ini_RJ9 w_code_J9_min_7cf53 (by decide) (Nat.le_of_ble_eq_true rfl) (Nat.le_refl _) (Nat.le_refl _) ?_
  refine aw_putI (pc := 38) hX dX1_remember_38 f_X1_17 rfl rfl (by first | rfl | decide) (by first | rfl | decide) (by rfl) ?_
  obtain ⟨I38, hi38, h⟩ := bind_s h
  refine AW.iEq hi38 ?_
  have e := Option.some.inj h
  subst e
  exact aw_vret hX hZ dX1_remember_41 rfl rfl rfl rfl rfl rfl (Nat.le_refl _)
def f_X1_recall (a1 : Nat) (I : Hi)  : Option (Hi) := (some (u2 I (19) 2 ((((I (19) 2) + (10 : Int32)) - (1 : Int32)) - (((I (19) 2) + (10 : Int32)) - (1 : Int32)) / (10 : Int32) * (10 : Int32)))).bind fun I13 => if vinb (I13 (19) 2) 10 then (f_X3_become (a1) (21 + 4 * ((I13 (19) 2)).toNatClampNeg) I13).bind fun r26 => (some (u2 r26 (19) 1 ((r26 (19) 1) - (1 : Int32)))).bind fun I36 => some (I36) else none
set_option maxRecDepth 100000 in
set_option maxHeartbeats 4000000 in
theorem s_X1_recall {G : GP} {a1 : Nat} (ha1 : isN a1) {c d : Nat} {I : Hi} {L : Hl}  {p : Hi} (h : f_X1_recall a1 I = some p) : CD G mi_X1_recall [.ref 19, .ref a1] S0 I (R0 c d) L none S0 p (R0 c d) L := by
  refine CD.intro 0 rfl (by decide) rfl fun X hX hZ => ?_
  rw [f_X1_recall] at h
  show AW G X 0 0 S0 I (R0 c d) L 0 [.ref 19, .ref a1] []
  refine aw_aload_n (pc := 0) hX 0 dX1_recall_0 rfl rfl ?_
  refine aw_aload_n (pc := 1) hX 0 dX1_recall_1 rfl rfl ?_
  refine aw_getI (pc := 2) hX dX1_recall_2 f_X1_21 rfl (by rfl) ?_
  refine aw_bipush (pc := 5) hX (10 : Int32) dX1_recall_5 (by decide) ?_
  refine aw_iadd (pc := 7) hX dX1_recall_7 ?_
  refine aw_iconst (pc := 8) hX (1 : Int32) dX1_recall_8 (by decide) ?_
  refine aw_isub (pc := 9) hX dX1_recall_9 ?_
  refine aw_bipush (pc := 10) hX (10 : Int32) dX1_recall_10 (by decide) ?_
  refine aw_irem (pc := 12) hX dX1_recall_12 (by decide) ?_
  refine aw_putI (pc := 13) hX dX1_recall_13 f_X1_21 rfl rfl (by first | rfl | decide) (by first | rfl | decide) (by rfl) ?_
  obtain ⟨I13, hi13, h⟩ := bind_s h
  refine AW.iEq hi13 ?_
  refine aw_aload_n (pc := 16) hX 1 dX1_recall_16 rfl rfl ?_
  refine aw_aload_n (pc := 17) hX 0 dX1_recall_17 rfl rfl ?_
  refine aw_getR (pc := 18) hX dX1_recall_18 f_X1_11 rfl (by rfl) (q := 20) (by rfl) ?_
  refine aw_aload_n (pc := 21) hX 0 dX1_recall_21 rfl rfl ?_
  refine aw_getI (pc := 22) hX dX1_recall_22 f_X1_21 rfl (by rfl) ?_
  obtain ⟨hv25, h⟩ := ite_g h
  refine aw_aaload (pc := 25) hX dX1_recall_25 (by rfl) (vinb_in hv25) (bef_rf hv25) ?_
  obtain ⟨r26, hq26, h⟩ := bind_s h
  refine aw_V1v (pc := 26) hX h_X3_become l_X1_25 dX1_recall_26 (nsh0 ha1) (by decide) (by rfl) rfl rfl rfl (Nat.le_of_ble_eq_true rfl) (s_X3_become ha1 (bef_N hv25) hq26) ?_
  refine aw_aload_n (pc := 29) hX 0 dX1_recall_29 rfl rfl ?_
  refine aw_dup (pc := 30) hX dX1_recall_30 rfl ?_
  refine aw_getI (pc := 31) hX dX1_recall_31 f_X1_17 rfl (by rfl) ?_
  refine aw_iconst (pc := 34) hX (1 : Int32) dX1_recall_34 (by decide) ?_
  refine aw_isub (pc := 35) hX dX1_recall_35 ?_
  refine aw_putI (pc := 36) hX dX1_recall_36 f_X1_17 rfl rfl (by first | rfl | decide) (by first | rfl | decide) (by rfl) ?_
  obtain ⟨I36, hi36, h⟩ := bind_s h
  refine AW.iEq hi36 ?_
  have e := Option.some.inj h
  subst e
  exact aw_vret hX hZ dX1_recall_39 rfl rfl rfl rfl rfl rfl (Nat.le_refl _)
def b_X3_whoAre_26 (a0 : Nat) (I : Hi) (k4 : Int32 → Int32 → Int32 → Option (Int32)) (x1 : Int32) (x2 : Int32) (x3 : Int32) : Option (Int32) := k4 x1 x2 (x3 + 1)
set_option maxRecDepth 100000 in
set_option maxHeartbeats 4000000 in
theorem t_X3_whoAre_26 {G : GP} {X : CX} (hX : XOK G X mi_X3_whoAre) {a0 : Nat} (ha0 : isN a0) {c d : Nat} {I : Hi} {L : Hl} {p : Int32} (hZ : XZ G X mi_X3_whoAre (some (.int p)) S0 I (R0 c d) L) {k4 : Int32 → Int32 → Int32 → Option (Int32)} (hk4 : ∀ (x1 : Int32) (x2 : Int32) (x3 : Int32), k4 x1 x2 x3 = some p → AW G X 0 0 S0 I (R0 c d) L 4 [.ref a0, .int x1, .int x2, .int x3] []) (x1 : Int32) (x2 : Int32) (x3 : Int32) (h : b_X3_whoAre_26 a0 I k4 x1 x2 x3 = some p) : AW G X 0 0 S0 I (R0 c d) L 26 [.ref a0, .int x1, .int x2, .int x3] [] := by
  rw [b_X3_whoAre_26] at h
  refine aw_iincE (pc := 26) hX (x3 + 1) [.ref a0, .int x1, .int x2, .int (x3 + 1)] dX3_whoAre_26 rfl rfl (by decide) rfl rfl ?_
  refine aw_goto (pc := 29) hX 4 dX3_whoAre_29 rfl ?_
  exact AW.lo (hk4 x1 x2 (x3 + 1)  h) (And.intro (Or.inr rfl) (And.intro (Or.inr rfl) (And.intro (Or.inr rfl) (And.intro (Or.inr rfl) trivial))))
def b_X3_whoAre_4 (a0 : Nat) (I : Hi)  : Nat → Int32 → Int32 → Int32 → Option (Int32)
  | 0, _, _, _ => none
  | n + 1, x1, x2, x3 => if (6 : Int32) ≤ x3 then (some (x2)) else (if vinb x3 6 then if (I (a0 + 1) (x3).toNatClampNeg) = x1 then (b_X3_whoAre_26 a0 I (b_X3_whoAre_4 a0 I n) x1 (x2 ||| ((1 : Int32) <<< (x3 &&& 31))) x3) else (b_X3_whoAre_26 a0 I (b_X3_whoAre_4 a0 I n) x1 x2 x3) else none)
set_option maxRecDepth 100000 in
set_option maxHeartbeats 4000000 in
theorem t_X3_whoAre_4 {G : GP} {X : CX} (hX : XOK G X mi_X3_whoAre) {a0 : Nat} (ha0 : isN a0) {c d : Nat} {I : Hi} {L : Hl} {p : Int32} (hZ : XZ G X mi_X3_whoAre (some (.int p)) S0 I (R0 c d) L) : ∀ (n : Nat) (x1 : Int32) (x2 : Int32) (x3 : Int32), b_X3_whoAre_4 a0 I n x1 x2 x3 = some p → AW G X 0 0 S0 I (R0 c d) L 4 [.ref a0, .int x1, .int x2, .int x3] [] := by
  intro n
  induction n with
  | zero => intro x1 x2 x3 h; cases h
  | succ n ih =>
    intro x1 x2 x3 h
    rw [b_X3_whoAre_4] at h
    refine aw_iload_n (pc := 4) hX 3 dX3_whoAre_4 rfl rfl ?_
    refine aw_bipush (pc := 5) hX (6 : Int32) dX3_whoAre_5 (by decide) ?_
    refine aw_icmp_ge (pc := 7) hX 32 dX3_whoAre_7 rfl (fun hc7 => ?_) (fun hc7 => ?_)
    · have h := ite_t h hc7
      refine aw_iload_n (pc := 32) hX 2 dX3_whoAre_32 rfl rfl ?_
      have e := Option.some.inj h
      subst e
      exact aw_iret hX hZ dX3_whoAre_33 rfl rfl rfl rfl rfl rfl rfl (Nat.le_refl _)
    · have h := ite_f h hc7
      refine aw_aload_n (pc := 10) hX 0 dX3_whoAre_10 rfl rfl ?_
      refine aw_getR (pc := 11) hX dX3_whoAre_11 f_X3_21 rfl (nsh0 ha0) (q := a0 + 1) (nrf3 ha0) ?_
      refine aw_iload_n (pc := 14) hX 3 dX3_whoAre_14 rfl rfl ?_
      obtain ⟨hv15, h⟩ := ite_g h
      refine aw_iaload (pc := 15) hX dX3_whoAre_15 (nsh1 ha0) (vinb_in hv15) ?_
      refine aw_iload_n (pc := 16) hX 1 dX3_whoAre_16 rfl rfl ?_
      refine aw_icmp_ne (pc := 17) hX 26 dX3_whoAre_17 rfl (fun hc17 => ?_) (fun hc17 => ?_)
      · have h := ite_f h hc17
        exact AW.lo (t_X3_whoAre_26 hX ha0 hZ (ih) x1 x2 x3 h) (And.intro (Or.inr rfl) (And.intro (Or.inr rfl) (And.intro (Or.inr rfl) (And.intro (Or.inr rfl) trivial))))
      · have h := ite_t h hc17
        refine aw_iload_n (pc := 20) hX 2 dX3_whoAre_20 rfl rfl ?_
        refine aw_iconst (pc := 21) hX (1 : Int32) dX3_whoAre_21 (by decide) ?_
        refine aw_iload_n (pc := 22) hX 3 dX3_whoAre_22 rfl rfl ?_
        refine aw_ishl (pc := 23) hX dX3_whoAre_23 ?_
        refine aw_ior (pc := 24) hX dX3_whoAre_24 ?_
        refine aw_istore_nE (pc := 25) hX 2 [.ref a0, .int x1, .int (x2 ||| ((1 : Int32) <<< (x3 &&& 31))), .int x3] dX3_whoAre_25 rfl (by decide) rfl rfl ?_
        exact AW.lo (t_X3_whoAre_26 hX ha0 hZ (ih) x1 (x2 ||| ((1 : Int32) <<< (x3 &&& 31))) x3 h) (And.intro (Or.inr rfl) (And.intro (Or.inr rfl) (And.intro (Or.inr rfl) (And.intro (Or.inr rfl) trivial))))
def f_X3_whoAre (a0 : Nat) (I : Hi) (x1 : Int32) : Option (Int32) := b_X3_whoAre_4 a0 I 2000 x1 (0 : Int32) (0 : Int32)
set_option maxRecDepth 100000 in
set_option maxHeartbeats 4000000 in
theorem s_X3_whoAre {G : GP} {a0 : Nat} (ha0 : isN a0) {c d : Nat} {I : Hi} {L : Hl} {x1 : Int32} {p : Int32} (h : f_X3_whoAre a0 I x1 = some p) : CD G mi_X3_whoAre [.ref a0, .int x1] S0 I (R0 c d) L (some (.int p)) S0 I (R0 c d) L := by
  refine CD.intro 2 rfl (by decide) rfl fun X hX hZ => ?_
  rw [f_X3_whoAre] at h
  show AW G X 0 0 S0 I (R0 c d) L 0 [.ref a0, .int x1, .null, .null] []
  refine aw_iconst (pc := 0) hX (0 : Int32) dX3_whoAre_0 (by decide) ?_
  refine aw_istore_nE (pc := 1) hX 2 [.ref a0, .int x1, .int (0 : Int32), .null] dX3_whoAre_1 rfl (by decide) rfl rfl ?_
  refine aw_iconst (pc := 2) hX (0 : Int32) dX3_whoAre_2 (by decide) ?_
  refine aw_istore_nE (pc := 3) hX 3 [.ref a0, .int x1, .int (0 : Int32), .int (0 : Int32)] dX3_whoAre_3 rfl (by decide) rfl rfl ?_
  exact AW.lo (t_X3_whoAre_4 hX ha0 hZ 2000 x1 (0 : Int32) (0 : Int32) h) (And.intro (Or.inr rfl) (And.intro (Or.inr rfl) (And.intro (Or.inr rfl) (And.intro (Or.inr rfl) trivial))))
def b_X2_worth_30 (a3 : Nat) (a4 : Nat) (I : Hi)  (x1 : Int32) (x2 : Int32) (bs0 : Bool) : Option (Int32) := if vinb (x2 ||| ((1 : Int32) <<< (x1 &&& 31))) 64 then some (((bI bs0) + (I (68) ((x2 ||| ((1 : Int32) <<< (x1 &&& 31)))).toNatClampNeg))) else none
set_option maxRecDepth 100000 in
set_option maxHeartbeats 4000000 in
theorem t_X2_worth_30 {G : GP} {X : CX} (hX : XOK G X mi_X2_worth) {a3 : Nat} (ha3 : isC a3) {a4 : Nat} (ha4 : isN a4) {c d : Nat} {I : Hi} {L : Hl} {p : Int32} (hZ : XZ G X mi_X2_worth (some (.int p)) S0 I (R0 c d) L) (x1 : Int32) (x2 : Int32) (bs0 : Bool) (h : b_X2_worth_30 a3 a4 I x1 x2 bs0 = some p) : AW G X 0 0 S0 I (R0 c d) L 30 [.ref 67, .int x1, .int x2, .null, .null, .null, .null] [.int (bI bs0)] := by
  rw [b_X2_worth_30] at h
  refine aw_istoreE (pc := 30) hX [.ref 67, .int x1, .int x2, .null, .null, .null, .int (bI bs0)] dX2_worth_30 (by decide) rfl rfl ?_
  refine aw_iload (pc := 32) hX dX2_worth_32 rfl ?_
  refine aw_aload_n (pc := 34) hX 0 dX2_worth_34 rfl rfl ?_
  refine aw_getR (pc := 35) hX dX2_worth_35 f_X2_9 rfl (by rfl) (q := 68) (by rfl) ?_
  refine aw_iload_n (pc := 38) hX 2 dX2_worth_38 rfl rfl ?_
  refine aw_iconst (pc := 39) hX (1 : Int32) dX2_worth_39 (by decide) ?_
  refine aw_iload_n (pc := 40) hX 1 dX2_worth_40 rfl rfl ?_
  refine aw_ishl (pc := 41) hX dX2_worth_41 ?_
  refine aw_ior (pc := 42) hX dX2_worth_42 ?_
  obtain ⟨hv43, h⟩ := ite_g h
  refine aw_iaload (pc := 43) hX dX2_worth_43 (by rfl) (vinb_in hv43) ?_
  refine aw_iadd (pc := 44) hX dX2_worth_44 ?_
  have e := Option.some.inj h
  subst e
  exact aw_iret hX hZ dX2_worth_45 rfl rfl rfl rfl rfl rfl rfl (Nat.le_refl _)
def f_X2_worth (a3 : Nat) (a4 : Nat) (I : Hi) (x1 : Int32) (x2 : Int32) : Option (Int32) := (f_J6_bitCount_0f7a4 x2).bind fun r7 => (f_X0_leafBehind (a3) I (I (a4) 1) r7).bind fun r10 => (f_X0_goodTastes (a3) I r10 x1).bind fun r19 => if r19 = (0 : Int32) then (b_X2_worth_30 a3 a4 I x1 x2 false) else (b_X2_worth_30 a3 a4 I x1 x2 true)
set_option maxRecDepth 100000 in
set_option maxHeartbeats 4000000 in
theorem s_X2_worth {G : GP} {a3 : Nat} (ha3 : isC a3) {a4 : Nat} (ha4 : isN a4) {c d : Nat} {I : Hi} {L : Hl} {x1 : Int32} {x2 : Int32} {p : Int32} (h : f_X2_worth a3 a4 I x1 x2 = some p) : CD G mi_X2_worth [.ref 67, .int x1, .int x2, .ref a3, .ref a4] S0 I (R0 c d) L (some (.int p)) S0 I (R0 c d) L := by
  refine CD.intro 2 rfl (by decide) rfl fun X hX hZ => ?_
  rw [f_X2_worth] at h
  show AW G X 0 0 S0 I (R0 c d) L 0 [.ref 67, .int x1, .int x2, .ref a3, .ref a4, .null, .null] []
  refine aw_aload_n (pc := 0) hX 3 dX2_worth_0 rfl rfl ?_
  refine aw_aload (pc := 1) hX dX2_worth_1 rfl ?_
  refine aw_getI (pc := 3) hX dX2_worth_3 f_X2_38 rfl (nsh0 ha4) ?_
  refine aw_iload_n (pc := 6) hX 2 dX2_worth_6 rfl rfl ?_
  obtain ⟨r7, hq7, h⟩ := bind_s h
  refine aw_S1i (pc := 7) hX h_J6_bitCount_0f7a4 l_X2_42 dX2_worth_7 rfl rfl rfl (Nat.le_of_ble_eq_true rfl) (s_J6_bitCount_0f7a4  hq7) ?_
  obtain ⟨r10, hq10, h⟩ := bind_s h
  refine aw_V2i (pc := 10) hX h_X0_leafBehind l_X2_47 dX2_worth_10 (csh0 ha3) (by decide) (by rfl) rfl rfl rfl (Nat.le_of_ble_eq_true rfl) (s_X0_leafBehind ha3 hq10) ?_
  refine aw_istoreE (pc := 13) hX [.ref 67, .int x1, .int x2, .ref a3, .ref a4, .int r10, .null] dX2_worth_13 (by decide) rfl rfl ?_
  refine aw_aload_n (pc := 15) hX 3 dX2_worth_15 rfl rfl ?_
  refine aw_iload (pc := 16) hX dX2_worth_16 rfl ?_
  refine aw_iload_n (pc := 18) hX 1 dX2_worth_18 rfl rfl ?_
  obtain ⟨r19, hq19, h⟩ := bind_s h
  refine aw_V2i (pc := 19) hX h_X0_goodTastes l_X2_52 dX2_worth_19 (csh0 ha3) (by decide) (by rfl) rfl rfl rfl (Nat.le_of_ble_eq_true rfl) (s_X0_goodTastes ha3 hq19) ?_
  refine aw_if_eq (pc := 22) hX 29 dX2_worth_22 rfl (fun hc22 => ?_) (fun hc22 => ?_)
  · have h := ite_t h hc22
    refine aw_iconst (pc := 29) hX (0 : Int32) dX2_worth_29 (by decide) ?_
    exact AW.lo (t_X2_worth_30 hX ha3 ha4 hZ x1 x2 false h) (And.intro (Or.inr rfl) (And.intro (Or.inr rfl) (And.intro (Or.inr rfl) (And.intro (Or.inl rfl) (And.intro (Or.inl rfl) (And.intro (Or.inl rfl) (And.intro (Or.inl rfl) trivial)))))))
  · have h := ite_f h hc22
    refine aw_iconst (pc := 25) hX (1 : Int32) dX2_worth_25 (by decide) ?_
    refine aw_goto (pc := 26) hX 30 dX2_worth_26 rfl ?_
    exact AW.lo (t_X2_worth_30 hX ha3 ha4 hZ x1 x2 true h) (And.intro (Or.inr rfl) (And.intro (Or.inr rfl) (And.intro (Or.inr rfl) (And.intro (Or.inl rfl) (And.intro (Or.inl rfl) (And.intro (Or.inl rfl) (And.intro (Or.inl rfl) trivial)))))))
def b_X2_mostBehind_43 (a3 : Nat) (a4 : Nat) (I : Hi) (k6 : Int32 → Int32 → Int32 → Int32 → Option (Int32)) (x1 : Int32) (x2 : Int32) (x5 : Int32) (x6 : Int32) : Option (Int32) := k6 x1 x2 x5 (x6 + 1)
set_option maxRecDepth 100000 in
set_option maxHeartbeats 4000000 in
theorem t_X2_mostBehind_43 {G : GP} {X : CX} (hX : XOK G X mi_X2_mostBehind) {a3 : Nat} (ha3 : isC a3) {a4 : Nat} (ha4 : isN a4) {c d : Nat} {I : Hi} {L : Hl} {p : Int32} (hZ : XZ G X mi_X2_mostBehind (some (.int p)) S0 I (R0 c d) L) {k6 : Int32 → Int32 → Int32 → Int32 → Option (Int32)} (hk6 : ∀ (x1 : Int32) (x2 : Int32) (x5 : Int32) (x6 : Int32), k6 x1 x2 x5 x6 = some p → AW G X 0 0 S0 I (R0 c d) L 6 [.ref 67, .int x1, .int x2, .ref a3, .ref a4, .int x5, .int x6] []) (x1 : Int32) (x2 : Int32) (x5 : Int32) (x6 : Int32) (h : b_X2_mostBehind_43 a3 a4 I k6 x1 x2 x5 x6 = some p) : AW G X 0 0 S0 I (R0 c d) L 43 [.ref 67, .int x1, .int x2, .ref a3, .ref a4, .int x5, .int x6] [] := by
  rw [b_X2_mostBehind_43] at h
  refine aw_iincE (pc := 43) hX (x6 + 1) [.ref 67, .int x1, .int x2, .ref a3, .ref a4, .int x5, .int (x6 + 1)] dX2_mostBehind_43 rfl rfl (by decide) rfl rfl ?_
  refine aw_goto (pc := 46) hX 6 dX2_mostBehind_46 rfl ?_
  exact AW.lo (hk6 x1 x2 x5 (x6 + 1)  h) (And.intro (Or.inr rfl) (And.intro (Or.inr rfl) (And.intro (Or.inr rfl) (And.intro (Or.inr rfl) (And.intro (Or.inr rfl) (And.intro (Or.inr rfl) (And.intro (Or.inr rfl) trivial)))))))
def b_X2_mostBehind_6 (a3 : Nat) (a4 : Nat) (I : Hi)  : Nat → Int32 → Int32 → Int32 → Int32 → Option (Int32)
  | 0, _, _, _, _ => none
  | n + 1, x1, x2, x5, x6 => if (6 : Int32) ≤ x6 then (some (x5)) else ((f_X6_hasBit (x2 &&& (x1 ^^^ (-1 : Int32))) x6).bind fun r20 => if r20 = true then ((f_X2_worth (a3) (a4) I x6 x1).bind fun r35 => b_X2_mostBehind_43 a3 a4 I (b_X2_mostBehind_6 a3 a4 I n) x1 x2 (jmax x5 r35) x6) else (b_X2_mostBehind_43 a3 a4 I (b_X2_mostBehind_6 a3 a4 I n) x1 x2 x5 x6))
set_option maxRecDepth 100000 in
set_option maxHeartbeats 4000000 in
theorem t_X2_mostBehind_6 {G : GP} {X : CX} (hX : XOK G X mi_X2_mostBehind) {a3 : Nat} (ha3 : isC a3) {a4 : Nat} (ha4 : isN a4) {c d : Nat} {I : Hi} {L : Hl} {p : Int32} (hZ : XZ G X mi_X2_mostBehind (some (.int p)) S0 I (R0 c d) L) : ∀ (n : Nat) (x1 : Int32) (x2 : Int32) (x5 : Int32) (x6 : Int32), b_X2_mostBehind_6 a3 a4 I n x1 x2 x5 x6 = some p → AW G X 0 0 S0 I (R0 c d) L 6 [.ref 67, .int x1, .int x2, .ref a3, .ref a4, .int x5, .int x6] [] := by
  intro n
  induction n with
  | zero => intro x1 x2 x5 x6 h; cases h
  | succ n ih =>
    intro x1 x2 x5 x6 h
    rw [b_X2_mostBehind_6] at h
    refine aw_iload (pc := 6) hX dX2_mostBehind_6 rfl ?_
    refine aw_bipush (pc := 8) hX (6 : Int32) dX2_mostBehind_8 (by decide) ?_
    refine aw_icmp_ge (pc := 10) hX 49 dX2_mostBehind_10 rfl (fun hc10 => ?_) (fun hc10 => ?_)
    · have h := ite_t h hc10
      refine aw_iload (pc := 49) hX dX2_mostBehind_49 rfl ?_
      have e := Option.some.inj h
      subst e
      exact aw_iret hX hZ dX2_mostBehind_51 rfl rfl rfl rfl rfl rfl rfl (Nat.le_refl _)
    · have h := ite_f h hc10
      refine aw_iload_n (pc := 13) hX 2 dX2_mostBehind_13 rfl rfl ?_
      refine aw_iload_n (pc := 14) hX 1 dX2_mostBehind_14 rfl rfl ?_
      refine aw_iconst (pc := 15) hX (-1 : Int32) dX2_mostBehind_15 (by decide) ?_
      refine aw_ixor (pc := 16) hX dX2_mostBehind_16 ?_
      refine aw_iand (pc := 17) hX dX2_mostBehind_17 ?_
      refine aw_iload (pc := 18) hX dX2_mostBehind_18 rfl ?_
      obtain ⟨r20, hq20, h⟩ := bind_s h
      refine aw_SN2i (pc := 20) hX h_X6_hasBit l_X2_25 dX2_mostBehind_20 rfl rfl rfl (Nat.le_of_ble_eq_true rfl) (s_X6_hasBit  hq20) ?_
      refine aw_if_eq (pc := 23) hX 43 dX2_mostBehind_23 rfl (fun hc23 => ?_) (fun hc23 => ?_)
      · have h := ite_f h (bI0 hc23)
        exact AW.lo (t_X2_mostBehind_43 hX ha3 ha4 hZ (ih) x1 x2 x5 x6 h) (And.intro (Or.inr rfl) (And.intro (Or.inr rfl) (And.intro (Or.inr rfl) (And.intro (Or.inr rfl) (And.intro (Or.inr rfl) (And.intro (Or.inr rfl) (And.intro (Or.inr rfl) trivial)))))))
      · have h := ite_t h (bI1 hc23)
        refine aw_iload (pc := 26) hX dX2_mostBehind_26 rfl ?_
        refine aw_aload_n (pc := 28) hX 0 dX2_mostBehind_28 rfl rfl ?_
        refine aw_iload (pc := 29) hX dX2_mostBehind_29 rfl ?_
        refine aw_iload_n (pc := 31) hX 1 dX2_mostBehind_31 rfl rfl ?_
        refine aw_aload_n (pc := 32) hX 3 dX2_mostBehind_32 rfl rfl ?_
        refine aw_aload (pc := 33) hX dX2_mostBehind_33 rfl ?_
        obtain ⟨r35, hq35, h⟩ := bind_s h
        refine aw_V4i (pc := 35) hX h_X2_worth l_X2_29 dX2_mostBehind_35 (by rfl) (by decide) (by rfl) rfl rfl rfl (Nat.le_of_ble_eq_true rfl) (s_X2_worth ha3 ha4 hq35) ?_
        refine aw_max (pc := 38) hX dX2_mostBehind_38 l_X2_32 w_stat_J9_max_7cf53 w_ini_RJ9 w_code_J9_max_7cf53 (by decide) (Nat.le_of_ble_eq_true rfl) (Nat.le_refl _) (Nat.le_refl _) ?_
        refine aw_istoreE (pc := 41) hX [.ref 67, .int x1, .int x2, .ref a3, .ref a4, .int (jmax x5 r35), .int x6] dX2_mostBehind_41 (by decide) rfl rfl ?_
        exact AW.lo (t_X2_mostBehind_43 hX ha3 ha4 hZ (ih) x1 x2 (jmax x5 r35) x6 h) (And.intro (Or.inr rfl) (And.intro (Or.inr rfl) (And.intro (Or.inr rfl) (And.intro (Or.inr rfl) (And.intro (Or.inr rfl) (And.intro (Or.inr rfl) (And.intro (Or.inr rfl) trivial)))))))
def f_X2_mostBehind (a3 : Nat) (a4 : Nat) (I : Hi) (x1 : Int32) (x2 : Int32) : Option (Int32) := b_X2_mostBehind_6 a3 a4 I 2000 x1 x2 (0 : Int32) (0 : Int32)
set_option maxRecDepth 100000 in
set_option maxHeartbeats 4000000 in
theorem s_X2_mostBehind {G : GP} {a3 : Nat} (ha3 : isC a3) {a4 : Nat} (ha4 : isN a4) {c d : Nat} {I : Hi} {L : Hl} {x1 : Int32} {x2 : Int32} {p : Int32} (h : f_X2_mostBehind a3 a4 I x1 x2 = some p) : CD G mi_X2_mostBehind [.ref 67, .int x1, .int x2, .ref a3, .ref a4] S0 I (R0 c d) L (some (.int p)) S0 I (R0 c d) L := by
  refine CD.intro 2 rfl (by decide) rfl fun X hX hZ => ?_
  rw [f_X2_mostBehind] at h
  show AW G X 0 0 S0 I (R0 c d) L 0 [.ref 67, .int x1, .int x2, .ref a3, .ref a4, .null, .null] []
  refine aw_iconst (pc := 0) hX (0 : Int32) dX2_mostBehind_0 (by decide) ?_
  refine aw_istoreE (pc := 1) hX [.ref 67, .int x1, .int x2, .ref a3, .ref a4, .int (0 : Int32), .null] dX2_mostBehind_1 (by decide) rfl rfl ?_
  refine aw_iconst (pc := 3) hX (0 : Int32) dX2_mostBehind_3 (by decide) ?_
  refine aw_istoreE (pc := 4) hX [.ref 67, .int x1, .int x2, .ref a3, .ref a4, .int (0 : Int32), .int (0 : Int32)] dX2_mostBehind_4 (by decide) rfl rfl ?_
  exact AW.lo (t_X2_mostBehind_6 hX ha3 ha4 hZ 2000 x1 x2 (0 : Int32) (0 : Int32) h) (And.intro (Or.inr rfl) (And.intro (Or.inr rfl) (And.intro (Or.inr rfl) (And.intro (Or.inr rfl) (And.intro (Or.inr rfl) (And.intro (Or.inr rfl) (And.intro (Or.inr rfl) trivial)))))))
def b_X2_weigh_39 (a1 : Nat) (a2 : Nat) (k9 : Hi → Int32 → Int32 → Option (Hi)) (I : Hi) (x3 : Int32) (x4 : Int32) : Option (Hi) := k9 I x3 (x4 + (-1))
set_option maxRecDepth 100000 in
set_option maxHeartbeats 4000000 in
theorem t_X2_weigh_39 {G : GP} {X : CX} (hX : XOK G X mi_X2_weigh) {a1 : Nat} (ha1 : isC a1) {a2 : Nat} (ha2 : isN a2) {c d : Nat} {L : Hl} {p : Hi} (hZ : XZ G X mi_X2_weigh none S0 p (R0 c d) L) {k9 : Hi → Int32 → Int32 → Option (Hi)} (hk9 : ∀ (I : Hi) (x3 : Int32) (x4 : Int32), k9 I x3 x4 = some p → AW G X 0 0 S0 I (R0 c d) L 9 [.ref 67, .ref a1, .ref a2, .int x3, .int x4] []) (I : Hi) (x3 : Int32) (x4 : Int32) (h : b_X2_weigh_39 a1 a2 k9 I x3 x4 = some p) : AW G X 0 0 S0 I (R0 c d) L 39 [.ref 67, .ref a1, .ref a2, .int x3, .int x4] [] := by
  rw [b_X2_weigh_39] at h
  refine aw_iincE (pc := 39) hX (x4 + (-1)) [.ref 67, .ref a1, .ref a2, .int x3, .int (x4 + (-1))] dX2_weigh_39 rfl rfl (by decide) rfl rfl ?_
  refine aw_goto (pc := 42) hX 9 dX2_weigh_42 rfl ?_
  exact AW.lo (hk9 I x3 (x4 + (-1))  h) (And.intro (Or.inr rfl) (And.intro (Or.inr rfl) (And.intro (Or.inr rfl) (And.intro (Or.inr rfl) (And.intro (Or.inr rfl) trivial)))))
def b_X2_weigh_9 (a1 : Nat) (a2 : Nat)  : Nat → Hi → Int32 → Int32 → Option (Hi)
  | 0, _, _, _ => none
  | n + 1, I, x3, x4 => if x4 < (0 : Int32) then (some (I)) else (if (x4 &&& (x3 ^^^ (-1 : Int32))) = (0 : Int32) then ((f_X2_mostBehind (a1) (a2) I x4 x3).bind fun r35 => if vinb x4 64 then (some (u2 I (68) (x4).toNatClampNeg r35)).bind fun I38 => b_X2_weigh_39 a1 a2 (b_X2_weigh_9 a1 a2 n) I38 x3 x4 else none) else (b_X2_weigh_39 a1 a2 (b_X2_weigh_9 a1 a2 n) I x3 x4))
set_option maxRecDepth 100000 in
set_option maxHeartbeats 4000000 in
theorem t_X2_weigh_9 {G : GP} {X : CX} (hX : XOK G X mi_X2_weigh) {a1 : Nat} (ha1 : isC a1) {a2 : Nat} (ha2 : isN a2) {c d : Nat} {L : Hl} {p : Hi} (hZ : XZ G X mi_X2_weigh none S0 p (R0 c d) L) : ∀ (n : Nat) (I : Hi) (x3 : Int32) (x4 : Int32), b_X2_weigh_9 a1 a2 n I x3 x4 = some p → AW G X 0 0 S0 I (R0 c d) L 9 [.ref 67, .ref a1, .ref a2, .int x3, .int x4] [] := by
  intro n
  induction n with
  | zero => intro I x3 x4 h; cases h
  | succ n ih =>
    intro I x3 x4 h
    rw [b_X2_weigh_9] at h
    refine aw_iload (pc := 9) hX dX2_weigh_9 rfl ?_
    refine aw_if_lt (pc := 11) hX 45 dX2_weigh_11 rfl (fun hc11 => ?_) (fun hc11 => ?_)
    · have h := ite_t h hc11
      have e := Option.some.inj h
      subst e
      exact aw_vret hX hZ dX2_weigh_45 rfl rfl rfl rfl rfl rfl (Nat.le_refl _)
    · have h := ite_f h hc11
      refine aw_iload (pc := 14) hX dX2_weigh_14 rfl ?_
      refine aw_iload_n (pc := 16) hX 3 dX2_weigh_16 rfl rfl ?_
      refine aw_iconst (pc := 17) hX (-1 : Int32) dX2_weigh_17 (by decide) ?_
      refine aw_ixor (pc := 18) hX dX2_weigh_18 ?_
      refine aw_iand (pc := 19) hX dX2_weigh_19 ?_
      refine aw_if_ne (pc := 20) hX 39 dX2_weigh_20 rfl (fun hc20 => ?_) (fun hc20 => ?_)
      · have h := ite_f h hc20
        exact AW.lo (t_X2_weigh_39 hX ha1 ha2 hZ (ih) I x3 x4 h) (And.intro (Or.inr rfl) (And.intro (Or.inr rfl) (And.intro (Or.inr rfl) (And.intro (Or.inr rfl) (And.intro (Or.inr rfl) trivial)))))
      · have h := ite_t h hc20
        refine aw_aload_n (pc := 23) hX 0 dX2_weigh_23 rfl rfl ?_
        refine aw_getR (pc := 24) hX dX2_weigh_24 f_X2_9 rfl (by rfl) (q := 68) (by rfl) ?_
        refine aw_iload (pc := 27) hX dX2_weigh_27 rfl ?_
        refine aw_aload_n (pc := 29) hX 0 dX2_weigh_29 rfl rfl ?_
        refine aw_iload (pc := 30) hX dX2_weigh_30 rfl ?_
        refine aw_iload_n (pc := 32) hX 3 dX2_weigh_32 rfl rfl ?_
        refine aw_aload_n (pc := 33) hX 1 dX2_weigh_33 rfl rfl ?_
        refine aw_aload_n (pc := 34) hX 2 dX2_weigh_34 rfl rfl ?_
        obtain ⟨r35, hq35, h⟩ := bind_s h
        refine aw_V4i (pc := 35) hX h_X2_mostBehind l_X2_21 dX2_weigh_35 (by rfl) (by decide) (by rfl) rfl rfl rfl (Nat.le_of_ble_eq_true rfl) (s_X2_mostBehind ha1 ha2 hq35) ?_
        obtain ⟨hv38, h⟩ := ite_g h
        refine aw_iastore (pc := 38) hX dX2_weigh_38 (by rfl) (vinb_in hv38) ?_
        obtain ⟨I38, hi38, h⟩ := bind_s h
        refine AW.iEq hi38 ?_
        exact AW.lo (t_X2_weigh_39 hX ha1 ha2 hZ (ih) I38 x3 x4 h) (And.intro (Or.inr rfl) (And.intro (Or.inr rfl) (And.intro (Or.inr rfl) (And.intro (Or.inr rfl) (And.intro (Or.inr rfl) trivial)))))
def f_X2_weigh (a1 : Nat) (a2 : Nat) (I : Hi)  : Option (Hi) := (f_X3_whoAre (a2) I (1 : Int32)).bind fun r2 => b_X2_weigh_9 a1 a2 2000 I r2 r2
set_option maxRecDepth 100000 in
set_option maxHeartbeats 4000000 in
theorem s_X2_weigh {G : GP} {a1 : Nat} (ha1 : isC a1) {a2 : Nat} (ha2 : isN a2) {c d : Nat} {I : Hi} {L : Hl}  {p : Hi} (h : f_X2_weigh a1 a2 I = some p) : CD G mi_X2_weigh [.ref 67, .ref a1, .ref a2] S0 I (R0 c d) L none S0 p (R0 c d) L := by
  refine CD.intro 2 rfl (by decide) rfl fun X hX hZ => ?_
  rw [f_X2_weigh] at h
  show AW G X 0 0 S0 I (R0 c d) L 0 [.ref 67, .ref a1, .ref a2, .null, .null] []
  refine aw_aload_n (pc := 0) hX 2 dX2_weigh_0 rfl rfl ?_
  refine aw_iconst (pc := 1) hX (1 : Int32) dX2_weigh_1 (by decide) ?_
  obtain ⟨r2, hq2, h⟩ := bind_s h
  refine aw_V1i (pc := 2) hX h_X3_whoAre l_X2_15 dX2_weigh_2 (nsh0 ha2) (by decide) (by rfl) rfl rfl rfl (Nat.le_of_ble_eq_true rfl) (s_X3_whoAre ha2 hq2) ?_
  refine aw_istore_nE (pc := 5) hX 3 [.ref 67, .ref a1, .ref a2, .int r2, .null] dX2_weigh_5 rfl (by decide) rfl rfl ?_
  refine aw_iload_n (pc := 6) hX 3 dX2_weigh_6 rfl rfl ?_
  refine aw_istoreE (pc := 7) hX [.ref 67, .ref a1, .ref a2, .int r2, .int r2] dX2_weigh_7 (by decide) rfl rfl ?_
  exact AW.lo (t_X2_weigh_9 hX ha1 ha2 hZ 2000 I r2 r2 h) (And.intro (Or.inr rfl) (And.intro (Or.inr rfl) (And.intro (Or.inr rfl) (And.intro (Or.inr rfl) (And.intro (Or.inr rfl) trivial)))))
def b_X2_lowestOfBest_45 (a3 : Nat) (a4 : Nat) (I : Hi) (k3 : Int32 → Int32 → Int32 → Option (Int32)) (x1 : Int32) (x2 : Int32) (x5 : Int32) : Option (Int32) := k3 x1 x2 (x5 + 1)
set_option maxRecDepth 100000 in
set_option maxHeartbeats 4000000 in
theorem t_X2_lowestOfBest_45 {G : GP} {X : CX} (hX : XOK G X mi_X2_lowestOfBest) {a3 : Nat} (ha3 : isC a3) {a4 : Nat} (ha4 : isN a4) {c d : Nat} {I : Hi} {L : Hl} {p : Int32} (hZ : XZ G X mi_X2_lowestOfBest (some (.int p)) S0 I (R0 c d) L) {k3 : Int32 → Int32 → Int32 → Option (Int32)} (hk3 : ∀ (x1 : Int32) (x2 : Int32) (x5 : Int32), k3 x1 x2 x5 = some p → AW G X 0 0 S0 I (R0 c d) L 3 [.ref 67, .int x1, .int x2, .ref a3, .ref a4, .int x5] []) (x1 : Int32) (x2 : Int32) (x5 : Int32) (h : b_X2_lowestOfBest_45 a3 a4 I k3 x1 x2 x5 = some p) : AW G X 0 0 S0 I (R0 c d) L 45 [.ref 67, .int x1, .int x2, .ref a3, .ref a4, .int x5] [] := by
  rw [b_X2_lowestOfBest_45] at h
  refine aw_iincE (pc := 45) hX (x5 + 1) [.ref 67, .int x1, .int x2, .ref a3, .ref a4, .int (x5 + 1)] dX2_lowestOfBest_45 rfl rfl (by decide) rfl rfl ?_
  refine aw_goto (pc := 48) hX 3 dX2_lowestOfBest_48 rfl ?_
  exact AW.lo (hk3 x1 x2 (x5 + 1)  h) (And.intro (Or.inr rfl) (And.intro (Or.inr rfl) (And.intro (Or.inr rfl) (And.intro (Or.inr rfl) (And.intro (Or.inr rfl) (And.intro (Or.inr rfl) trivial))))))
def b_X2_lowestOfBest_3 (a3 : Nat) (a4 : Nat) (I : Hi)  : Nat → Int32 → Int32 → Int32 → Option (Int32)
  | 0, _, _, _ => none
  | n + 1, x1, x2, x5 => if (6 : Int32) ≤ x5 then (some ((-9 : Int32))) else ((f_X6_hasBit (x2 &&& (x1 ^^^ (-1 : Int32))) x5).bind fun r17 => if r17 = true then ((f_X2_worth (a3) (a4) I x5 x1).bind fun r30 => if vinb x1 64 then if r30 = (I (68) (x1).toNatClampNeg) then (some (x5)) else (b_X2_lowestOfBest_45 a3 a4 I (b_X2_lowestOfBest_3 a3 a4 I n) x1 x2 x5) else none) else (b_X2_lowestOfBest_45 a3 a4 I (b_X2_lowestOfBest_3 a3 a4 I n) x1 x2 x5))
set_option maxRecDepth 100000 in
set_option maxHeartbeats 4000000 in
theorem t_X2_lowestOfBest_3 {G : GP} {X : CX} (hX : XOK G X mi_X2_lowestOfBest) {a3 : Nat} (ha3 : isC a3) {a4 : Nat} (ha4 : isN a4) {c d : Nat} {I : Hi} {L : Hl} {p : Int32} (hZ : XZ G X mi_X2_lowestOfBest (some (.int p)) S0 I (R0 c d) L) : ∀ (n : Nat) (x1 : Int32) (x2 : Int32) (x5 : Int32), b_X2_lowestOfBest_3 a3 a4 I n x1 x2 x5 = some p → AW G X 0 0 S0 I (R0 c d) L 3 [.ref 67, .int x1, .int x2, .ref a3, .ref a4, .int x5] [] := by
  intro n
  induction n with
  | zero => intro x1 x2 x5 h; cases h
  | succ n ih =>
    intro x1 x2 x5 h
    rw [b_X2_lowestOfBest_3] at h
    refine aw_iload (pc := 3) hX dX2_lowestOfBest_3 rfl ?_
    refine aw_bipush (pc := 5) hX (6 : Int32) dX2_lowestOfBest_5 (by decide) ?_
    refine aw_icmp_ge (pc := 7) hX 51 dX2_lowestOfBest_7 rfl (fun hc7 => ?_) (fun hc7 => ?_)
    · have h := ite_t h hc7
      refine aw_bipush (pc := 51) hX (-9 : Int32) dX2_lowestOfBest_51 (by decide) ?_
      have e := Option.some.inj h
      subst e
      exact aw_iret hX hZ dX2_lowestOfBest_53 rfl rfl rfl rfl rfl rfl rfl (Nat.le_refl _)
    · have h := ite_f h hc7
      refine aw_iload_n (pc := 10) hX 2 dX2_lowestOfBest_10 rfl rfl ?_
      refine aw_iload_n (pc := 11) hX 1 dX2_lowestOfBest_11 rfl rfl ?_
      refine aw_iconst (pc := 12) hX (-1 : Int32) dX2_lowestOfBest_12 (by decide) ?_
      refine aw_ixor (pc := 13) hX dX2_lowestOfBest_13 ?_
      refine aw_iand (pc := 14) hX dX2_lowestOfBest_14 ?_
      refine aw_iload (pc := 15) hX dX2_lowestOfBest_15 rfl ?_
      obtain ⟨r17, hq17, h⟩ := bind_s h
      refine aw_SN2i (pc := 17) hX h_X6_hasBit l_X2_25 dX2_lowestOfBest_17 rfl rfl rfl (Nat.le_of_ble_eq_true rfl) (s_X6_hasBit  hq17) ?_
      refine aw_if_eq (pc := 20) hX 45 dX2_lowestOfBest_20 rfl (fun hc20 => ?_) (fun hc20 => ?_)
      · have h := ite_f h (bI0 hc20)
        exact AW.lo (t_X2_lowestOfBest_45 hX ha3 ha4 hZ (ih) x1 x2 x5 h) (And.intro (Or.inr rfl) (And.intro (Or.inr rfl) (And.intro (Or.inr rfl) (And.intro (Or.inr rfl) (And.intro (Or.inr rfl) (And.intro (Or.inr rfl) trivial))))))
      · have h := ite_t h (bI1 hc20)
        refine aw_aload_n (pc := 23) hX 0 dX2_lowestOfBest_23 rfl rfl ?_
        refine aw_iload (pc := 24) hX dX2_lowestOfBest_24 rfl ?_
        refine aw_iload_n (pc := 26) hX 1 dX2_lowestOfBest_26 rfl rfl ?_
        refine aw_aload_n (pc := 27) hX 3 dX2_lowestOfBest_27 rfl rfl ?_
        refine aw_aload (pc := 28) hX dX2_lowestOfBest_28 rfl ?_
        obtain ⟨r30, hq30, h⟩ := bind_s h
        refine aw_V4i (pc := 30) hX h_X2_worth l_X2_29 dX2_lowestOfBest_30 (by rfl) (by decide) (by rfl) rfl rfl rfl (Nat.le_of_ble_eq_true rfl) (s_X2_worth ha3 ha4 hq30) ?_
        refine aw_aload_n (pc := 33) hX 0 dX2_lowestOfBest_33 rfl rfl ?_
        refine aw_getR (pc := 34) hX dX2_lowestOfBest_34 f_X2_9 rfl (by rfl) (q := 68) (by rfl) ?_
        refine aw_iload_n (pc := 37) hX 1 dX2_lowestOfBest_37 rfl rfl ?_
        obtain ⟨hv38, h⟩ := ite_g h
        refine aw_iaload (pc := 38) hX dX2_lowestOfBest_38 (by rfl) (vinb_in hv38) ?_
        refine aw_icmp_ne (pc := 39) hX 45 dX2_lowestOfBest_39 rfl (fun hc39 => ?_) (fun hc39 => ?_)
        · have h := ite_f h hc39
          exact AW.lo (t_X2_lowestOfBest_45 hX ha3 ha4 hZ (ih) x1 x2 x5 h) (And.intro (Or.inr rfl) (And.intro (Or.inr rfl) (And.intro (Or.inr rfl) (And.intro (Or.inr rfl) (And.intro (Or.inr rfl) (And.intro (Or.inr rfl) trivial))))))
        · have h := ite_t h hc39
          refine aw_iload (pc := 42) hX dX2_lowestOfBest_42 rfl ?_
          have e := Option.some.inj h
          subst e
          exact aw_iret hX hZ dX2_lowestOfBest_44 rfl rfl rfl rfl rfl rfl rfl (Nat.le_refl _)
def f_X2_lowestOfBest (a3 : Nat) (a4 : Nat) (I : Hi) (x1 : Int32) (x2 : Int32) : Option (Int32) := b_X2_lowestOfBest_3 a3 a4 I 2000 x1 x2 (0 : Int32)
set_option maxRecDepth 100000 in
set_option maxHeartbeats 4000000 in
theorem s_X2_lowestOfBest {G : GP} {a3 : Nat} (ha3 : isC a3) {a4 : Nat} (ha4 : isN a4) {c d : Nat} {I : Hi} {L : Hl} {x1 : Int32} {x2 : Int32} {p : Int32} (h : f_X2_lowestOfBest a3 a4 I x1 x2 = some p) : CD G mi_X2_lowestOfBest [.ref 67, .int x1, .int x2, .ref a3, .ref a4] S0 I (R0 c d) L (some (.int p)) S0 I (R0 c d) L := by
  refine CD.intro 1 rfl (by decide) rfl fun X hX hZ => ?_
  rw [f_X2_lowestOfBest] at h
  show AW G X 0 0 S0 I (R0 c d) L 0 [.ref 67, .int x1, .int x2, .ref a3, .ref a4, .null] []
  refine aw_iconst (pc := 0) hX (0 : Int32) dX2_lowestOfBest_0 (by decide) ?_
  refine aw_istoreE (pc := 1) hX [.ref 67, .int x1, .int x2, .ref a3, .ref a4, .int (0 : Int32)] dX2_lowestOfBest_1 (by decide) rfl rfl ?_
  exact AW.lo (t_X2_lowestOfBest_3 hX ha3 ha4 hZ 2000 x1 x2 (0 : Int32) h) (And.intro (Or.inr rfl) (And.intro (Or.inr rfl) (And.intro (Or.inr rfl) (And.intro (Or.inr rfl) (And.intro (Or.inr rfl) (And.intro (Or.inr rfl) trivial))))))
def b_X2_goerAt_17 (a2 : Nat) (a3 : Nat) (I : Hi)  : Nat → Int32 → Int32 → Int32 → Int32 → Int32 → Option (Int32)
  | 0, _, _, _, _, _ => none
  | n + 1, x1, x4, x5, x6, x7 => if x1 < x7 then (some (x6)) else ((f_X2_lowestOfBest (a2) (a3) I x5 x4).bind fun r30 => if r30 = (-9 : Int32) then (some ((-9 : Int32))) else (b_X2_goerAt_17 a2 a3 I n x1 x4 (x5 ||| ((1 : Int32) <<< (r30 &&& 31))) r30 (x7 + 1)))
set_option maxRecDepth 100000 in
set_option maxHeartbeats 4000000 in
theorem t_X2_goerAt_17 {G : GP} {X : CX} (hX : XOK G X mi_X2_goerAt) {a2 : Nat} (ha2 : isC a2) {a3 : Nat} (ha3 : isN a3) {c d : Nat} {I : Hi} {L : Hl} {p : Int32} (hZ : XZ G X mi_X2_goerAt (some (.int p)) S0 I (R0 c d) L) : ∀ (n : Nat) (x1 : Int32) (x4 : Int32) (x5 : Int32) (x6 : Int32) (x7 : Int32), b_X2_goerAt_17 a2 a3 I n x1 x4 x5 x6 x7 = some p → AW G X 0 0 S0 I (R0 c d) L 17 [.ref 67, .int x1, .ref a2, .ref a3, .int x4, .int x5, .int x6, .int x7] [] := by
  intro n
  induction n with
  | zero => intro x1 x4 x5 x6 x7 h; cases h
  | succ n ih =>
    intro x1 x4 x5 x6 x7 h
    rw [b_X2_goerAt_17] at h
    refine aw_iload (pc := 17) hX dX2_goerAt_17 rfl ?_
    refine aw_iload_n (pc := 19) hX 1 dX2_goerAt_19 rfl rfl ?_
    refine aw_icmp_gt (pc := 20) hX 60 dX2_goerAt_20 rfl (fun hc20 => ?_) (fun hc20 => ?_)
    · have h := ite_t h hc20
      refine aw_iload (pc := 60) hX dX2_goerAt_60 rfl ?_
      have e := Option.some.inj h
      subst e
      exact aw_iret hX hZ dX2_goerAt_62 rfl rfl rfl rfl rfl rfl rfl (Nat.le_refl _)
    · have h := ite_f h hc20
      refine aw_aload_n (pc := 23) hX 0 dX2_goerAt_23 rfl rfl ?_
      refine aw_iload (pc := 24) hX dX2_goerAt_24 rfl ?_
      refine aw_iload (pc := 26) hX dX2_goerAt_26 rfl ?_
      refine aw_aload_n (pc := 28) hX 2 dX2_goerAt_28 rfl rfl ?_
      refine aw_aload_n (pc := 29) hX 3 dX2_goerAt_29 rfl rfl ?_
      obtain ⟨r30, hq30, h⟩ := bind_s h
      refine aw_V4i (pc := 30) hX h_X2_lowestOfBest l_X2_55 dX2_goerAt_30 (by rfl) (by decide) (by rfl) rfl rfl rfl (Nat.le_of_ble_eq_true rfl) (s_X2_lowestOfBest ha2 ha3 hq30) ?_
      refine aw_istoreE (pc := 33) hX [.ref 67, .int x1, .ref a2, .ref a3, .int x4, .int x5, .int r30, .int x7] dX2_goerAt_33 (by decide) rfl rfl ?_
      refine aw_iload (pc := 35) hX dX2_goerAt_35 rfl ?_
      refine aw_bipush (pc := 37) hX (-9 : Int32) dX2_goerAt_37 (by decide) ?_
      refine aw_icmp_ne (pc := 39) hX 45 dX2_goerAt_39 rfl (fun hc39 => ?_) (fun hc39 => ?_)
      · have h := ite_f h hc39
        refine aw_iload (pc := 45) hX dX2_goerAt_45 rfl ?_
        refine aw_iconst (pc := 47) hX (1 : Int32) dX2_goerAt_47 (by decide) ?_
        refine aw_iload (pc := 48) hX dX2_goerAt_48 rfl ?_
        refine aw_ishl (pc := 50) hX dX2_goerAt_50 ?_
        refine aw_ior (pc := 51) hX dX2_goerAt_51 ?_
        refine aw_istoreE (pc := 52) hX [.ref 67, .int x1, .ref a2, .ref a3, .int x4, .int (x5 ||| ((1 : Int32) <<< (r30 &&& 31))), .int r30, .int x7] dX2_goerAt_52 (by decide) rfl rfl ?_
        refine aw_iincE (pc := 54) hX (x7 + 1) [.ref 67, .int x1, .ref a2, .ref a3, .int x4, .int (x5 ||| ((1 : Int32) <<< (r30 &&& 31))), .int r30, .int (x7 + 1)] dX2_goerAt_54 rfl rfl (by decide) rfl rfl ?_
        refine aw_goto (pc := 57) hX 17 dX2_goerAt_57 rfl ?_
        exact AW.lo (ih x1 x4 (x5 ||| ((1 : Int32) <<< (r30 &&& 31))) r30 (x7 + 1)  h) (And.intro (Or.inr rfl) (And.intro (Or.inr rfl) (And.intro (Or.inr rfl) (And.intro (Or.inr rfl) (And.intro (Or.inr rfl) (And.intro (Or.inr rfl) (And.intro (Or.inr rfl) (And.intro (Or.inr rfl) trivial))))))))
      · have h := ite_t h hc39
        refine aw_bipush (pc := 42) hX (-9 : Int32) dX2_goerAt_42 (by decide) ?_
        have e := Option.some.inj h
        subst e
        exact aw_iret hX hZ dX2_goerAt_44 rfl rfl rfl rfl rfl rfl rfl (Nat.le_refl _)
def f_X2_goerAt (a2 : Nat) (a3 : Nat) (I : Hi) (x1 : Int32) : Option (Int32) := (f_X3_whoAre (a3) I (1 : Int32)).bind fun r2 => b_X2_goerAt_17 a2 a3 I 2000 x1 r2 (0 : Int32) (-9 : Int32) (0 : Int32)
set_option maxRecDepth 100000 in
set_option maxHeartbeats 4000000 in
theorem s_X2_goerAt {G : GP} {a2 : Nat} (ha2 : isC a2) {a3 : Nat} (ha3 : isN a3) {c d : Nat} {I : Hi} {L : Hl} {x1 : Int32} {p : Int32} (h : f_X2_goerAt a2 a3 I x1 = some p) : CD G mi_X2_goerAt [.ref 67, .int x1, .ref a2, .ref a3] S0 I (R0 c d) L (some (.int p)) S0 I (R0 c d) L := by
  refine CD.intro 4 rfl (by decide) rfl fun X hX hZ => ?_
  rw [f_X2_goerAt] at h
  show AW G X 0 0 S0 I (R0 c d) L 0 [.ref 67, .int x1, .ref a2, .ref a3, .null, .null, .null, .null] []
  refine aw_aload_n (pc := 0) hX 3 dX2_goerAt_0 rfl rfl ?_
  refine aw_iconst (pc := 1) hX (1 : Int32) dX2_goerAt_1 (by decide) ?_
  obtain ⟨r2, hq2, h⟩ := bind_s h
  refine aw_V1i (pc := 2) hX h_X3_whoAre l_X2_15 dX2_goerAt_2 (nsh0 ha3) (by decide) (by rfl) rfl rfl rfl (Nat.le_of_ble_eq_true rfl) (s_X3_whoAre ha3 hq2) ?_
  refine aw_istoreE (pc := 5) hX [.ref 67, .int x1, .ref a2, .ref a3, .int r2, .null, .null, .null] dX2_goerAt_5 (by decide) rfl rfl ?_
  refine aw_iconst (pc := 7) hX (0 : Int32) dX2_goerAt_7 (by decide) ?_
  refine aw_istoreE (pc := 8) hX [.ref 67, .int x1, .ref a2, .ref a3, .int r2, .int (0 : Int32), .null, .null] dX2_goerAt_8 (by decide) rfl rfl ?_
  refine aw_bipush (pc := 10) hX (-9 : Int32) dX2_goerAt_10 (by decide) ?_
  refine aw_istoreE (pc := 12) hX [.ref 67, .int x1, .ref a2, .ref a3, .int r2, .int (0 : Int32), .int (-9 : Int32), .null] dX2_goerAt_12 (by decide) rfl rfl ?_
  refine aw_iconst (pc := 14) hX (0 : Int32) dX2_goerAt_14 (by decide) ?_
  refine aw_istoreE (pc := 15) hX [.ref 67, .int x1, .ref a2, .ref a3, .int r2, .int (0 : Int32), .int (-9 : Int32), .int (0 : Int32)] dX2_goerAt_15 (by decide) rfl rfl ?_
  exact AW.lo (t_X2_goerAt_17 hX ha2 ha3 hZ 2000 x1 r2 (0 : Int32) (-9 : Int32) (0 : Int32) h) (And.intro (Or.inr rfl) (And.intro (Or.inr rfl) (And.intro (Or.inr rfl) (And.intro (Or.inr rfl) (And.intro (Or.inr rfl) (And.intro (Or.inr rfl) (And.intro (Or.inr rfl) (And.intro (Or.inr rfl) trivial))))))))
def b_J7_fill_53178_5 (a0 : Nat) (na0 : Nat)  : Nat → Hi → Int32 → Int32 → Int32 → Option (Hi)
  | 0, _, _, _, _ => none
  | n + 1, I, x1, x2, x3 => if x3 ≤ x2 then (some (I)) else (if vinb x2 na0 then (some (u2 I (a0) (x2).toNatClampNeg x1)).bind fun I13 => b_J7_fill_53178_5 a0 na0 n I13 x1 (x2 + 1) x3 else none)
set_option maxRecDepth 100000 in
set_option maxHeartbeats 4000000 in
theorem t_J7_fill_53178_5 {G : GP} {X : CX} (hX : XOK G X mi_J7_fill_53178) {a0 : Nat} {na0 : Nat} (ha0 : S0[a0]? = some (8, na0)) {c d : Nat} {L : Hl} {p : Hi} (hZ : XZ G X mi_J7_fill_53178 none S0 p (R0 c d) L) : ∀ (n : Nat) (I : Hi) (x1 : Int32) (x2 : Int32) (x3 : Int32), b_J7_fill_53178_5 a0 na0 n I x1 x2 x3 = some p → AW G X 0 0 S0 I (R0 c d) L 5 [.ref a0, .int x1, .int x2, .int x3] [] := by
  intro n
  induction n with
  | zero => intro I x1 x2 x3 h; cases h
  | succ n ih =>
    intro I x1 x2 x3 h
    rw [b_J7_fill_53178_5] at h
    refine aw_iload_n (pc := 5) hX 2 dJ7_fill_53178_5 rfl rfl ?_
    refine aw_iload_n (pc := 6) hX 3 dJ7_fill_53178_6 rfl rfl ?_
    refine aw_icmp_ge (pc := 7) hX 20 dJ7_fill_53178_7 rfl (fun hc7 => ?_) (fun hc7 => ?_)
    · have h := ite_t h hc7
      have e := Option.some.inj h
      subst e
      exact aw_vret hX hZ dJ7_fill_53178_20 rfl rfl rfl rfl rfl rfl (Nat.le_refl _)
    · have h := ite_f h hc7
      refine aw_aload_n (pc := 10) hX 0 dJ7_fill_53178_10 rfl rfl ?_
      refine aw_iload_n (pc := 11) hX 2 dJ7_fill_53178_11 rfl rfl ?_
      refine aw_iload_n (pc := 12) hX 1 dJ7_fill_53178_12 rfl rfl ?_
      obtain ⟨hv13, h⟩ := ite_g h
      refine aw_iastore (pc := 13) hX dJ7_fill_53178_13 ha0 (vinb_in hv13) ?_
      obtain ⟨I13, hi13, h⟩ := bind_s h
      refine AW.iEq hi13 ?_
      refine aw_iincE (pc := 14) hX (x2 + 1) [.ref a0, .int x1, .int (x2 + 1), .int x3] dJ7_fill_53178_14 rfl rfl (by decide) rfl rfl ?_
      refine aw_goto (pc := 17) hX 5 dJ7_fill_53178_17 rfl ?_
      exact AW.lo (ih I13 x1 (x2 + 1) x3  h) (And.intro (Or.inr rfl) (And.intro (Or.inr rfl) (And.intro (Or.inr rfl) (And.intro (Or.inr rfl) trivial))))
def f_J7_fill_53178 (a0 : Nat) (na0 : Nat) (I : Hi) (x1 : Int32) : Option (Hi) := b_J7_fill_53178_5 a0 na0 2000 I x1 (0 : Int32) (nI na0)
set_option maxRecDepth 100000 in
set_option maxHeartbeats 4000000 in
theorem s_J7_fill_53178 {G : GP} {a0 : Nat} {na0 : Nat} (ha0 : S0[a0]? = some (8, na0)) {c d : Nat} {I : Hi} {L : Hl} {x1 : Int32} {p : Hi} (h : f_J7_fill_53178 a0 na0 I x1 = some p) : CD G mi_J7_fill_53178 [.ref a0, .int x1] S0 I (R0 c d) L none S0 p (R0 c d) L := by
  refine CD.intro 2 rfl (by decide) rfl fun X hX hZ => ?_
  rw [f_J7_fill_53178] at h
  show AW G X 0 0 S0 I (R0 c d) L 0 [.ref a0, .int x1, .null, .null] []
  refine aw_iconst (pc := 0) hX (0 : Int32) dJ7_fill_53178_0 (by decide) ?_
  refine aw_istore_nE (pc := 1) hX 2 [.ref a0, .int x1, .int (0 : Int32), .null] dJ7_fill_53178_1 rfl (by decide) rfl rfl ?_
  refine aw_aload_n (pc := 2) hX 0 dJ7_fill_53178_2 rfl rfl ?_
  refine aw_alen (pc := 3) hX dJ7_fill_53178_3 ha0 ?_
  refine aw_istore_nE (pc := 4) hX 3 [.ref a0, .int x1, .int (0 : Int32), .int (nI na0)] dJ7_fill_53178_4 rfl (by decide) rfl rfl ?_
  exact AW.lo (t_J7_fill_53178_5 hX ha0 hZ 2000 I x1 (0 : Int32) (nI na0) h) (And.intro (Or.inr rfl) (And.intro (Or.inr rfl) (And.intro (Or.inr rfl) (And.intro (Or.inr rfl) trivial))))
def f_X3_startAnew (a0 : Nat) (I : Hi)  : Option (Hi) := (some (u2 I (a0) 0 (0 : Int32))).bind fun I2 => (some (u2 I2 (a0) 1 (0 : Int32))).bind fun I7 => (some (u2 I7 (a0) 2 (0 : Int32))).bind fun I12 => (f_J7_fill_53178 (a0 + 1) 6 I12 (0 : Int32)).bind fun r20 => (f_J7_fill_53178 (a0 + 2) 6 r20 (0 : Int32)).bind fun r28 => (f_J7_fill_53178 (a0 + 3) 6 r28 (0 : Int32)).bind fun r36 => some (r36)
set_option maxRecDepth 100000 in
set_option maxHeartbeats 4000000 in
theorem s_X3_startAnew {G : GP} {a0 : Nat} (ha0 : isN a0) {c d : Nat} {I : Hi} {L : Hl}  {p : Hi} (h : f_X3_startAnew a0 I = some p) : CD G mi_X3_startAnew [.ref a0] S0 I (R0 c d) L none S0 p (R0 c d) L := by
  refine CD.intro 0 rfl (by decide) rfl fun X hX hZ => ?_
  rw [f_X3_startAnew] at h
  show AW G X 0 0 S0 I (R0 c d) L 0 [.ref a0] []
  refine aw_aload_n (pc := 0) hX 0 dX3_startAnew_0 rfl rfl ?_
  refine aw_iconst (pc := 1) hX (0 : Int32) dX3_startAnew_1 (by decide) ?_
  refine aw_putI (pc := 2) hX dX3_startAnew_2 f_X3_9 rfl rfl (by first | rfl | decide) (by first | rfl | decide) (nsh0 ha0) ?_
  obtain ⟨I2, hi2, h⟩ := bind_s h
  refine AW.iEq hi2 ?_
  refine aw_aload_n (pc := 5) hX 0 dX3_startAnew_5 rfl rfl ?_
  refine aw_iconst (pc := 6) hX (0 : Int32) dX3_startAnew_6 (by decide) ?_
  refine aw_putI (pc := 7) hX dX3_startAnew_7 f_X3_15 rfl rfl (by first | rfl | decide) (by first | rfl | decide) (nsh0 ha0) ?_
  obtain ⟨I7, hi7, h⟩ := bind_s h
  refine AW.iEq hi7 ?_
  refine aw_aload_n (pc := 10) hX 0 dX3_startAnew_10 rfl rfl ?_
  refine aw_iconst (pc := 11) hX (0 : Int32) dX3_startAnew_11 (by decide) ?_
  refine aw_putI (pc := 12) hX dX3_startAnew_12 f_X3_18 rfl rfl (by first | rfl | decide) (by first | rfl | decide) (nsh0 ha0) ?_
  obtain ⟨I12, hi12, h⟩ := bind_s h
  refine AW.iEq hi12 ?_
  refine aw_aload_n (pc := 15) hX 0 dX3_startAnew_15 rfl rfl ?_
  refine aw_getR (pc := 16) hX dX3_startAnew_16 f_X3_21 rfl (nsh0 ha0) (q := a0 + 1) (nrf3 ha0) ?_
  refine aw_iconst (pc := 19) hX (0 : Int32) dX3_startAnew_19 (by decide) ?_
  obtain ⟨r20, hq20, h⟩ := bind_s h
  refine aw_S2v (pc := 20) hX h_J7_fill_53178 l_X3_31 dX3_startAnew_20 rfl rfl rfl (Nat.le_of_ble_eq_true rfl) (s_J7_fill_53178 (nsh1 ha0) hq20) ?_
  refine aw_aload_n (pc := 23) hX 0 dX3_startAnew_23 rfl rfl ?_
  refine aw_getR (pc := 24) hX dX3_startAnew_24 f_X3_25 rfl (nsh0 ha0) (q := a0 + 2) (nrf4 ha0) ?_
  refine aw_iconst (pc := 27) hX (0 : Int32) dX3_startAnew_27 (by decide) ?_
  obtain ⟨r28, hq28, h⟩ := bind_s h
  refine aw_S2v (pc := 28) hX h_J7_fill_53178 l_X3_31 dX3_startAnew_28 rfl rfl rfl (Nat.le_of_ble_eq_true rfl) (s_J7_fill_53178 (nsh2 ha0) hq28) ?_
  refine aw_aload_n (pc := 31) hX 0 dX3_startAnew_31 rfl rfl ?_
  refine aw_getR (pc := 32) hX dX3_startAnew_32 f_X3_28 rfl (nsh0 ha0) (q := a0 + 3) (nrf5 ha0) ?_
  refine aw_iconst (pc := 35) hX (0 : Int32) dX3_startAnew_35 (by decide) ?_
  obtain ⟨r36, hq36, h⟩ := bind_s h
  refine aw_S2v (pc := 36) hX h_J7_fill_53178 l_X3_31 dX3_startAnew_36 rfl rfl rfl (Nat.le_of_ble_eq_true rfl) (s_J7_fill_53178 (nsh3 ha0) hq36) ?_
  have e := Option.some.inj h
  subst e
  exact aw_vret hX hZ dX3_startAnew_39 rfl rfl rfl rfl rfl rfl (Nat.le_refl _)
def f_X3_sendRound (a0 : Nat) (I : Hi) (x1 : Int32) (x2 : Int32) : Option (Hi) := if vinb x1 6 then (some (u2 I (a0 + 1) (x1).toNatClampNeg (2 : Int32))).bind fun I6 => if vinb x1 6 then (some (u2 I6 (a0 + 2) (x1).toNatClampNeg ((I6 (a0) 0) + x2))).bind fun I18 => if vinb x1 6 then if vinb x1 6 then (some (u2 I18 (a0 + 3) (x1).toNatClampNeg ((I18 (a0 + 3) (x1).toNatClampNeg) + (1 : Int32)))).bind fun I28 => some (I28) else none else none else none else none
set_option maxRecDepth 100000 in
set_option maxHeartbeats 4000000 in
theorem s_X3_sendRound {G : GP} {a0 : Nat} (ha0 : isN a0) {c d : Nat} {I : Hi} {L : Hl} {x1 : Int32} {x2 : Int32} {p : Hi} (h : f_X3_sendRound a0 I x1 x2 = some p) : CD G mi_X3_sendRound [.ref a0, .int x1, .int x2] S0 I (R0 c d) L none S0 p (R0 c d) L := by
  refine CD.intro 0 rfl (by decide) rfl fun X hX hZ => ?_
  rw [f_X3_sendRound] at h
  show AW G X 0 0 S0 I (R0 c d) L 0 [.ref a0, .int x1, .int x2] []
  refine aw_aload_n (pc := 0) hX 0 dX3_sendRound_0 rfl rfl ?_
  refine aw_getR (pc := 1) hX dX3_sendRound_1 f_X3_21 rfl (nsh0 ha0) (q := a0 + 1) (nrf3 ha0) ?_
  refine aw_iload_n (pc := 4) hX 1 dX3_sendRound_4 rfl rfl ?_
  refine aw_iconst (pc := 5) hX (2 : Int32) dX3_sendRound_5 (by decide) ?_
  obtain ⟨hv6, h⟩ := ite_g h
  refine aw_iastore (pc := 6) hX dX3_sendRound_6 (nsh1 ha0) (vinb_in hv6) ?_
  obtain ⟨I6, hi6, h⟩ := bind_s h
  refine AW.iEq hi6 ?_
  refine aw_aload_n (pc := 7) hX 0 dX3_sendRound_7 rfl rfl ?_
  refine aw_getR (pc := 8) hX dX3_sendRound_8 f_X3_25 rfl (nsh0 ha0) (q := a0 + 2) (nrf4 ha0) ?_
  refine aw_iload_n (pc := 11) hX 1 dX3_sendRound_11 rfl rfl ?_
  refine aw_aload_n (pc := 12) hX 0 dX3_sendRound_12 rfl rfl ?_
  refine aw_getI (pc := 13) hX dX3_sendRound_13 f_X3_9 rfl (nsh0 ha0) ?_
  refine aw_iload_n (pc := 16) hX 2 dX3_sendRound_16 rfl rfl ?_
  refine aw_iadd (pc := 17) hX dX3_sendRound_17 ?_
  obtain ⟨hv18, h⟩ := ite_g h
  refine aw_iastore (pc := 18) hX dX3_sendRound_18 (nsh2 ha0) (vinb_in hv18) ?_
  obtain ⟨I18, hi18, h⟩ := bind_s h
  refine AW.iEq hi18 ?_
  refine aw_aload_n (pc := 19) hX 0 dX3_sendRound_19 rfl rfl ?_
  refine aw_getR (pc := 20) hX dX3_sendRound_20 f_X3_28 rfl (nsh0 ha0) (q := a0 + 3) (nrf5 ha0) ?_
  refine aw_iload_n (pc := 23) hX 1 dX3_sendRound_23 rfl rfl ?_
  refine aw_dup2 (pc := 24) hX dX3_sendRound_24 rfl rfl ?_
  obtain ⟨hv25, h⟩ := ite_g h
  refine aw_iaload (pc := 25) hX dX3_sendRound_25 (nsh3 ha0) (vinb_in hv25) ?_
  refine aw_iconst (pc := 26) hX (1 : Int32) dX3_sendRound_26 (by decide) ?_
  refine aw_iadd (pc := 27) hX dX3_sendRound_27 ?_
  obtain ⟨hv28, h⟩ := ite_g h
  refine aw_iastore (pc := 28) hX dX3_sendRound_28 (nsh3 ha0) (vinb_in hv28) ?_
  obtain ⟨I28, hi28, h⟩ := bind_s h
  refine AW.iEq hi28 ?_
  have e := Option.some.inj h
  subst e
  exact aw_vret hX hZ dX3_sendRound_29 rfl rfl rfl rfl rfl rfl (Nat.le_refl _)
def b_X3_pass_48 (a0 : Nat) (k12 : Hi → Int32 → Option (Hi)) (I : Hi) (x2 : Int32) : Option (Hi) := k12 I (x2 + 1)
set_option maxRecDepth 100000 in
set_option maxHeartbeats 4000000 in
theorem t_X3_pass_48 {G : GP} {X : CX} (hX : XOK G X mi_X3_pass) {a0 : Nat} (ha0 : isN a0) {c d : Nat} {L : Hl} {p : Hi} (hZ : XZ G X mi_X3_pass none S0 p (R0 c d) L) {k12 : Hi → Int32 → Option (Hi)} (hk12 : ∀ (I : Hi) (x2 : Int32), k12 I x2 = some p → AW G X 0 0 S0 I (R0 c d) L 12 [.ref a0, .null, .int x2] []) (I : Hi) (x2 : Int32) (h : b_X3_pass_48 a0 k12 I x2 = some p) : AW G X 0 0 S0 I (R0 c d) L 48 [.ref a0, .null, .int x2] [] := by
  rw [b_X3_pass_48] at h
  refine aw_iincE (pc := 48) hX (x2 + 1) [.ref a0, .null, .int (x2 + 1)] dX3_pass_48 rfl rfl (by decide) rfl rfl ?_
  refine aw_goto (pc := 51) hX 12 dX3_pass_51 rfl ?_
  exact AW.lo (hk12 I (x2 + 1)  h) (And.intro (Or.inr rfl) (And.intro (Or.inl rfl) (And.intro (Or.inr rfl) trivial)))
def b_X3_pass_12 (a0 : Nat)  : Nat → Hi → Int32 → Option (Hi)
  | 0, _, _ => none
  | n + 1, I, x2 => if (6 : Int32) ≤ x2 then (some (I)) else (if vinb x2 6 then if (I (a0 + 1) (x2).toNatClampNeg) = (2 : Int32) then (if vinb x2 6 then if (I (a0) 0) < (I (a0 + 2) (x2).toNatClampNeg) then (b_X3_pass_48 a0 (b_X3_pass_12 a0 n) I x2) else (if vinb x2 6 then (some (u2 I (a0 + 1) (x2).toNatClampNeg (1 : Int32))).bind fun I47 => b_X3_pass_48 a0 (b_X3_pass_12 a0 n) I47 x2 else none) else none) else (b_X3_pass_48 a0 (b_X3_pass_12 a0 n) I x2) else none)
set_option maxRecDepth 100000 in
set_option maxHeartbeats 4000000 in
theorem t_X3_pass_12 {G : GP} {X : CX} (hX : XOK G X mi_X3_pass) {a0 : Nat} (ha0 : isN a0) {c d : Nat} {L : Hl} {p : Hi} (hZ : XZ G X mi_X3_pass none S0 p (R0 c d) L) : ∀ (n : Nat) (I : Hi) (x2 : Int32), b_X3_pass_12 a0 n I x2 = some p → AW G X 0 0 S0 I (R0 c d) L 12 [.ref a0, .null, .int x2] [] := by
  intro n
  induction n with
  | zero => intro I x2 h; cases h
  | succ n ih =>
    intro I x2 h
    rw [b_X3_pass_12] at h
    refine aw_iload_n (pc := 12) hX 2 dX3_pass_12 rfl rfl ?_
    refine aw_bipush (pc := 13) hX (6 : Int32) dX3_pass_13 (by decide) ?_
    refine aw_icmp_ge (pc := 15) hX 54 dX3_pass_15 rfl (fun hc15 => ?_) (fun hc15 => ?_)
    · have h := ite_t h hc15
      have e := Option.some.inj h
      subst e
      exact aw_vret hX hZ dX3_pass_54 rfl rfl rfl rfl rfl rfl (Nat.le_refl _)
    · have h := ite_f h hc15
      refine aw_aload_n (pc := 18) hX 0 dX3_pass_18 rfl rfl ?_
      refine aw_getR (pc := 19) hX dX3_pass_19 f_X3_21 rfl (nsh0 ha0) (q := a0 + 1) (nrf3 ha0) ?_
      refine aw_iload_n (pc := 22) hX 2 dX3_pass_22 rfl rfl ?_
      obtain ⟨hv23, h⟩ := ite_g h
      refine aw_iaload (pc := 23) hX dX3_pass_23 (nsh1 ha0) (vinb_in hv23) ?_
      refine aw_iconst (pc := 24) hX (2 : Int32) dX3_pass_24 (by decide) ?_
      refine aw_icmp_ne (pc := 25) hX 48 dX3_pass_25 rfl (fun hc25 => ?_) (fun hc25 => ?_)
      · have h := ite_f h hc25
        exact AW.lo (t_X3_pass_48 hX ha0 hZ (ih) I x2 h) (And.intro (Or.inr rfl) (And.intro (Or.inl rfl) (And.intro (Or.inr rfl) trivial)))
      · have h := ite_t h hc25
        refine aw_aload_n (pc := 28) hX 0 dX3_pass_28 rfl rfl ?_
        refine aw_getR (pc := 29) hX dX3_pass_29 f_X3_25 rfl (nsh0 ha0) (q := a0 + 2) (nrf4 ha0) ?_
        refine aw_iload_n (pc := 32) hX 2 dX3_pass_32 rfl rfl ?_
        obtain ⟨hv33, h⟩ := ite_g h
        refine aw_iaload (pc := 33) hX dX3_pass_33 (nsh2 ha0) (vinb_in hv33) ?_
        refine aw_aload_n (pc := 34) hX 0 dX3_pass_34 rfl rfl ?_
        refine aw_getI (pc := 35) hX dX3_pass_35 f_X3_9 rfl (nsh0 ha0) ?_
        refine aw_icmp_gt (pc := 38) hX 48 dX3_pass_38 rfl (fun hc38 => ?_) (fun hc38 => ?_)
        · have h := ite_t h hc38
          exact AW.lo (t_X3_pass_48 hX ha0 hZ (ih) I x2 h) (And.intro (Or.inr rfl) (And.intro (Or.inl rfl) (And.intro (Or.inr rfl) trivial)))
        · have h := ite_f h hc38
          refine aw_aload_n (pc := 41) hX 0 dX3_pass_41 rfl rfl ?_
          refine aw_getR (pc := 42) hX dX3_pass_42 f_X3_21 rfl (nsh0 ha0) (q := a0 + 1) (nrf3 ha0) ?_
          refine aw_iload_n (pc := 45) hX 2 dX3_pass_45 rfl rfl ?_
          refine aw_iconst (pc := 46) hX (1 : Int32) dX3_pass_46 (by decide) ?_
          obtain ⟨hv47, h⟩ := ite_g h
          refine aw_iastore (pc := 47) hX dX3_pass_47 (nsh1 ha0) (vinb_in hv47) ?_
          obtain ⟨I47, hi47, h⟩ := bind_s h
          refine AW.iEq hi47 ?_
          exact AW.lo (t_X3_pass_48 hX ha0 hZ (ih) I47 x2 h) (And.intro (Or.inr rfl) (And.intro (Or.inl rfl) (And.intro (Or.inr rfl) trivial)))
def f_X3_pass (a0 : Nat) (I : Hi) (x1 : Int32) : Option (Hi) := (some (u2 I (a0) 0 ((I (a0) 0) + x1))).bind fun I7 => b_X3_pass_12 a0 2000 I7 (0 : Int32)
set_option maxRecDepth 100000 in
set_option maxHeartbeats 4000000 in
theorem s_X3_pass {G : GP} {a0 : Nat} (ha0 : isN a0) {c d : Nat} {I : Hi} {L : Hl} {x1 : Int32} {p : Hi} (h : f_X3_pass a0 I x1 = some p) : CD G mi_X3_pass [.ref a0, .int x1] S0 I (R0 c d) L none S0 p (R0 c d) L := by
  refine CD.intro 1 rfl (by decide) rfl fun X hX hZ => ?_
  rw [f_X3_pass] at h
  show AW G X 0 0 S0 I (R0 c d) L 0 [.ref a0, .int x1, .null] []
  refine aw_aload_n (pc := 0) hX 0 dX3_pass_0 rfl rfl ?_
  refine aw_dup (pc := 1) hX dX3_pass_1 rfl ?_
  refine aw_getI (pc := 2) hX dX3_pass_2 f_X3_9 rfl (nsh0 ha0) ?_
  refine aw_iload_n (pc := 5) hX 1 dX3_pass_5 rfl rfl ?_
  refine aw_iadd (pc := 6) hX dX3_pass_6 ?_
  refine aw_putI (pc := 7) hX dX3_pass_7 f_X3_9 rfl rfl (by first | rfl | decide) (by first | rfl | decide) (nsh0 ha0) ?_
  obtain ⟨I7, hi7, h⟩ := bind_s h
  refine AW.iEq hi7 ?_
  refine aw_iconst (pc := 10) hX (0 : Int32) dX3_pass_10 (by decide) ?_
  refine aw_istore_nE (pc := 11) hX 2 [.ref a0, .int x1, .int (0 : Int32)] dX3_pass_11 rfl (by decide) rfl rfl ?_
  exact AW.lo (t_X3_pass_12 hX ha0 hZ 2000 I7 (0 : Int32) h) (And.intro (Or.inr rfl) (And.intro (Or.inl rfl) (And.intro (Or.inr rfl) trivial)))
def f_X4_add (I : Hi) (x1 : Int32) (x2 : Int32) (x3 : Int32) : Option (Hi) := if vinb (I (63) 3) 6 then (some (u2 I (64) ((I (63) 3)).toNatClampNeg x1)).bind fun I9 => if vinb (I9 (63) 3) 6 then (some (u2 I9 (65) ((I9 (63) 3)).toNatClampNeg x2)).bind fun I19 => if vinb (I19 (63) 3) 6 then (some (u2 I19 (66) ((I19 (63) 3)).toNatClampNeg x3)).bind fun I29 => (some (u2 I29 (63) 3 ((I29 (63) 3) + (1 : Int32)))).bind fun I37 => some (I37) else none else none else none
set_option maxRecDepth 100000 in
set_option maxHeartbeats 4000000 in
theorem s_X4_add {G : GP} {c d : Nat} {I : Hi} {L : Hl} {x1 : Int32} {x2 : Int32} {x3 : Int32} {p : Hi} (h : f_X4_add I x1 x2 x3 = some p) : CD G mi_X4_add [.ref 63, .int x1, .int x2, .int x3] S0 I (R0 c d) L none S0 p (R0 c d) L := by
  refine CD.intro 0 rfl (by decide) rfl fun X hX hZ => ?_
  rw [f_X4_add] at h
  show AW G X 0 0 S0 I (R0 c d) L 0 [.ref 63, .int x1, .int x2, .int x3] []
  refine aw_aload_n (pc := 0) hX 0 dX4_add_0 rfl rfl ?_
  refine aw_getR (pc := 1) hX dX4_add_1 f_X4_9 rfl (by rfl) (q := 64) (by rfl) ?_
  refine aw_aload_n (pc := 4) hX 0 dX4_add_4 rfl rfl ?_
  refine aw_getI (pc := 5) hX dX4_add_5 f_X4_21 rfl (by rfl) ?_
  refine aw_iload_n (pc := 8) hX 1 dX4_add_8 rfl rfl ?_
  obtain ⟨hv9, h⟩ := ite_g h
  refine aw_iastore (pc := 9) hX dX4_add_9 (by rfl) (vinb_in hv9) ?_
  obtain ⟨I9, hi9, h⟩ := bind_s h
  refine AW.iEq hi9 ?_
  refine aw_aload_n (pc := 10) hX 0 dX4_add_10 rfl rfl ?_
  refine aw_getR (pc := 11) hX dX4_add_11 f_X4_15 rfl (by rfl) (q := 65) (by rfl) ?_
  refine aw_aload_n (pc := 14) hX 0 dX4_add_14 rfl rfl ?_
  refine aw_getI (pc := 15) hX dX4_add_15 f_X4_21 rfl (by rfl) ?_
  refine aw_iload_n (pc := 18) hX 2 dX4_add_18 rfl rfl ?_
  obtain ⟨hv19, h⟩ := ite_g h
  refine aw_iastore (pc := 19) hX dX4_add_19 (by rfl) (vinb_in hv19) ?_
  obtain ⟨I19, hi19, h⟩ := bind_s h
  refine AW.iEq hi19 ?_
  refine aw_aload_n (pc := 20) hX 0 dX4_add_20 rfl rfl ?_
  refine aw_getR (pc := 21) hX dX4_add_21 f_X4_18 rfl (by rfl) (q := 66) (by rfl) ?_
  refine aw_aload_n (pc := 24) hX 0 dX4_add_24 rfl rfl ?_
  refine aw_getI (pc := 25) hX dX4_add_25 f_X4_21 rfl (by rfl) ?_
  refine aw_iload_n (pc := 28) hX 3 dX4_add_28 rfl rfl ?_
  obtain ⟨hv29, h⟩ := ite_g h
  refine aw_iastore (pc := 29) hX dX4_add_29 (by rfl) (vinb_in hv29) ?_
  obtain ⟨I29, hi29, h⟩ := bind_s h
  refine AW.iEq hi29 ?_
  refine aw_aload_n (pc := 30) hX 0 dX4_add_30 rfl rfl ?_
  refine aw_dup (pc := 31) hX dX4_add_31 rfl ?_
  refine aw_getI (pc := 32) hX dX4_add_32 f_X4_21 rfl (by rfl) ?_
  refine aw_iconst (pc := 35) hX (1 : Int32) dX4_add_35 (by decide) ?_
  refine aw_iadd (pc := 36) hX dX4_add_36 ?_
  refine aw_putI (pc := 37) hX dX4_add_37 f_X4_21 rfl rfl (by first | rfl | decide) (by first | rfl | decide) (by rfl) ?_
  obtain ⟨I37, hi37, h⟩ := bind_s h
  refine AW.iEq hi37 ?_
  have e := Option.some.inj h
  subst e
  exact aw_vret hX hZ dX4_add_40 rfl rfl rfl rfl rfl rfl (Nat.le_refl _)
def b_X4_allows_66 (a2 : Nat) (I : Hi) (k2 : Int32 → Int32 → Option (Bool)) (x1 : Int32) (x3 : Int32) (bs0 : Bool) (bs1 : Bool) : Option (Bool) := if (bI bs1) = (bI bs0) then (k2 x1 (x3 + 1)) else (some (false))
set_option maxRecDepth 100000 in
set_option maxHeartbeats 4000000 in
theorem t_X4_allows_66 {G : GP} {X : CX} (hX : XOK G X mi_X4_allows) {a2 : Nat} (ha2 : isC a2) {c d : Nat} {I : Hi} {L : Hl} {p : Bool} (hZ : XZ G X mi_X4_allows (some (.int (bI p))) S0 I (R0 c d) L) {k2 : Int32 → Int32 → Option (Bool)} (hk2 : ∀ (x1 : Int32) (x3 : Int32), k2 x1 x3 = some p → AW G X 0 0 S0 I (R0 c d) L 2 [.ref 63, .int x1, .ref a2, .int x3, .null] []) (x1 : Int32) (x3 : Int32) (bs0 : Bool) (bs1 : Bool) (h : b_X4_allows_66 a2 I k2 x1 x3 bs0 bs1 = some p) : AW G X 0 0 S0 I (R0 c d) L 66 [.ref 63, .int x1, .ref a2, .int x3, .null] [.int (bI bs0), .int (bI bs1)] := by
  rw [b_X4_allows_66] at h
  refine aw_icmp_eq (pc := 66) hX 71 dX4_allows_66 rfl (fun hc66 => ?_) (fun hc66 => ?_)
  · have h := ite_t h hc66
    refine aw_iincE (pc := 71) hX (x3 + 1) [.ref 63, .int x1, .ref a2, .int (x3 + 1), .null] dX4_allows_71 rfl rfl (by decide) rfl rfl ?_
    refine aw_goto (pc := 74) hX 2 dX4_allows_74 rfl ?_
    exact AW.lo (hk2 x1 (x3 + 1)  h) (And.intro (Or.inr rfl) (And.intro (Or.inr rfl) (And.intro (Or.inr rfl) (And.intro (Or.inr rfl) (And.intro (Or.inl rfl) trivial)))))
  · have h := ite_f h hc66
    refine aw_iconst (pc := 69) hX (0 : Int32) dX4_allows_69 (by decide) ?_
    have e := Option.some.inj h
    subst e
    exact aw_zret hX hZ dX4_allows_70 rfl (bI01 _) rfl rfl rfl rfl rfl rfl (Nat.le_refl _)
def b_X4_allows_47 (a2 : Nat) (I : Hi) (k2 : Int32 → Int32 → Option (Bool)) (x1 : Int32) (x3 : Int32) (bs0 : Bool) : Option (Bool) := if vinb x3 6 then if (I (66) (x3).toNatClampNeg) = (1 : Int32) then (b_X4_allows_66 a2 I (k2) x1 x3 true bs0) else (b_X4_allows_66 a2 I (k2) x1 x3 false bs0) else none
set_option maxRecDepth 100000 in
set_option maxHeartbeats 4000000 in
theorem t_X4_allows_47 {G : GP} {X : CX} (hX : XOK G X mi_X4_allows) {a2 : Nat} (ha2 : isC a2) {c d : Nat} {I : Hi} {L : Hl} {p : Bool} (hZ : XZ G X mi_X4_allows (some (.int (bI p))) S0 I (R0 c d) L) {k2 : Int32 → Int32 → Option (Bool)} (hk2 : ∀ (x1 : Int32) (x3 : Int32), k2 x1 x3 = some p → AW G X 0 0 S0 I (R0 c d) L 2 [.ref 63, .int x1, .ref a2, .int x3, .null] []) (x1 : Int32) (x3 : Int32) (bs0 : Bool) (h : b_X4_allows_47 a2 I k2 x1 x3 bs0 = some p) : AW G X 0 0 S0 I (R0 c d) L 47 [.ref 63, .int x1, .ref a2, .int x3, .null] [.int (bI bs0)] := by
  rw [b_X4_allows_47] at h
  refine aw_istoreE (pc := 47) hX [.ref 63, .int x1, .ref a2, .int x3, .int (bI bs0)] dX4_allows_47 (by decide) rfl rfl ?_
  refine aw_iload (pc := 49) hX dX4_allows_49 rfl ?_
  refine aw_aload_n (pc := 51) hX 0 dX4_allows_51 rfl rfl ?_
  refine aw_getR (pc := 52) hX dX4_allows_52 f_X4_18 rfl (by rfl) (q := 66) (by rfl) ?_
  refine aw_iload_n (pc := 55) hX 3 dX4_allows_55 rfl rfl ?_
  obtain ⟨hv56, h⟩ := ite_g h
  refine aw_iaload (pc := 56) hX dX4_allows_56 (by rfl) (vinb_in hv56) ?_
  refine aw_iconst (pc := 57) hX (1 : Int32) dX4_allows_57 (by decide) ?_
  refine aw_icmp_ne (pc := 58) hX 65 dX4_allows_58 rfl (fun hc58 => ?_) (fun hc58 => ?_)
  · have h := ite_f h hc58
    refine aw_iconst (pc := 65) hX (0 : Int32) dX4_allows_65 (by decide) ?_
    exact AW.lo (t_X4_allows_66 hX ha2 hZ (hk2) x1 x3 false bs0 h) (And.intro (Or.inr rfl) (And.intro (Or.inr rfl) (And.intro (Or.inr rfl) (And.intro (Or.inr rfl) (And.intro (Or.inl rfl) trivial)))))
  · have h := ite_t h hc58
    refine aw_iconst (pc := 61) hX (1 : Int32) dX4_allows_61 (by decide) ?_
    refine aw_goto (pc := 62) hX 66 dX4_allows_62 rfl ?_
    exact AW.lo (t_X4_allows_66 hX ha2 hZ (hk2) x1 x3 true bs0 h) (And.intro (Or.inr rfl) (And.intro (Or.inr rfl) (And.intro (Or.inr rfl) (And.intro (Or.inr rfl) (And.intro (Or.inl rfl) trivial)))))
def b_X4_allows_46 (a2 : Nat) (I : Hi) (k2 : Int32 → Int32 → Option (Bool)) (x1 : Int32) (x3 : Int32) : Option (Bool) := b_X4_allows_47 a2 I (k2) x1 x3 false
set_option maxRecDepth 100000 in
set_option maxHeartbeats 4000000 in
theorem t_X4_allows_46 {G : GP} {X : CX} (hX : XOK G X mi_X4_allows) {a2 : Nat} (ha2 : isC a2) {c d : Nat} {I : Hi} {L : Hl} {p : Bool} (hZ : XZ G X mi_X4_allows (some (.int (bI p))) S0 I (R0 c d) L) {k2 : Int32 → Int32 → Option (Bool)} (hk2 : ∀ (x1 : Int32) (x3 : Int32), k2 x1 x3 = some p → AW G X 0 0 S0 I (R0 c d) L 2 [.ref 63, .int x1, .ref a2, .int x3, .null] []) (x1 : Int32) (x3 : Int32) (h : b_X4_allows_46 a2 I k2 x1 x3 = some p) : AW G X 0 0 S0 I (R0 c d) L 46 [.ref 63, .int x1, .ref a2, .int x3, .null] [] := by
  rw [b_X4_allows_46] at h
  refine aw_iconst (pc := 46) hX (0 : Int32) dX4_allows_46 (by decide) ?_
  exact AW.lo (t_X4_allows_47 hX ha2 hZ (hk2) x1 x3 false h) (And.intro (Or.inr rfl) (And.intro (Or.inr rfl) (And.intro (Or.inr rfl) (And.intro (Or.inr rfl) (And.intro (Or.inl rfl) trivial)))))
def b_X4_allows_2 (a2 : Nat) (I : Hi)  : Nat → Int32 → Int32 → Option (Bool)
  | 0, _, _ => none
  | n + 1, x1, x3 => if (I (63) 3) ≤ x3 then (some (true)) else (if vinb x3 6 then (f_X6_hasBit x1 (I (64) (x3).toNatClampNeg)).bind fun r17 => if r17 = true then (if vinb x3 6 then if vinb x3 6 then (f_X0_counts (a2) I (I (64) (x3).toNatClampNeg) (I (65) (x3).toNatClampNeg)).bind fun r36 => if r36 = true then (b_X4_allows_47 a2 I (b_X4_allows_2 a2 I n) x1 x3 true) else (b_X4_allows_46 a2 I (b_X4_allows_2 a2 I n) x1 x3) else none else none) else (b_X4_allows_46 a2 I (b_X4_allows_2 a2 I n) x1 x3) else none)
set_option maxRecDepth 100000 in
set_option maxHeartbeats 4000000 in
theorem t_X4_allows_2 {G : GP} {X : CX} (hX : XOK G X mi_X4_allows) {a2 : Nat} (ha2 : isC a2) {c d : Nat} {I : Hi} {L : Hl} {p : Bool} (hZ : XZ G X mi_X4_allows (some (.int (bI p))) S0 I (R0 c d) L) : ∀ (n : Nat) (x1 : Int32) (x3 : Int32), b_X4_allows_2 a2 I n x1 x3 = some p → AW G X 0 0 S0 I (R0 c d) L 2 [.ref 63, .int x1, .ref a2, .int x3, .null] [] := by
  intro n
  induction n with
  | zero => intro x1 x3 h; cases h
  | succ n ih =>
    intro x1 x3 h
    rw [b_X4_allows_2] at h
    refine aw_iload_n (pc := 2) hX 3 dX4_allows_2 rfl rfl ?_
    refine aw_aload_n (pc := 3) hX 0 dX4_allows_3 rfl rfl ?_
    refine aw_getI (pc := 4) hX dX4_allows_4 f_X4_21 rfl (by rfl) ?_
    refine aw_icmp_ge (pc := 7) hX 77 dX4_allows_7 rfl (fun hc7 => ?_) (fun hc7 => ?_)
    · have h := ite_t h hc7
      refine aw_iconst (pc := 77) hX (1 : Int32) dX4_allows_77 (by decide) ?_
      have e := Option.some.inj h
      subst e
      exact aw_zret hX hZ dX4_allows_78 rfl (bI01 _) rfl rfl rfl rfl rfl rfl (Nat.le_refl _)
    · have h := ite_f h hc7
      refine aw_iload_n (pc := 10) hX 1 dX4_allows_10 rfl rfl ?_
      refine aw_aload_n (pc := 11) hX 0 dX4_allows_11 rfl rfl ?_
      refine aw_getR (pc := 12) hX dX4_allows_12 f_X4_9 rfl (by rfl) (q := 64) (by rfl) ?_
      refine aw_iload_n (pc := 15) hX 3 dX4_allows_15 rfl rfl ?_
      obtain ⟨hv16, h⟩ := ite_g h
      refine aw_iaload (pc := 16) hX dX4_allows_16 (by rfl) (vinb_in hv16) ?_
      obtain ⟨r17, hq17, h⟩ := bind_s h
      refine aw_SN2i (pc := 17) hX h_X6_hasBit l_X4_25 dX4_allows_17 rfl rfl rfl (Nat.le_of_ble_eq_true rfl) (s_X6_hasBit  hq17) ?_
      refine aw_if_eq (pc := 20) hX 46 dX4_allows_20 rfl (fun hc20 => ?_) (fun hc20 => ?_)
      · have h := ite_f h (bI0 hc20)
        exact AW.lo (t_X4_allows_46 hX ha2 hZ (ih) x1 x3 h) (And.intro (Or.inr rfl) (And.intro (Or.inr rfl) (And.intro (Or.inr rfl) (And.intro (Or.inr rfl) (And.intro (Or.inl rfl) trivial)))))
      · have h := ite_t h (bI1 hc20)
        refine aw_aload_n (pc := 23) hX 2 dX4_allows_23 rfl rfl ?_
        refine aw_aload_n (pc := 24) hX 0 dX4_allows_24 rfl rfl ?_
        refine aw_getR (pc := 25) hX dX4_allows_25 f_X4_9 rfl (by rfl) (q := 64) (by rfl) ?_
        refine aw_iload_n (pc := 28) hX 3 dX4_allows_28 rfl rfl ?_
        obtain ⟨hv29, h⟩ := ite_g h
        refine aw_iaload (pc := 29) hX dX4_allows_29 (by rfl) (vinb_in hv29) ?_
        refine aw_aload_n (pc := 30) hX 0 dX4_allows_30 rfl rfl ?_
        refine aw_getR (pc := 31) hX dX4_allows_31 f_X4_15 rfl (by rfl) (q := 65) (by rfl) ?_
        refine aw_iload_n (pc := 34) hX 3 dX4_allows_34 rfl rfl ?_
        obtain ⟨hv35, h⟩ := ite_g h
        refine aw_iaload (pc := 35) hX dX4_allows_35 (by rfl) (vinb_in hv35) ?_
        obtain ⟨r36, hq36, h⟩ := bind_s h
        refine aw_V2i (pc := 36) hX h_X0_counts l_X4_29 dX4_allows_36 (csh0 ha2) (by decide) (by rfl) rfl rfl rfl (Nat.le_of_ble_eq_true rfl) (s_X0_counts ha2 hq36) ?_
        refine aw_if_eq (pc := 39) hX 46 dX4_allows_39 rfl (fun hc39 => ?_) (fun hc39 => ?_)
        · have h := ite_f h (bI0 hc39)
          exact AW.lo (t_X4_allows_46 hX ha2 hZ (ih) x1 x3 h) (And.intro (Or.inr rfl) (And.intro (Or.inr rfl) (And.intro (Or.inr rfl) (And.intro (Or.inr rfl) (And.intro (Or.inl rfl) trivial)))))
        · have h := ite_t h (bI1 hc39)
          refine aw_iconst (pc := 42) hX (1 : Int32) dX4_allows_42 (by decide) ?_
          refine aw_goto (pc := 43) hX 47 dX4_allows_43 rfl ?_
          exact AW.lo (t_X4_allows_47 hX ha2 hZ (ih) x1 x3 true h) (And.intro (Or.inr rfl) (And.intro (Or.inr rfl) (And.intro (Or.inr rfl) (And.intro (Or.inr rfl) (And.intro (Or.inl rfl) trivial)))))
def f_X4_allows (a2 : Nat) (I : Hi) (x1 : Int32) : Option (Bool) := b_X4_allows_2 a2 I 2000 x1 (0 : Int32)
set_option maxRecDepth 100000 in
set_option maxHeartbeats 4000000 in
theorem s_X4_allows {G : GP} {a2 : Nat} (ha2 : isC a2) {c d : Nat} {I : Hi} {L : Hl} {x1 : Int32} {p : Bool} (h : f_X4_allows a2 I x1 = some p) : CD G mi_X4_allows [.ref 63, .int x1, .ref a2] S0 I (R0 c d) L (some (.int (bI p))) S0 I (R0 c d) L := by
  refine CD.intro 2 rfl (by decide) rfl fun X hX hZ => ?_
  rw [f_X4_allows] at h
  show AW G X 0 0 S0 I (R0 c d) L 0 [.ref 63, .int x1, .ref a2, .null, .null] []
  refine aw_iconst (pc := 0) hX (0 : Int32) dX4_allows_0 (by decide) ?_
  refine aw_istore_nE (pc := 1) hX 3 [.ref 63, .int x1, .ref a2, .int (0 : Int32), .null] dX4_allows_1 rfl (by decide) rfl rfl ?_
  exact AW.lo (t_X4_allows_2 hX ha2 hZ 2000 x1 (0 : Int32) h) (And.intro (Or.inr rfl) (And.intro (Or.inr rfl) (And.intro (Or.inr rfl) (And.intro (Or.inr rfl) (And.intro (Or.inl rfl) trivial)))))
def f_X5_isLetter (I : Hi) (x1 : Int32) : Option (Bool) := if vinb x1 160 then if (I (2) (x1).toNatClampNeg) < (97 : Int32) then (some (false)) else (if vinb x1 160 then if (122 : Int32) < (I (2) (x1).toNatClampNeg) then (some (false)) else (some (true)) else none) else none
set_option maxRecDepth 100000 in
set_option maxHeartbeats 4000000 in
theorem s_X5_isLetter {G : GP} {c d : Nat} {I : Hi} {L : Hl} {x1 : Int32} {p : Bool} (h : f_X5_isLetter I x1 = some p) : CD G mi_X5_isLetter [.ref 1, .int x1] S0 I (R0 c d) L (some (.int (bI p))) S0 I (R0 c d) L := by
  refine CD.intro 0 rfl (by decide) rfl fun X hX hZ => ?_
  rw [f_X5_isLetter] at h
  show AW G X 0 0 S0 I (R0 c d) L 0 [.ref 1, .int x1] []
  refine aw_aload_n (pc := 0) hX 0 dX5_isLetter_0 rfl rfl ?_
  refine aw_getR (pc := 1) hX dX5_isLetter_1 f_X5_9 rfl (by rfl) (q := 2) (by rfl) ?_
  refine aw_iload_n (pc := 4) hX 1 dX5_isLetter_4 rfl rfl ?_
  obtain ⟨hv5, h⟩ := ite_g h
  refine aw_iaload (pc := 5) hX dX5_isLetter_5 (by rfl) (vinb_in hv5) ?_
  refine aw_bipush (pc := 6) hX (97 : Int32) dX5_isLetter_6 (by decide) ?_
  refine aw_icmp_lt (pc := 8) hX 26 dX5_isLetter_8 rfl (fun hc8 => ?_) (fun hc8 => ?_)
  · have h := ite_t h hc8
    refine aw_iconst (pc := 26) hX (0 : Int32) dX5_isLetter_26 (by decide) ?_
    have e := Option.some.inj h
    subst e
    exact aw_zret hX hZ dX5_isLetter_27 rfl (bI01 _) rfl rfl rfl rfl rfl rfl (Nat.le_refl _)
  · have h := ite_f h hc8
    refine aw_aload_n (pc := 11) hX 0 dX5_isLetter_11 rfl rfl ?_
    refine aw_getR (pc := 12) hX dX5_isLetter_12 f_X5_9 rfl (by rfl) (q := 2) (by rfl) ?_
    refine aw_iload_n (pc := 15) hX 1 dX5_isLetter_15 rfl rfl ?_
    obtain ⟨hv16, h⟩ := ite_g h
    refine aw_iaload (pc := 16) hX dX5_isLetter_16 (by rfl) (vinb_in hv16) ?_
    refine aw_bipush (pc := 17) hX (122 : Int32) dX5_isLetter_17 (by decide) ?_
    refine aw_icmp_gt (pc := 19) hX 26 dX5_isLetter_19 rfl (fun hc19 => ?_) (fun hc19 => ?_)
    · have h := ite_t h hc19
      refine aw_iconst (pc := 26) hX (0 : Int32) dX5_isLetter_26 (by decide) ?_
      have e := Option.some.inj h
      subst e
      exact aw_zret hX hZ dX5_isLetter_27 rfl (bI01 _) rfl rfl rfl rfl rfl rfl (Nat.le_refl _)
    · have h := ite_f h hc19
      refine aw_iconst (pc := 22) hX (1 : Int32) dX5_isLetter_22 (by decide) ?_
      refine aw_goto (pc := 23) hX 27 dX5_isLetter_23 rfl ?_
      have e := Option.some.inj h
      subst e
      exact aw_zret hX hZ dX5_isLetter_27 rfl (bI01 _) rfl rfl rfl rfl rfl rfl (Nat.le_refl _)
def b_X5_takeWord_35   (I : Hi) : Option (Hi) := (some (u2 I (1) 2 (1 : Int32))).bind fun I37 => some (I37)
set_option maxRecDepth 100000 in
set_option maxHeartbeats 4000000 in
theorem t_X5_takeWord_35 {G : GP} {X : CX} (hX : XOK G X mi_X5_takeWord) {c d : Nat} {L : Hl} {p : Hi} (hZ : XZ G X mi_X5_takeWord none S0 p (R0 c d) L) (I : Hi) (h : b_X5_takeWord_35 I = some p) : AW G X 0 0 S0 I (R0 c d) L 35 [.ref 1] [] := by
  rw [b_X5_takeWord_35] at h
  refine aw_aload_n (pc := 35) hX 0 dX5_takeWord_35 rfl rfl ?_
  refine aw_iconst (pc := 36) hX (1 : Int32) dX5_takeWord_36 (by decide) ?_
  refine aw_putI (pc := 37) hX dX5_takeWord_37 f_X5_19 rfl rfl (by first | rfl | decide) (by first | rfl | decide) (by rfl) ?_
  obtain ⟨I37, hi37, h⟩ := bind_s h
  refine AW.iEq hi37 ?_
  have e := Option.some.inj h
  subst e
  exact aw_vret hX hZ dX5_takeWord_40 rfl rfl rfl rfl rfl rfl (Nat.le_refl _)
def b_X5_takeWord_0   : Nat → Hi → Option (Hi)
  | 0, _ => none
  | n + 1, I => if (I (1) 1) ≤ (I (1) 4) then (b_X5_takeWord_35 I) else ((f_X5_isLetter I (I (1) 4)).bind fun r16 => if r16 = true then ((some (u2 I (1) 4 ((I (1) 4) + (1 : Int32)))).bind fun I29 => b_X5_takeWord_0 n I29) else (b_X5_takeWord_35 I))
set_option maxRecDepth 100000 in
set_option maxHeartbeats 4000000 in
theorem t_X5_takeWord_0 {G : GP} {X : CX} (hX : XOK G X mi_X5_takeWord) {c d : Nat} {L : Hl} {p : Hi} (hZ : XZ G X mi_X5_takeWord none S0 p (R0 c d) L) : ∀ (n : Nat) (I : Hi), b_X5_takeWord_0 n I = some p → AW G X 0 0 S0 I (R0 c d) L 0 [.ref 1] [] := by
  intro n
  induction n with
  | zero => intro I h; cases h
  | succ n ih =>
    intro I h
    rw [b_X5_takeWord_0] at h
    refine aw_aload_n (pc := 0) hX 0 dX5_takeWord_0 rfl rfl ?_
    refine aw_getI (pc := 1) hX dX5_takeWord_1 f_X5_25 rfl (by rfl) ?_
    refine aw_aload_n (pc := 4) hX 0 dX5_takeWord_4 rfl rfl ?_
    refine aw_getI (pc := 5) hX dX5_takeWord_5 f_X5_15 rfl (by rfl) ?_
    refine aw_icmp_ge (pc := 8) hX 35 dX5_takeWord_8 rfl (fun hc8 => ?_) (fun hc8 => ?_)
    · have h := ite_t h hc8
      exact AW.lo (t_X5_takeWord_35 hX hZ I h) (And.intro (Or.inr rfl) trivial)
    · have h := ite_f h hc8
      refine aw_aload_n (pc := 11) hX 0 dX5_takeWord_11 rfl rfl ?_
      refine aw_aload_n (pc := 12) hX 0 dX5_takeWord_12 rfl rfl ?_
      refine aw_getI (pc := 13) hX dX5_takeWord_13 f_X5_25 rfl (by rfl) ?_
      obtain ⟨r16, hq16, h⟩ := bind_s h
      refine aw_V1i (pc := 16) hX h_X5_isLetter l_X5_111 dX5_takeWord_16 (by rfl) (by decide) (by rfl) rfl rfl rfl (Nat.le_of_ble_eq_true rfl) (s_X5_isLetter  hq16) ?_
      refine aw_if_eq (pc := 19) hX 35 dX5_takeWord_19 rfl (fun hc19 => ?_) (fun hc19 => ?_)
      · have h := ite_f h (bI0 hc19)
        exact AW.lo (t_X5_takeWord_35 hX hZ I h) (And.intro (Or.inr rfl) trivial)
      · have h := ite_t h (bI1 hc19)
        refine aw_aload_n (pc := 22) hX 0 dX5_takeWord_22 rfl rfl ?_
        refine aw_dup (pc := 23) hX dX5_takeWord_23 rfl ?_
        refine aw_getI (pc := 24) hX dX5_takeWord_24 f_X5_25 rfl (by rfl) ?_
        refine aw_iconst (pc := 27) hX (1 : Int32) dX5_takeWord_27 (by decide) ?_
        refine aw_iadd (pc := 28) hX dX5_takeWord_28 ?_
        refine aw_putI (pc := 29) hX dX5_takeWord_29 f_X5_25 rfl rfl (by first | rfl | decide) (by first | rfl | decide) (by rfl) ?_
        obtain ⟨I29, hi29, h⟩ := bind_s h
        refine AW.iEq hi29 ?_
        refine aw_goto (pc := 32) hX 0 dX5_takeWord_32 rfl ?_
        exact AW.lo (ih I29  h) (And.intro (Or.inr rfl) trivial)
def f_X5_takeWord (I : Hi)  : Option (Hi) := if (I (1) 1) ≤ (I (1) 4) then (b_X5_takeWord_35 I) else ((f_X5_isLetter I (I (1) 4)).bind fun r16 => if r16 = true then ((some (u2 I (1) 4 ((I (1) 4) + (1 : Int32)))).bind fun I29 => b_X5_takeWord_0 2000 I29) else (b_X5_takeWord_35 I))
set_option maxRecDepth 100000 in
set_option maxHeartbeats 4000000 in
theorem s_X5_takeWord {G : GP} {c d : Nat} {I : Hi} {L : Hl}  {p : Hi} (h : f_X5_takeWord I = some p) : CD G mi_X5_takeWord [.ref 1] S0 I (R0 c d) L none S0 p (R0 c d) L := by
  refine CD.intro 0 rfl (by decide) rfl fun X hX hZ => ?_
  rw [f_X5_takeWord] at h
  show AW G X 0 0 S0 I (R0 c d) L 0 [.ref 1] []
  refine aw_aload_n (pc := 0) hX 0 dX5_takeWord_0 rfl rfl ?_
  refine aw_getI (pc := 1) hX dX5_takeWord_1 f_X5_25 rfl (by rfl) ?_
  refine aw_aload_n (pc := 4) hX 0 dX5_takeWord_4 rfl rfl ?_
  refine aw_getI (pc := 5) hX dX5_takeWord_5 f_X5_15 rfl (by rfl) ?_
  refine aw_icmp_ge (pc := 8) hX 35 dX5_takeWord_8 rfl (fun hc8 => ?_) (fun hc8 => ?_)
  · have h := ite_t h hc8
    exact AW.lo (t_X5_takeWord_35 hX hZ I h) (And.intro (Or.inr rfl) trivial)
  · have h := ite_f h hc8
    refine aw_aload_n (pc := 11) hX 0 dX5_takeWord_11 rfl rfl ?_
    refine aw_aload_n (pc := 12) hX 0 dX5_takeWord_12 rfl rfl ?_
    refine aw_getI (pc := 13) hX dX5_takeWord_13 f_X5_25 rfl (by rfl) ?_
    obtain ⟨r16, hq16, h⟩ := bind_s h
    refine aw_V1i (pc := 16) hX h_X5_isLetter l_X5_111 dX5_takeWord_16 (by rfl) (by decide) (by rfl) rfl rfl rfl (Nat.le_of_ble_eq_true rfl) (s_X5_isLetter  hq16) ?_
    refine aw_if_eq (pc := 19) hX 35 dX5_takeWord_19 rfl (fun hc19 => ?_) (fun hc19 => ?_)
    · have h := ite_f h (bI0 hc19)
      exact AW.lo (t_X5_takeWord_35 hX hZ I h) (And.intro (Or.inr rfl) trivial)
    · have h := ite_t h (bI1 hc19)
      refine aw_aload_n (pc := 22) hX 0 dX5_takeWord_22 rfl rfl ?_
      refine aw_dup (pc := 23) hX dX5_takeWord_23 rfl ?_
      refine aw_getI (pc := 24) hX dX5_takeWord_24 f_X5_25 rfl (by rfl) ?_
      refine aw_iconst (pc := 27) hX (1 : Int32) dX5_takeWord_27 (by decide) ?_
      refine aw_iadd (pc := 28) hX dX5_takeWord_28 ?_
      refine aw_putI (pc := 29) hX dX5_takeWord_29 f_X5_25 rfl rfl (by first | rfl | decide) (by first | rfl | decide) (by rfl) ?_
      obtain ⟨I29, hi29, h⟩ := bind_s h
      refine AW.iEq hi29 ?_
      refine aw_goto (pc := 32) hX 0 dX5_takeWord_32 rfl ?_
      exact AW.lo (t_X5_takeWord_0 hX hZ 2000 I29 h) (And.intro (Or.inr rfl) trivial)
