def f_X0_startAnew (a0 : Nat) (I : Hi)  : Option (Hi) := (some (u2 I (a0) 5 (0 : Int32))).bind fun I2 => (some (u2 I2 (a0) 6 (0 : Int32))).bind fun I7 => (some (u2 I7 (a0) 7 (0 : Int32))).bind fun I12 => (some (u2 I12 (a0) 8 (0 : Int32))).bind fun I17 => (some (u2 I17 (a0) 9 (3 : Int32))).bind fun I22 => some (I22)
set_option maxRecDepth 100000 in
set_option maxHeartbeats 4000000 in
theorem s_X0_startAnew {G : GP} {a0 : Nat} (ha0 : isC a0) {c d : Nat} {I : Hi} {L : Hl}  {p : Hi} (h : f_X0_startAnew a0 I = some p) : CD G mi_X0_startAnew [.ref a0] S0 I (R0 c d) L none S0 p (R0 c d) L := by
  refine CD.intro 0 rfl (by decide) rfl fun X hX hZ => ?_
  rw [f_X0_startAnew] at h
  show AW G X 0 0 S0 I (R0 c d) L 0 [.ref a0] []
  refine aw_aload_n (pc := 0) hX 0 dX0_startAnew_0 rfl rfl ?_
  refine aw_iconst (pc := 1) hX (0 : Int32) dX0_startAnew_1 (by decide) ?_
  refine aw_putI (pc := 2) hX dX0_startAnew_2 f_X0_27 rfl rfl (by first | rfl | decide) (by first | rfl | decide) (csh0 ha0) ?_
  obtain ⟨I2, hi2, h⟩ := bind_s h
  refine AW.iEq hi2 ?_
  refine aw_aload_n (pc := 5) hX 0 dX0_startAnew_5 rfl rfl ?_
  refine aw_iconst (pc := 6) hX (0 : Int32) dX0_startAnew_6 (by decide) ?_
  refine aw_putI (pc := 7) hX dX0_startAnew_7 f_X0_31 rfl rfl (by first | rfl | decide) (by first | rfl | decide) (csh0 ha0) ?_
  obtain ⟨I7, hi7, h⟩ := bind_s h
  refine AW.iEq hi7 ?_
  refine aw_aload_n (pc := 10) hX 0 dX0_startAnew_10 rfl rfl ?_
  refine aw_iconst (pc := 11) hX (0 : Int32) dX0_startAnew_11 (by decide) ?_
  refine aw_putI (pc := 12) hX dX0_startAnew_12 f_X0_34 rfl rfl (by first | rfl | decide) (by first | rfl | decide) (csh0 ha0) ?_
  obtain ⟨I12, hi12, h⟩ := bind_s h
  refine AW.iEq hi12 ?_
  refine aw_aload_n (pc := 15) hX 0 dX0_startAnew_15 rfl rfl ?_
  refine aw_iconst (pc := 16) hX (0 : Int32) dX0_startAnew_16 (by decide) ?_
  refine aw_putI (pc := 17) hX dX0_startAnew_17 f_X0_37 rfl rfl (by first | rfl | decide) (by first | rfl | decide) (csh0 ha0) ?_
  obtain ⟨I17, hi17, h⟩ := bind_s h
  refine AW.iEq hi17 ?_
  refine aw_aload_n (pc := 20) hX 0 dX0_startAnew_20 rfl rfl ?_
  refine aw_iconst (pc := 21) hX (3 : Int32) dX0_startAnew_21 (by decide) ?_
  refine aw_putI (pc := 22) hX dX0_startAnew_22 f_X0_40 rfl rfl (by first | rfl | decide) (by first | rfl | decide) (csh0 ha0) ?_
  obtain ⟨I22, hi22, h⟩ := bind_s h
  refine AW.iEq hi22 ?_
  have e := Option.some.inj h
  subst e
  exact aw_vret hX hZ dX0_startAnew_25 rfl rfl rfl rfl rfl rfl (Nat.le_refl _)
def f_X0_hasLeaf (a0 : Nat) (I : Hi) (x1 : Int32) : Option (Bool) := if x1 < (0 : Int32) then (some (false)) else (if (I (a0) 5) ≤ x1 then (some (false)) else (some (true)))
set_option maxRecDepth 100000 in
set_option maxHeartbeats 4000000 in
theorem s_X0_hasLeaf {G : GP} {a0 : Nat} (ha0 : isC a0) {c d : Nat} {I : Hi} {L : Hl} {x1 : Int32} {p : Bool} (h : f_X0_hasLeaf a0 I x1 = some p) : CD G mi_X0_hasLeaf [.ref a0, .int x1] S0 I (R0 c d) L (some (.int (bI p))) S0 I (R0 c d) L := by
  refine CD.intro 0 rfl (by decide) rfl fun X hX hZ => ?_
  rw [f_X0_hasLeaf] at h
  show AW G X 0 0 S0 I (R0 c d) L 0 [.ref a0, .int x1] []
  refine aw_iload_n (pc := 0) hX 1 dX0_hasLeaf_0 rfl rfl ?_
  refine aw_if_lt (pc := 1) hX 16 dX0_hasLeaf_1 rfl (fun hc1 => ?_) (fun hc1 => ?_)
  · have h := ite_t h hc1
    refine aw_iconst (pc := 16) hX (0 : Int32) dX0_hasLeaf_16 (by decide) ?_
    have e := Option.some.inj h
    subst e
    exact aw_zret hX hZ dX0_hasLeaf_17 rfl (bI01 _) rfl rfl rfl rfl rfl rfl (Nat.le_refl _)
  · have h := ite_f h hc1
    refine aw_iload_n (pc := 4) hX 1 dX0_hasLeaf_4 rfl rfl ?_
    refine aw_aload_n (pc := 5) hX 0 dX0_hasLeaf_5 rfl rfl ?_
    refine aw_getI (pc := 6) hX dX0_hasLeaf_6 f_X0_27 rfl (csh0 ha0) ?_
    refine aw_icmp_ge (pc := 9) hX 16 dX0_hasLeaf_9 rfl (fun hc9 => ?_) (fun hc9 => ?_)
    · have h := ite_t h hc9
      refine aw_iconst (pc := 16) hX (0 : Int32) dX0_hasLeaf_16 (by decide) ?_
      have e := Option.some.inj h
      subst e
      exact aw_zret hX hZ dX0_hasLeaf_17 rfl (bI01 _) rfl rfl rfl rfl rfl rfl (Nat.le_refl _)
    · have h := ite_f h hc9
      refine aw_iconst (pc := 12) hX (1 : Int32) dX0_hasLeaf_12 (by decide) ?_
      refine aw_goto (pc := 13) hX 17 dX0_hasLeaf_13 rfl ?_
      have e := Option.some.inj h
      subst e
      exact aw_zret hX hZ dX0_hasLeaf_17 rfl (bI01 _) rfl rfl rfl rfl rfl rfl (Nat.le_refl _)
def f_X0_hasGoer (a0 : Nat) (I : Hi) (x1 : Int32) : Option (Bool) := if x1 < (0 : Int32) then (some (false)) else (if (I (a0) 6) ≤ x1 then (some (false)) else (some (true)))
set_option maxRecDepth 100000 in
set_option maxHeartbeats 4000000 in
theorem s_X0_hasGoer {G : GP} {a0 : Nat} (ha0 : isC a0) {c d : Nat} {I : Hi} {L : Hl} {x1 : Int32} {p : Bool} (h : f_X0_hasGoer a0 I x1 = some p) : CD G mi_X0_hasGoer [.ref a0, .int x1] S0 I (R0 c d) L (some (.int (bI p))) S0 I (R0 c d) L := by
  refine CD.intro 0 rfl (by decide) rfl fun X hX hZ => ?_
  rw [f_X0_hasGoer] at h
  show AW G X 0 0 S0 I (R0 c d) L 0 [.ref a0, .int x1] []
  refine aw_iload_n (pc := 0) hX 1 dX0_hasGoer_0 rfl rfl ?_
  refine aw_if_lt (pc := 1) hX 16 dX0_hasGoer_1 rfl (fun hc1 => ?_) (fun hc1 => ?_)
  · have h := ite_t h hc1
    refine aw_iconst (pc := 16) hX (0 : Int32) dX0_hasGoer_16 (by decide) ?_
    have e := Option.some.inj h
    subst e
    exact aw_zret hX hZ dX0_hasGoer_17 rfl (bI01 _) rfl rfl rfl rfl rfl rfl (Nat.le_refl _)
  · have h := ite_f h hc1
    refine aw_iload_n (pc := 4) hX 1 dX0_hasGoer_4 rfl rfl ?_
    refine aw_aload_n (pc := 5) hX 0 dX0_hasGoer_5 rfl rfl ?_
    refine aw_getI (pc := 6) hX dX0_hasGoer_6 f_X0_31 rfl (csh0 ha0) ?_
    refine aw_icmp_ge (pc := 9) hX 16 dX0_hasGoer_9 rfl (fun hc9 => ?_) (fun hc9 => ?_)
    · have h := ite_t h hc9
      refine aw_iconst (pc := 16) hX (0 : Int32) dX0_hasGoer_16 (by decide) ?_
      have e := Option.some.inj h
      subst e
      exact aw_zret hX hZ dX0_hasGoer_17 rfl (bI01 _) rfl rfl rfl rfl rfl rfl (Nat.le_refl _)
    · have h := ite_f h hc9
      refine aw_iconst (pc := 12) hX (1 : Int32) dX0_hasGoer_12 (by decide) ?_
      refine aw_goto (pc := 13) hX 17 dX0_hasGoer_13 rfl ?_
      have e := Option.some.inj h
      subst e
      exact aw_zret hX hZ dX0_hasGoer_17 rfl (bI01 _) rfl rfl rfl rfl rfl rfl (Nat.le_refl _)
def f_X6_hasBit  (x0 : Int32) (x1 : Int32) : Option (Bool) := if ((x0 >>> (x1 &&& 31)) &&& (1 : Int32)) = (1 : Int32) then (some (true)) else (some (false))
set_option maxRecDepth 100000 in
set_option maxHeartbeats 4000000 in
theorem s_X6_hasBit {G : GP} {c d : Nat} {I : Hi} {L : Hl} {x0 : Int32} {x1 : Int32} {p : Bool} (h : f_X6_hasBit x0 x1 = some p) : CD G mi_X6_hasBit [.int x0, .int x1] S0 I (R0 c d) L (some (.int (bI p))) S0 I (R0 c d) L := by
  refine CD.intro 0 rfl (by decide) rfl fun X hX hZ => ?_
  rw [f_X6_hasBit] at h
  show AW G X 0 0 S0 I (R0 c d) L 0 [.int x0, .int x1] []
  refine aw_iload_n (pc := 0) hX 0 dX6_hasBit_0 rfl rfl ?_
  refine aw_iload_n (pc := 1) hX 1 dX6_hasBit_1 rfl rfl ?_
  refine aw_ishr (pc := 2) hX dX6_hasBit_2 ?_
  refine aw_iconst (pc := 3) hX (1 : Int32) dX6_hasBit_3 (by decide) ?_
  refine aw_iand (pc := 4) hX dX6_hasBit_4 ?_
  refine aw_iconst (pc := 5) hX (1 : Int32) dX6_hasBit_5 (by decide) ?_
  refine aw_icmp_ne (pc := 6) hX 13 dX6_hasBit_6 rfl (fun hc6 => ?_) (fun hc6 => ?_)
  · have h := ite_f h hc6
    refine aw_iconst (pc := 13) hX (0 : Int32) dX6_hasBit_13 (by decide) ?_
    have e := Option.some.inj h
    subst e
    exact aw_zret hX hZ dX6_hasBit_14 rfl (bI01 _) rfl rfl rfl rfl rfl rfl (Nat.le_refl _)
  · have h := ite_t h hc6
    refine aw_iconst (pc := 9) hX (1 : Int32) dX6_hasBit_9 (by decide) ?_
    refine aw_goto (pc := 10) hX 14 dX6_hasBit_10 rfl ?_
    have e := Option.some.inj h
    subst e
    exact aw_zret hX hZ dX6_hasBit_14 rfl (bI01 _) rfl rfl rfl rfl rfl rfl (Nat.le_refl _)
def f_X0_counts (a0 : Nat) (I : Hi) (x1 : Int32) (x2 : Int32) : Option (Bool) := (f_X0_hasLeaf (a0) I x2).bind fun r2 => if r2 = true then (if vinb x2 5 then (f_X6_hasBit (I (a0 + 1) (x2).toNatClampNeg) x1).bind fun r15 => if r15 = true then (some (true)) else (some (false)) else none) else (some (false))
set_option maxRecDepth 100000 in
set_option maxHeartbeats 4000000 in
theorem s_X0_counts {G : GP} {a0 : Nat} (ha0 : isC a0) {c d : Nat} {I : Hi} {L : Hl} {x1 : Int32} {x2 : Int32} {p : Bool} (h : f_X0_counts a0 I x1 x2 = some p) : CD G mi_X0_counts [.ref a0, .int x1, .int x2] S0 I (R0 c d) L (some (.int (bI p))) S0 I (R0 c d) L := by
  refine CD.intro 0 rfl (by decide) rfl fun X hX hZ => ?_
  rw [f_X0_counts] at h
  show AW G X 0 0 S0 I (R0 c d) L 0 [.ref a0, .int x1, .int x2] []
  refine aw_aload_n (pc := 0) hX 0 dX0_counts_0 rfl rfl ?_
  refine aw_iload_n (pc := 1) hX 2 dX0_counts_1 rfl rfl ?_
  obtain ⟨r2, hq2, h⟩ := bind_s h
  refine aw_V1i (pc := 2) hX h_X0_hasLeaf l_X0_43 dX0_counts_2 (csh0 ha0) (by decide) (by rfl) rfl rfl rfl (Nat.le_of_ble_eq_true rfl) (s_X0_hasLeaf ha0 hq2) ?_
  refine aw_if_eq (pc := 5) hX 25 dX0_counts_5 rfl (fun hc5 => ?_) (fun hc5 => ?_)
  · have h := ite_f h (bI0 hc5)
    refine aw_iconst (pc := 25) hX (0 : Int32) dX0_counts_25 (by decide) ?_
    have e := Option.some.inj h
    subst e
    exact aw_zret hX hZ dX0_counts_26 rfl (bI01 _) rfl rfl rfl rfl rfl rfl (Nat.le_refl _)
  · have h := ite_t h (bI1 hc5)
    refine aw_aload_n (pc := 8) hX 0 dX0_counts_8 rfl rfl ?_
    refine aw_getR (pc := 9) hX dX0_counts_9 f_X0_9 rfl (csh0 ha0) (q := a0 + 1) (crf0 ha0) ?_
    refine aw_iload_n (pc := 12) hX 2 dX0_counts_12 rfl rfl ?_
    obtain ⟨hv13, h⟩ := ite_g h
    refine aw_iaload (pc := 13) hX dX0_counts_13 (csh1 ha0) (vinb_in hv13) ?_
    refine aw_iload_n (pc := 14) hX 1 dX0_counts_14 rfl rfl ?_
    obtain ⟨r15, hq15, h⟩ := bind_s h
    refine aw_SN2i (pc := 15) hX h_X6_hasBit l_X0_47 dX0_counts_15 rfl rfl rfl (Nat.le_of_ble_eq_true rfl) (s_X6_hasBit  hq15) ?_
    refine aw_if_eq (pc := 18) hX 25 dX0_counts_18 rfl (fun hc18 => ?_) (fun hc18 => ?_)
    · have h := ite_f h (bI0 hc18)
      refine aw_iconst (pc := 25) hX (0 : Int32) dX0_counts_25 (by decide) ?_
      have e := Option.some.inj h
      subst e
      exact aw_zret hX hZ dX0_counts_26 rfl (bI01 _) rfl rfl rfl rfl rfl rfl (Nat.le_refl _)
    · have h := ite_t h (bI1 hc18)
      refine aw_iconst (pc := 21) hX (1 : Int32) dX0_counts_21 (by decide) ?_
      refine aw_goto (pc := 22) hX 26 dX0_counts_22 rfl ?_
      have e := Option.some.inj h
      subst e
      exact aw_zret hX hZ dX0_counts_26 rfl (bI01 _) rfl rfl rfl rfl rfl rfl (Nat.le_refl _)
def f_X0_goodTastes (a0 : Nat) (I : Hi) (x1 : Int32) (x2 : Int32) : Option (Int32) := (f_X0_hasLeaf (a0) I x1).bind fun r2 => if r2 = true then ((f_X0_hasGoer (a0) I x2).bind fun r10 => if r10 = true then (if vinb x1 5 then if vinb x2 6 then some (((I (a0 + 1) (x1).toNatClampNeg) &&& (I (a0 + 2) (x2).toNatClampNeg))) else none else none) else (some ((0 : Int32)))) else (some ((0 : Int32)))
set_option maxRecDepth 100000 in
set_option maxHeartbeats 4000000 in
theorem s_X0_goodTastes {G : GP} {a0 : Nat} (ha0 : isC a0) {c d : Nat} {I : Hi} {L : Hl} {x1 : Int32} {x2 : Int32} {p : Int32} (h : f_X0_goodTastes a0 I x1 x2 = some p) : CD G mi_X0_goodTastes [.ref a0, .int x1, .int x2] S0 I (R0 c d) L (some (.int p)) S0 I (R0 c d) L := by
  refine CD.intro 0 rfl (by decide) rfl fun X hX hZ => ?_
  rw [f_X0_goodTastes] at h
  show AW G X 0 0 S0 I (R0 c d) L 0 [.ref a0, .int x1, .int x2] []
  refine aw_aload_n (pc := 0) hX 0 dX0_goodTastes_0 rfl rfl ?_
  refine aw_iload_n (pc := 1) hX 1 dX0_goodTastes_1 rfl rfl ?_
  obtain ⟨r2, hq2, h⟩ := bind_s h
  refine aw_V1i (pc := 2) hX h_X0_hasLeaf l_X0_43 dX0_goodTastes_2 (csh0 ha0) (by decide) (by rfl) rfl rfl rfl (Nat.le_of_ble_eq_true rfl) (s_X0_hasLeaf ha0 hq2) ?_
  refine aw_if_eq (pc := 5) hX 32 dX0_goodTastes_5 rfl (fun hc5 => ?_) (fun hc5 => ?_)
  · have h := ite_f h (bI0 hc5)
    refine aw_iconst (pc := 32) hX (0 : Int32) dX0_goodTastes_32 (by decide) ?_
    have e := Option.some.inj h
    subst e
    exact aw_iret hX hZ dX0_goodTastes_33 rfl rfl rfl rfl rfl rfl rfl (Nat.le_refl _)
  · have h := ite_t h (bI1 hc5)
    refine aw_aload_n (pc := 8) hX 0 dX0_goodTastes_8 rfl rfl ?_
    refine aw_iload_n (pc := 9) hX 2 dX0_goodTastes_9 rfl rfl ?_
    obtain ⟨r10, hq10, h⟩ := bind_s h
    refine aw_V1i (pc := 10) hX h_X0_hasGoer l_X0_51 dX0_goodTastes_10 (csh0 ha0) (by decide) (by rfl) rfl rfl rfl (Nat.le_of_ble_eq_true rfl) (s_X0_hasGoer ha0 hq10) ?_
    refine aw_if_eq (pc := 13) hX 32 dX0_goodTastes_13 rfl (fun hc13 => ?_) (fun hc13 => ?_)
    · have h := ite_f h (bI0 hc13)
      refine aw_iconst (pc := 32) hX (0 : Int32) dX0_goodTastes_32 (by decide) ?_
      have e := Option.some.inj h
      subst e
      exact aw_iret hX hZ dX0_goodTastes_33 rfl rfl rfl rfl rfl rfl rfl (Nat.le_refl _)
    · have h := ite_t h (bI1 hc13)
      refine aw_aload_n (pc := 16) hX 0 dX0_goodTastes_16 rfl rfl ?_
      refine aw_getR (pc := 17) hX dX0_goodTastes_17 f_X0_9 rfl (csh0 ha0) (q := a0 + 1) (crf0 ha0) ?_
      refine aw_iload_n (pc := 20) hX 1 dX0_goodTastes_20 rfl rfl ?_
      obtain ⟨hv21, h⟩ := ite_g h
      refine aw_iaload (pc := 21) hX dX0_goodTastes_21 (csh1 ha0) (vinb_in hv21) ?_
      refine aw_aload_n (pc := 22) hX 0 dX0_goodTastes_22 rfl rfl ?_
      refine aw_getR (pc := 23) hX dX0_goodTastes_23 f_X0_15 rfl (csh0 ha0) (q := a0 + 2) (crf1 ha0) ?_
      refine aw_iload_n (pc := 26) hX 2 dX0_goodTastes_26 rfl rfl ?_
      obtain ⟨hv27, h⟩ := ite_g h
      refine aw_iaload (pc := 27) hX dX0_goodTastes_27 (csh2 ha0) (vinb_in hv27) ?_
      refine aw_iand (pc := 28) hX dX0_goodTastes_28 ?_
      refine aw_goto (pc := 29) hX 33 dX0_goodTastes_29 rfl ?_
      have e := Option.some.inj h
      subst e
      exact aw_iret hX hZ dX0_goodTastes_33 rfl rfl rfl rfl rfl rfl rfl (Nat.le_refl _)
def b_X0_goersLetBy_27 (a0 : Nat) (I : Hi) (k4 : Int32 → Int32 → Int32 → Option (Int32)) (x1 : Int32) (x2 : Int32) (x3 : Int32) : Option (Int32) := k4 x1 x2 (x3 + 1)
set_option maxRecDepth 100000 in
set_option maxHeartbeats 4000000 in
theorem t_X0_goersLetBy_27 {G : GP} {X : CX} (hX : XOK G X mi_X0_goersLetBy) {a0 : Nat} (ha0 : isC a0) {c d : Nat} {I : Hi} {L : Hl} {p : Int32} (hZ : XZ G X mi_X0_goersLetBy (some (.int p)) S0 I (R0 c d) L) {k4 : Int32 → Int32 → Int32 → Option (Int32)} (hk4 : ∀ (x1 : Int32) (x2 : Int32) (x3 : Int32), k4 x1 x2 x3 = some p → AW G X 0 0 S0 I (R0 c d) L 4 [.ref a0, .int x1, .int x2, .int x3] []) (x1 : Int32) (x2 : Int32) (x3 : Int32) (h : b_X0_goersLetBy_27 a0 I k4 x1 x2 x3 = some p) : AW G X 0 0 S0 I (R0 c d) L 27 [.ref a0, .int x1, .int x2, .int x3] [] := by
  rw [b_X0_goersLetBy_27] at h
  refine aw_iincE (pc := 27) hX (x3 + 1) [.ref a0, .int x1, .int x2, .int (x3 + 1)] dX0_goersLetBy_27 rfl rfl (by decide) rfl rfl ?_
  refine aw_goto (pc := 30) hX 4 dX0_goersLetBy_30 rfl ?_
  exact AW.lo (hk4 x1 x2 (x3 + 1)  h) (And.intro (Or.inr rfl) (And.intro (Or.inr rfl) (And.intro (Or.inr rfl) (And.intro (Or.inr rfl) trivial))))
def b_X0_goersLetBy_4 (a0 : Nat) (I : Hi)  : Nat → Int32 → Int32 → Int32 → Option (Int32)
  | 0, _, _, _ => none
  | n + 1, x1, x2, x3 => if (I (a0) 6) ≤ x3 then (some (x2)) else ((f_X0_goodTastes (a0) I x1 x3).bind fun r15 => if r15 = (0 : Int32) then (b_X0_goersLetBy_27 a0 I (b_X0_goersLetBy_4 a0 I n) x1 x2 x3) else (b_X0_goersLetBy_27 a0 I (b_X0_goersLetBy_4 a0 I n) x1 (x2 ||| ((1 : Int32) <<< (x3 &&& 31))) x3))
set_option maxRecDepth 100000 in
set_option maxHeartbeats 4000000 in
theorem t_X0_goersLetBy_4 {G : GP} {X : CX} (hX : XOK G X mi_X0_goersLetBy) {a0 : Nat} (ha0 : isC a0) {c d : Nat} {I : Hi} {L : Hl} {p : Int32} (hZ : XZ G X mi_X0_goersLetBy (some (.int p)) S0 I (R0 c d) L) : ∀ (n : Nat) (x1 : Int32) (x2 : Int32) (x3 : Int32), b_X0_goersLetBy_4 a0 I n x1 x2 x3 = some p → AW G X 0 0 S0 I (R0 c d) L 4 [.ref a0, .int x1, .int x2, .int x3] [] := by
  intro n
  induction n with
  | zero => intro x1 x2 x3 h; cases h
  | succ n ih =>
    intro x1 x2 x3 h
    rw [b_X0_goersLetBy_4] at h
    refine aw_iload_n (pc := 4) hX 3 dX0_goersLetBy_4 rfl rfl ?_
    refine aw_aload_n (pc := 5) hX 0 dX0_goersLetBy_5 rfl rfl ?_
    refine aw_getI (pc := 6) hX dX0_goersLetBy_6 f_X0_31 rfl (csh0 ha0) ?_
    refine aw_icmp_ge (pc := 9) hX 33 dX0_goersLetBy_9 rfl (fun hc9 => ?_) (fun hc9 => ?_)
    · have h := ite_t h hc9
      refine aw_iload_n (pc := 33) hX 2 dX0_goersLetBy_33 rfl rfl ?_
      have e := Option.some.inj h
      subst e
      exact aw_iret hX hZ dX0_goersLetBy_34 rfl rfl rfl rfl rfl rfl rfl (Nat.le_refl _)
    · have h := ite_f h hc9
      refine aw_aload_n (pc := 12) hX 0 dX0_goersLetBy_12 rfl rfl ?_
      refine aw_iload_n (pc := 13) hX 1 dX0_goersLetBy_13 rfl rfl ?_
      refine aw_iload_n (pc := 14) hX 3 dX0_goersLetBy_14 rfl rfl ?_
      obtain ⟨r15, hq15, h⟩ := bind_s h
      refine aw_V2i (pc := 15) hX h_X0_goodTastes l_X0_54 dX0_goersLetBy_15 (csh0 ha0) (by decide) (by rfl) rfl rfl rfl (Nat.le_of_ble_eq_true rfl) (s_X0_goodTastes ha0 hq15) ?_
      refine aw_if_eq (pc := 18) hX 27 dX0_goersLetBy_18 rfl (fun hc18 => ?_) (fun hc18 => ?_)
      · have h := ite_t h hc18
        exact AW.lo (t_X0_goersLetBy_27 hX ha0 hZ (ih) x1 x2 x3 h) (And.intro (Or.inr rfl) (And.intro (Or.inr rfl) (And.intro (Or.inr rfl) (And.intro (Or.inr rfl) trivial))))
      · have h := ite_f h hc18
        refine aw_iload_n (pc := 21) hX 2 dX0_goersLetBy_21 rfl rfl ?_
        refine aw_iconst (pc := 22) hX (1 : Int32) dX0_goersLetBy_22 (by decide) ?_
        refine aw_iload_n (pc := 23) hX 3 dX0_goersLetBy_23 rfl rfl ?_
        refine aw_ishl (pc := 24) hX dX0_goersLetBy_24 ?_
        refine aw_ior (pc := 25) hX dX0_goersLetBy_25 ?_
        refine aw_istore_nE (pc := 26) hX 2 [.ref a0, .int x1, .int (x2 ||| ((1 : Int32) <<< (x3 &&& 31))), .int x3] dX0_goersLetBy_26 rfl (by decide) rfl rfl ?_
        exact AW.lo (t_X0_goersLetBy_27 hX ha0 hZ (ih) x1 (x2 ||| ((1 : Int32) <<< (x3 &&& 31))) x3 h) (And.intro (Or.inr rfl) (And.intro (Or.inr rfl) (And.intro (Or.inr rfl) (And.intro (Or.inr rfl) trivial))))
def f_X0_goersLetBy (a0 : Nat) (I : Hi) (x1 : Int32) : Option (Int32) := b_X0_goersLetBy_4 a0 I 2000 x1 (0 : Int32) (0 : Int32)
set_option maxRecDepth 100000 in
set_option maxHeartbeats 4000000 in
theorem s_X0_goersLetBy {G : GP} {a0 : Nat} (ha0 : isC a0) {c d : Nat} {I : Hi} {L : Hl} {x1 : Int32} {p : Int32} (h : f_X0_goersLetBy a0 I x1 = some p) : CD G mi_X0_goersLetBy [.ref a0, .int x1] S0 I (R0 c d) L (some (.int p)) S0 I (R0 c d) L := by
  refine CD.intro 2 rfl (by decide) rfl fun X hX hZ => ?_
  rw [f_X0_goersLetBy] at h
  show AW G X 0 0 S0 I (R0 c d) L 0 [.ref a0, .int x1, .null, .null] []
  refine aw_iconst (pc := 0) hX (0 : Int32) dX0_goersLetBy_0 (by decide) ?_
  refine aw_istore_nE (pc := 1) hX 2 [.ref a0, .int x1, .int (0 : Int32), .null] dX0_goersLetBy_1 rfl (by decide) rfl rfl ?_
  refine aw_iconst (pc := 2) hX (0 : Int32) dX0_goersLetBy_2 (by decide) ?_
  refine aw_istore_nE (pc := 3) hX 3 [.ref a0, .int x1, .int (0 : Int32), .int (0 : Int32)] dX0_goersLetBy_3 rfl (by decide) rfl rfl ?_
  exact AW.lo (t_X0_goersLetBy_4 hX ha0 hZ 2000 x1 (0 : Int32) (0 : Int32) h) (And.intro (Or.inr rfl) (And.intro (Or.inr rfl) (And.intro (Or.inr rfl) (And.intro (Or.inr rfl) trivial))))
def b_X0_leavesThatLet_27 (a0 : Nat) (I : Hi) (k4 : Int32 → Int32 → Int32 → Option (Int32)) (x1 : Int32) (x2 : Int32) (x3 : Int32) : Option (Int32) := k4 x1 x2 (x3 + 1)
set_option maxRecDepth 100000 in
set_option maxHeartbeats 4000000 in
theorem t_X0_leavesThatLet_27 {G : GP} {X : CX} (hX : XOK G X mi_X0_leavesThatLet) {a0 : Nat} (ha0 : isC a0) {c d : Nat} {I : Hi} {L : Hl} {p : Int32} (hZ : XZ G X mi_X0_leavesThatLet (some (.int p)) S0 I (R0 c d) L) {k4 : Int32 → Int32 → Int32 → Option (Int32)} (hk4 : ∀ (x1 : Int32) (x2 : Int32) (x3 : Int32), k4 x1 x2 x3 = some p → AW G X 0 0 S0 I (R0 c d) L 4 [.ref a0, .int x1, .int x2, .int x3] []) (x1 : Int32) (x2 : Int32) (x3 : Int32) (h : b_X0_leavesThatLet_27 a0 I k4 x1 x2 x3 = some p) : AW G X 0 0 S0 I (R0 c d) L 27 [.ref a0, .int x1, .int x2, .int x3] [] := by
  rw [b_X0_leavesThatLet_27] at h
  refine aw_iincE (pc := 27) hX (x3 + 1) [.ref a0, .int x1, .int x2, .int (x3 + 1)] dX0_leavesThatLet_27 rfl rfl (by decide) rfl rfl ?_
  refine aw_goto (pc := 30) hX 4 dX0_leavesThatLet_30 rfl ?_
  exact AW.lo (hk4 x1 x2 (x3 + 1)  h) (And.intro (Or.inr rfl) (And.intro (Or.inr rfl) (And.intro (Or.inr rfl) (And.intro (Or.inr rfl) trivial))))
def b_X0_leavesThatLet_4 (a0 : Nat) (I : Hi)  : Nat → Int32 → Int32 → Int32 → Option (Int32)
  | 0, _, _, _ => none
  | n + 1, x1, x2, x3 => if (I (a0) 5) ≤ x3 then (some (x2)) else ((f_X0_goodTastes (a0) I x3 x1).bind fun r15 => if r15 = (0 : Int32) then (b_X0_leavesThatLet_27 a0 I (b_X0_leavesThatLet_4 a0 I n) x1 x2 x3) else (b_X0_leavesThatLet_27 a0 I (b_X0_leavesThatLet_4 a0 I n) x1 (x2 ||| ((1 : Int32) <<< (x3 &&& 31))) x3))
set_option maxRecDepth 100000 in
set_option maxHeartbeats 4000000 in
theorem t_X0_leavesThatLet_4 {G : GP} {X : CX} (hX : XOK G X mi_X0_leavesThatLet) {a0 : Nat} (ha0 : isC a0) {c d : Nat} {I : Hi} {L : Hl} {p : Int32} (hZ : XZ G X mi_X0_leavesThatLet (some (.int p)) S0 I (R0 c d) L) : ∀ (n : Nat) (x1 : Int32) (x2 : Int32) (x3 : Int32), b_X0_leavesThatLet_4 a0 I n x1 x2 x3 = some p → AW G X 0 0 S0 I (R0 c d) L 4 [.ref a0, .int x1, .int x2, .int x3] [] := by
  intro n
  induction n with
  | zero => intro x1 x2 x3 h; cases h
  | succ n ih =>
    intro x1 x2 x3 h
    rw [b_X0_leavesThatLet_4] at h
    refine aw_iload_n (pc := 4) hX 3 dX0_leavesThatLet_4 rfl rfl ?_
    refine aw_aload_n (pc := 5) hX 0 dX0_leavesThatLet_5 rfl rfl ?_
    refine aw_getI (pc := 6) hX dX0_leavesThatLet_6 f_X0_27 rfl (csh0 ha0) ?_
    refine aw_icmp_ge (pc := 9) hX 33 dX0_leavesThatLet_9 rfl (fun hc9 => ?_) (fun hc9 => ?_)
    · have h := ite_t h hc9
      refine aw_iload_n (pc := 33) hX 2 dX0_leavesThatLet_33 rfl rfl ?_
      have e := Option.some.inj h
      subst e
      exact aw_iret hX hZ dX0_leavesThatLet_34 rfl rfl rfl rfl rfl rfl rfl (Nat.le_refl _)
    · have h := ite_f h hc9
      refine aw_aload_n (pc := 12) hX 0 dX0_leavesThatLet_12 rfl rfl ?_
      refine aw_iload_n (pc := 13) hX 3 dX0_leavesThatLet_13 rfl rfl ?_
      refine aw_iload_n (pc := 14) hX 1 dX0_leavesThatLet_14 rfl rfl ?_
      obtain ⟨r15, hq15, h⟩ := bind_s h
      refine aw_V2i (pc := 15) hX h_X0_goodTastes l_X0_54 dX0_leavesThatLet_15 (csh0 ha0) (by decide) (by rfl) rfl rfl rfl (Nat.le_of_ble_eq_true rfl) (s_X0_goodTastes ha0 hq15) ?_
      refine aw_if_eq (pc := 18) hX 27 dX0_leavesThatLet_18 rfl (fun hc18 => ?_) (fun hc18 => ?_)
      · have h := ite_t h hc18
        exact AW.lo (t_X0_leavesThatLet_27 hX ha0 hZ (ih) x1 x2 x3 h) (And.intro (Or.inr rfl) (And.intro (Or.inr rfl) (And.intro (Or.inr rfl) (And.intro (Or.inr rfl) trivial))))
      · have h := ite_f h hc18
        refine aw_iload_n (pc := 21) hX 2 dX0_leavesThatLet_21 rfl rfl ?_
        refine aw_iconst (pc := 22) hX (1 : Int32) dX0_leavesThatLet_22 (by decide) ?_
        refine aw_iload_n (pc := 23) hX 3 dX0_leavesThatLet_23 rfl rfl ?_
        refine aw_ishl (pc := 24) hX dX0_leavesThatLet_24 ?_
        refine aw_ior (pc := 25) hX dX0_leavesThatLet_25 ?_
        refine aw_istore_nE (pc := 26) hX 2 [.ref a0, .int x1, .int (x2 ||| ((1 : Int32) <<< (x3 &&& 31))), .int x3] dX0_leavesThatLet_26 rfl (by decide) rfl rfl ?_
        exact AW.lo (t_X0_leavesThatLet_27 hX ha0 hZ (ih) x1 (x2 ||| ((1 : Int32) <<< (x3 &&& 31))) x3 h) (And.intro (Or.inr rfl) (And.intro (Or.inr rfl) (And.intro (Or.inr rfl) (And.intro (Or.inr rfl) trivial))))
def f_X0_leavesThatLet (a0 : Nat) (I : Hi) (x1 : Int32) : Option (Int32) := b_X0_leavesThatLet_4 a0 I 2000 x1 (0 : Int32) (0 : Int32)
set_option maxRecDepth 100000 in
set_option maxHeartbeats 4000000 in
theorem s_X0_leavesThatLet {G : GP} {a0 : Nat} (ha0 : isC a0) {c d : Nat} {I : Hi} {L : Hl} {x1 : Int32} {p : Int32} (h : f_X0_leavesThatLet a0 I x1 = some p) : CD G mi_X0_leavesThatLet [.ref a0, .int x1] S0 I (R0 c d) L (some (.int p)) S0 I (R0 c d) L := by
  refine CD.intro 2 rfl (by decide) rfl fun X hX hZ => ?_
  rw [f_X0_leavesThatLet] at h
  show AW G X 0 0 S0 I (R0 c d) L 0 [.ref a0, .int x1, .null, .null] []
  refine aw_iconst (pc := 0) hX (0 : Int32) dX0_leavesThatLet_0 (by decide) ?_
  refine aw_istore_nE (pc := 1) hX 2 [.ref a0, .int x1, .int (0 : Int32), .null] dX0_leavesThatLet_1 rfl (by decide) rfl rfl ?_
  refine aw_iconst (pc := 2) hX (0 : Int32) dX0_leavesThatLet_2 (by decide) ?_
  refine aw_istore_nE (pc := 3) hX 3 [.ref a0, .int x1, .int (0 : Int32), .int (0 : Int32)] dX0_leavesThatLet_3 rfl (by decide) rfl rfl ?_
  exact AW.lo (t_X0_leavesThatLet_4 hX ha0 hZ 2000 x1 (0 : Int32) (0 : Int32) h) (And.intro (Or.inr rfl) (And.intro (Or.inr rfl) (And.intro (Or.inr rfl) (And.intro (Or.inr rfl) trivial))))
def f_X0_leafBehind (a0 : Nat) (I : Hi) (x1 : Int32) (x2 : Int32) : Option (Int32) := if (I (a0) 5) = (0 : Int32) then (some ((0 : Int32))) else (if (I (a0) 5) = (0 : Int32) then none else some (((x1 + x2) - (x1 + x2) / (I (a0) 5) * (I (a0) 5))))
set_option maxRecDepth 100000 in
set_option maxHeartbeats 4000000 in
theorem s_X0_leafBehind {G : GP} {a0 : Nat} (ha0 : isC a0) {c d : Nat} {I : Hi} {L : Hl} {x1 : Int32} {x2 : Int32} {p : Int32} (h : f_X0_leafBehind a0 I x1 x2 = some p) : CD G mi_X0_leafBehind [.ref a0, .int x1, .int x2] S0 I (R0 c d) L (some (.int p)) S0 I (R0 c d) L := by
  refine CD.intro 0 rfl (by decide) rfl fun X hX hZ => ?_
  rw [f_X0_leafBehind] at h
  show AW G X 0 0 S0 I (R0 c d) L 0 [.ref a0, .int x1, .int x2] []
  refine aw_aload_n (pc := 0) hX 0 dX0_leafBehind_0 rfl rfl ?_
  refine aw_getI (pc := 1) hX dX0_leafBehind_1 f_X0_27 rfl (csh0 ha0) ?_
  refine aw_if_ne (pc := 4) hX 11 dX0_leafBehind_4 rfl (fun hc4 => ?_) (fun hc4 => ?_)
  · have h := ite_f h hc4
    refine aw_iload_n (pc := 11) hX 1 dX0_leafBehind_11 rfl rfl ?_
    refine aw_iload_n (pc := 12) hX 2 dX0_leafBehind_12 rfl rfl ?_
    refine aw_iadd (pc := 13) hX dX0_leafBehind_13 ?_
    refine aw_aload_n (pc := 14) hX 0 dX0_leafBehind_14 rfl rfl ?_
    refine aw_getI (pc := 15) hX dX0_leafBehind_15 f_X0_27 rfl (csh0 ha0) ?_
    obtain ⟨hne18, h⟩ := ite_n h
    refine aw_irem (pc := 18) hX dX0_leafBehind_18 hne18 ?_
    have e := Option.some.inj h
    subst e
    exact aw_iret hX hZ dX0_leafBehind_19 rfl rfl rfl rfl rfl rfl rfl (Nat.le_refl _)
  · have h := ite_t h hc4
    refine aw_iconst (pc := 7) hX (0 : Int32) dX0_leafBehind_7 (by decide) ?_
    refine aw_goto (pc := 8) hX 19 dX0_leafBehind_8 rfl ?_
    have e := Option.some.inj h
    subst e
    exact aw_iret hX hZ dX0_leafBehind_19 rfl rfl rfl rfl rfl rfl rfl (Nat.le_refl _)
def f_J6_bitCount_0f7a4  (x0 : Int32) : Option (Int32) := some (((((((((x0 - (((x0).toUInt32 >>> (((1 : Int32)).toUInt32 &&& Int32.toUInt32 31)).toInt32 &&& (1431655765 : Int32))) &&& (858993459 : Int32)) + ((((x0 - (((x0).toUInt32 >>> (((1 : Int32)).toUInt32 &&& Int32.toUInt32 31)).toInt32 &&& (1431655765 : Int32)))).toUInt32 >>> (((2 : Int32)).toUInt32 &&& Int32.toUInt32 31)).toInt32 &&& (858993459 : Int32))) + (((((x0 - (((x0).toUInt32 >>> (((1 : Int32)).toUInt32 &&& Int32.toUInt32 31)).toInt32 &&& (1431655765 : Int32))) &&& (858993459 : Int32)) + ((((x0 - (((x0).toUInt32 >>> (((1 : Int32)).toUInt32 &&& Int32.toUInt32 31)).toInt32 &&& (1431655765 : Int32)))).toUInt32 >>> (((2 : Int32)).toUInt32 &&& Int32.toUInt32 31)).toInt32 &&& (858993459 : Int32)))).toUInt32 >>> (((4 : Int32)).toUInt32 &&& Int32.toUInt32 31)).toInt32) &&& (252645135 : Int32)) + (((((((x0 - (((x0).toUInt32 >>> (((1 : Int32)).toUInt32 &&& Int32.toUInt32 31)).toInt32 &&& (1431655765 : Int32))) &&& (858993459 : Int32)) + ((((x0 - (((x0).toUInt32 >>> (((1 : Int32)).toUInt32 &&& Int32.toUInt32 31)).toInt32 &&& (1431655765 : Int32)))).toUInt32 >>> (((2 : Int32)).toUInt32 &&& Int32.toUInt32 31)).toInt32 &&& (858993459 : Int32))) + (((((x0 - (((x0).toUInt32 >>> (((1 : Int32)).toUInt32 &&& Int32.toUInt32 31)).toInt32 &&& (1431655765 : Int32))) &&& (858993459 : Int32)) + ((((x0 - (((x0).toUInt32 >>> (((1 : Int32)).toUInt32 &&& Int32.toUInt32 31)).toInt32 &&& (1431655765 : Int32)))).toUInt32 >>> (((2 : Int32)).toUInt32 &&& Int32.toUInt32 31)).toInt32 &&& (858993459 : Int32)))).toUInt32 >>> (((4 : Int32)).toUInt32 &&& Int32.toUInt32 31)).toInt32) &&& (252645135 : Int32))).toUInt32 >>> (((8 : Int32)).toUInt32 &&& Int32.toUInt32 31)).toInt32) + ((((((((x0 - (((x0).toUInt32 >>> (((1 : Int32)).toUInt32 &&& Int32.toUInt32 31)).toInt32 &&& (1431655765 : Int32))) &&& (858993459 : Int32)) + ((((x0 - (((x0).toUInt32 >>> (((1 : Int32)).toUInt32 &&& Int32.toUInt32 31)).toInt32 &&& (1431655765 : Int32)))).toUInt32 >>> (((2 : Int32)).toUInt32 &&& Int32.toUInt32 31)).toInt32 &&& (858993459 : Int32))) + (((((x0 - (((x0).toUInt32 >>> (((1 : Int32)).toUInt32 &&& Int32.toUInt32 31)).toInt32 &&& (1431655765 : Int32))) &&& (858993459 : Int32)) + ((((x0 - (((x0).toUInt32 >>> (((1 : Int32)).toUInt32 &&& Int32.toUInt32 31)).toInt32 &&& (1431655765 : Int32)))).toUInt32 >>> (((2 : Int32)).toUInt32 &&& Int32.toUInt32 31)).toInt32 &&& (858993459 : Int32)))).toUInt32 >>> (((4 : Int32)).toUInt32 &&& Int32.toUInt32 31)).toInt32) &&& (252645135 : Int32)) + (((((((x0 - (((x0).toUInt32 >>> (((1 : Int32)).toUInt32 &&& Int32.toUInt32 31)).toInt32 &&& (1431655765 : Int32))) &&& (858993459 : Int32)) + ((((x0 - (((x0).toUInt32 >>> (((1 : Int32)).toUInt32 &&& Int32.toUInt32 31)).toInt32 &&& (1431655765 : Int32)))).toUInt32 >>> (((2 : Int32)).toUInt32 &&& Int32.toUInt32 31)).toInt32 &&& (858993459 : Int32))) + (((((x0 - (((x0).toUInt32 >>> (((1 : Int32)).toUInt32 &&& Int32.toUInt32 31)).toInt32 &&& (1431655765 : Int32))) &&& (858993459 : Int32)) + ((((x0 - (((x0).toUInt32 >>> (((1 : Int32)).toUInt32 &&& Int32.toUInt32 31)).toInt32 &&& (1431655765 : Int32)))).toUInt32 >>> (((2 : Int32)).toUInt32 &&& Int32.toUInt32 31)).toInt32 &&& (858993459 : Int32)))).toUInt32 >>> (((4 : Int32)).toUInt32 &&& Int32.toUInt32 31)).toInt32) &&& (252645135 : Int32))).toUInt32 >>> (((8 : Int32)).toUInt32 &&& Int32.toUInt32 31)).toInt32)).toUInt32 >>> (((16 : Int32)).toUInt32 &&& Int32.toUInt32 31)).toInt32) &&& (63 : Int32)))
set_option maxRecDepth 100000 in
set_option maxHeartbeats 4000000 in
theorem s_J6_bitCount_0f7a4 {G : GP} {c d : Nat} {I : Hi} {L : Hl} {x0 : Int32} {p : Int32} (h : f_J6_bitCount_0f7a4 x0 = some p) : CD G mi_J6_bitCount_0f7a4 [.int x0] S0 I (R0 c d) L (some (.int p)) S0 I (R0 c d) L := by
  refine CD.intro 0 rfl (by decide) rfl fun X hX hZ => ?_
  rw [f_J6_bitCount_0f7a4] at h
  show AW G X 0 0 S0 I (R0 c d) L 0 [.int x0] []
  refine aw_iload_n (pc := 0) hX 0 dJ6_bitCount_0f7a4_0 rfl rfl ?_
  refine aw_iload_n (pc := 1) hX 0 dJ6_bitCount_0f7a4_1 rfl rfl ?_
  refine aw_iconst (pc := 2) hX (1 : Int32) dJ6_bitCount_0f7a4_2 (by decide) ?_
  refine aw_iushr (pc := 3) hX dJ6_bitCount_0f7a4_3 ?_
  refine aw_ldcw (pc := 4) hX dJ6_bitCount_0f7a4_4 v_J6_265 ?_
  refine aw_iand (pc := 7) hX dJ6_bitCount_0f7a4_7 ?_
  refine aw_isub (pc := 8) hX dJ6_bitCount_0f7a4_8 ?_
  refine aw_istore_nE (pc := 9) hX 0 [.int (x0 - (((x0).toUInt32 >>> (((1 : Int32)).toUInt32 &&& Int32.toUInt32 31)).toInt32 &&& (1431655765 : Int32)))] dJ6_bitCount_0f7a4_9 rfl (by decide) rfl rfl ?_
  refine aw_iload_n (pc := 10) hX 0 dJ6_bitCount_0f7a4_10 rfl rfl ?_
  refine aw_ldcw (pc := 11) hX dJ6_bitCount_0f7a4_11 v_J6_266 ?_
  refine aw_iand (pc := 14) hX dJ6_bitCount_0f7a4_14 ?_
  refine aw_iload_n (pc := 15) hX 0 dJ6_bitCount_0f7a4_15 rfl rfl ?_
  refine aw_iconst (pc := 16) hX (2 : Int32) dJ6_bitCount_0f7a4_16 (by decide) ?_
  refine aw_iushr (pc := 17) hX dJ6_bitCount_0f7a4_17 ?_
  refine aw_ldcw (pc := 18) hX dJ6_bitCount_0f7a4_18 v_J6_266 ?_
  refine aw_iand (pc := 21) hX dJ6_bitCount_0f7a4_21 ?_
  refine aw_iadd (pc := 22) hX dJ6_bitCount_0f7a4_22 ?_
  refine aw_istore_nE (pc := 23) hX 0 [.int (((x0 - (((x0).toUInt32 >>> (((1 : Int32)).toUInt32 &&& Int32.toUInt32 31)).toInt32 &&& (1431655765 : Int32))) &&& (858993459 : Int32)) + ((((x0 - (((x0).toUInt32 >>> (((1 : Int32)).toUInt32 &&& Int32.toUInt32 31)).toInt32 &&& (1431655765 : Int32)))).toUInt32 >>> (((2 : Int32)).toUInt32 &&& Int32.toUInt32 31)).toInt32 &&& (858993459 : Int32)))] dJ6_bitCount_0f7a4_23 rfl (by decide) rfl rfl ?_
  refine aw_iload_n (pc := 24) hX 0 dJ6_bitCount_0f7a4_24 rfl rfl ?_
  refine aw_iload_n (pc := 25) hX 0 dJ6_bitCount_0f7a4_25 rfl rfl ?_
  refine aw_iconst (pc := 26) hX (4 : Int32) dJ6_bitCount_0f7a4_26 (by decide) ?_
  refine aw_iushr (pc := 27) hX dJ6_bitCount_0f7a4_27 ?_
  refine aw_iadd (pc := 28) hX dJ6_bitCount_0f7a4_28 ?_
  refine aw_ldcw (pc := 29) hX dJ6_bitCount_0f7a4_29 v_J6_267 ?_
  refine aw_iand (pc := 32) hX dJ6_bitCount_0f7a4_32 ?_
  refine aw_istore_nE (pc := 33) hX 0 [.int (((((x0 - (((x0).toUInt32 >>> (((1 : Int32)).toUInt32 &&& Int32.toUInt32 31)).toInt32 &&& (1431655765 : Int32))) &&& (858993459 : Int32)) + ((((x0 - (((x0).toUInt32 >>> (((1 : Int32)).toUInt32 &&& Int32.toUInt32 31)).toInt32 &&& (1431655765 : Int32)))).toUInt32 >>> (((2 : Int32)).toUInt32 &&& Int32.toUInt32 31)).toInt32 &&& (858993459 : Int32))) + (((((x0 - (((x0).toUInt32 >>> (((1 : Int32)).toUInt32 &&& Int32.toUInt32 31)).toInt32 &&& (1431655765 : Int32))) &&& (858993459 : Int32)) + ((((x0 - (((x0).toUInt32 >>> (((1 : Int32)).toUInt32 &&& Int32.toUInt32 31)).toInt32 &&& (1431655765 : Int32)))).toUInt32 >>> (((2 : Int32)).toUInt32 &&& Int32.toUInt32 31)).toInt32 &&& (858993459 : Int32)))).toUInt32 >>> (((4 : Int32)).toUInt32 &&& Int32.toUInt32 31)).toInt32) &&& (252645135 : Int32))] dJ6_bitCount_0f7a4_33 rfl (by decide) rfl rfl ?_
  refine aw_iload_n (pc := 34) hX 0 dJ6_bitCount_0f7a4_34 rfl rfl ?_
  refine aw_iload_n (pc := 35) hX 0 dJ6_bitCount_0f7a4_35 rfl rfl ?_
  refine aw_bipush (pc := 36) hX (8 : Int32) dJ6_bitCount_0f7a4_36 (by decide) ?_
  refine aw_iushr (pc := 38) hX dJ6_bitCount_0f7a4_38 ?_
  refine aw_iadd (pc := 39) hX dJ6_bitCount_0f7a4_39 ?_
  refine aw_istore_nE (pc := 40) hX 0 [.int ((((((x0 - (((x0).toUInt32 >>> (((1 : Int32)).toUInt32 &&& Int32.toUInt32 31)).toInt32 &&& (1431655765 : Int32))) &&& (858993459 : Int32)) + ((((x0 - (((x0).toUInt32 >>> (((1 : Int32)).toUInt32 &&& Int32.toUInt32 31)).toInt32 &&& (1431655765 : Int32)))).toUInt32 >>> (((2 : Int32)).toUInt32 &&& Int32.toUInt32 31)).toInt32 &&& (858993459 : Int32))) + (((((x0 - (((x0).toUInt32 >>> (((1 : Int32)).toUInt32 &&& Int32.toUInt32 31)).toInt32 &&& (1431655765 : Int32))) &&& (858993459 : Int32)) + ((((x0 - (((x0).toUInt32 >>> (((1 : Int32)).toUInt32 &&& Int32.toUInt32 31)).toInt32 &&& (1431655765 : Int32)))).toUInt32 >>> (((2 : Int32)).toUInt32 &&& Int32.toUInt32 31)).toInt32 &&& (858993459 : Int32)))).toUInt32 >>> (((4 : Int32)).toUInt32 &&& Int32.toUInt32 31)).toInt32) &&& (252645135 : Int32)) + (((((((x0 - (((x0).toUInt32 >>> (((1 : Int32)).toUInt32 &&& Int32.toUInt32 31)).toInt32 &&& (1431655765 : Int32))) &&& (858993459 : Int32)) + ((((x0 - (((x0).toUInt32 >>> (((1 : Int32)).toUInt32 &&& Int32.toUInt32 31)).toInt32 &&& (1431655765 : Int32)))).toUInt32 >>> (((2 : Int32)).toUInt32 &&& Int32.toUInt32 31)).toInt32 &&& (858993459 : Int32))) + (((((x0 - (((x0).toUInt32 >>> (((1 : Int32)).toUInt32 &&& Int32.toUInt32 31)).toInt32 &&& (1431655765 : Int32))) &&& (858993459 : Int32)) + ((((x0 - (((x0).toUInt32 >>> (((1 : Int32)).toUInt32 &&& Int32.toUInt32 31)).toInt32 &&& (1431655765 : Int32)))).toUInt32 >>> (((2 : Int32)).toUInt32 &&& Int32.toUInt32 31)).toInt32 &&& (858993459 : Int32)))).toUInt32 >>> (((4 : Int32)).toUInt32 &&& Int32.toUInt32 31)).toInt32) &&& (252645135 : Int32))).toUInt32 >>> (((8 : Int32)).toUInt32 &&& Int32.toUInt32 31)).toInt32)] dJ6_bitCount_0f7a4_40 rfl (by decide) rfl rfl ?_
  refine aw_iload_n (pc := 41) hX 0 dJ6_bitCount_0f7a4_41 rfl rfl ?_
  refine aw_iload_n (pc := 42) hX 0 dJ6_bitCount_0f7a4_42 rfl rfl ?_
  refine aw_bipush (pc := 43) hX (16 : Int32) dJ6_bitCount_0f7a4_43 (by decide) ?_
  refine aw_iushr (pc := 45) hX dJ6_bitCount_0f7a4_45 ?_
  refine aw_iadd (pc := 46) hX dJ6_bitCount_0f7a4_46 ?_
  refine aw_istore_nE (pc := 47) hX 0 [.int (((((((x0 - (((x0).toUInt32 >>> (((1 : Int32)).toUInt32 &&& Int32.toUInt32 31)).toInt32 &&& (1431655765 : Int32))) &&& (858993459 : Int32)) + ((((x0 - (((x0).toUInt32 >>> (((1 : Int32)).toUInt32 &&& Int32.toUInt32 31)).toInt32 &&& (1431655765 : Int32)))).toUInt32 >>> (((2 : Int32)).toUInt32 &&& Int32.toUInt32 31)).toInt32 &&& (858993459 : Int32))) + (((((x0 - (((x0).toUInt32 >>> (((1 : Int32)).toUInt32 &&& Int32.toUInt32 31)).toInt32 &&& (1431655765 : Int32))) &&& (858993459 : Int32)) + ((((x0 - (((x0).toUInt32 >>> (((1 : Int32)).toUInt32 &&& Int32.toUInt32 31)).toInt32 &&& (1431655765 : Int32)))).toUInt32 >>> (((2 : Int32)).toUInt32 &&& Int32.toUInt32 31)).toInt32 &&& (858993459 : Int32)))).toUInt32 >>> (((4 : Int32)).toUInt32 &&& Int32.toUInt32 31)).toInt32) &&& (252645135 : Int32)) + (((((((x0 - (((x0).toUInt32 >>> (((1 : Int32)).toUInt32 &&& Int32.toUInt32 31)).toInt32 &&& (1431655765 : Int32))) &&& (858993459 : Int32)) + ((((x0 - (((x0).toUInt32 >>> (((1 : Int32)).toUInt32 &&& Int32.toUInt32 31)).toInt32 &&& (1431655765 : Int32)))).toUInt32 >>> (((2 : Int32)).toUInt32 &&& Int32.toUInt32 31)).toInt32 &&& (858993459 : Int32))) + (((((x0 - (((x0).toUInt32 >>> (((1 : Int32)).toUInt32 &&& Int32.toUInt32 31)).toInt32 &&& (1431655765 : Int32))) &&& (858993459 : Int32)) + ((((x0 - (((x0).toUInt32 >>> (((1 : Int32)).toUInt32 &&& Int32.toUInt32 31)).toInt32 &&& (1431655765 : Int32)))).toUInt32 >>> (((2 : Int32)).toUInt32 &&& Int32.toUInt32 31)).toInt32 &&& (858993459 : Int32)))).toUInt32 >>> (((4 : Int32)).toUInt32 &&& Int32.toUInt32 31)).toInt32) &&& (252645135 : Int32))).toUInt32 >>> (((8 : Int32)).toUInt32 &&& Int32.toUInt32 31)).toInt32) + ((((((((x0 - (((x0).toUInt32 >>> (((1 : Int32)).toUInt32 &&& Int32.toUInt32 31)).toInt32 &&& (1431655765 : Int32))) &&& (858993459 : Int32)) + ((((x0 - (((x0).toUInt32 >>> (((1 : Int32)).toUInt32 &&& Int32.toUInt32 31)).toInt32 &&& (1431655765 : Int32)))).toUInt32 >>> (((2 : Int32)).toUInt32 &&& Int32.toUInt32 31)).toInt32 &&& (858993459 : Int32))) + (((((x0 - (((x0).toUInt32 >>> (((1 : Int32)).toUInt32 &&& Int32.toUInt32 31)).toInt32 &&& (1431655765 : Int32))) &&& (858993459 : Int32)) + ((((x0 - (((x0).toUInt32 >>> (((1 : Int32)).toUInt32 &&& Int32.toUInt32 31)).toInt32 &&& (1431655765 : Int32)))).toUInt32 >>> (((2 : Int32)).toUInt32 &&& Int32.toUInt32 31)).toInt32 &&& (858993459 : Int32)))).toUInt32 >>> (((4 : Int32)).toUInt32 &&& Int32.toUInt32 31)).toInt32) &&& (252645135 : Int32)) + (((((((x0 - (((x0).toUInt32 >>> (((1 : Int32)).toUInt32 &&& Int32.toUInt32 31)).toInt32 &&& (1431655765 : Int32))) &&& (858993459 : Int32)) + ((((x0 - (((x0).toUInt32 >>> (((1 : Int32)).toUInt32 &&& Int32.toUInt32 31)).toInt32 &&& (1431655765 : Int32)))).toUInt32 >>> (((2 : Int32)).toUInt32 &&& Int32.toUInt32 31)).toInt32 &&& (858993459 : Int32))) + (((((x0 - (((x0).toUInt32 >>> (((1 : Int32)).toUInt32 &&& Int32.toUInt32 31)).toInt32 &&& (1431655765 : Int32))) &&& (858993459 : Int32)) + ((((x0 - (((x0).toUInt32 >>> (((1 : Int32)).toUInt32 &&& Int32.toUInt32 31)).toInt32 &&& (1431655765 : Int32)))).toUInt32 >>> (((2 : Int32)).toUInt32 &&& Int32.toUInt32 31)).toInt32 &&& (858993459 : Int32)))).toUInt32 >>> (((4 : Int32)).toUInt32 &&& Int32.toUInt32 31)).toInt32) &&& (252645135 : Int32))).toUInt32 >>> (((8 : Int32)).toUInt32 &&& Int32.toUInt32 31)).toInt32)).toUInt32 >>> (((16 : Int32)).toUInt32 &&& Int32.toUInt32 31)).toInt32)] dJ6_bitCount_0f7a4_47 rfl (by decide) rfl rfl ?_
  refine aw_iload_n (pc := 48) hX 0 dJ6_bitCount_0f7a4_48 rfl rfl ?_
  refine aw_bipush (pc := 49) hX (63 : Int32) dJ6_bitCount_0f7a4_49 (by decide) ?_
  refine aw_iand (pc := 51) hX dJ6_bitCount_0f7a4_51 ?_
  have e := Option.some.inj h
  subst e
  exact aw_iret hX hZ dJ6_bitCount_0f7a4_52 rfl rfl rfl rfl rfl rfl rfl (Nat.le_refl _)
def b_X0_coversAll_2 (a0 : Nat) (I : Hi)  : Nat → Int32 → Int32 → Option (Bool)
  | 0, _, _ => none
  | n + 1, x1, x2 => if (I (a0) 6) ≤ x2 then (some (true)) else ((f_X0_leavesThatLet (a0) I x2).bind fun r12 => if (r12 &&& x1) = (0 : Int32) then (some (false)) else (b_X0_coversAll_2 a0 I n x1 (x2 + 1)))
set_option maxRecDepth 100000 in
set_option maxHeartbeats 4000000 in
theorem t_X0_coversAll_2 {G : GP} {X : CX} (hX : XOK G X mi_X0_coversAll) {a0 : Nat} (ha0 : isC a0) {c d : Nat} {I : Hi} {L : Hl} {p : Bool} (hZ : XZ G X mi_X0_coversAll (some (.int (bI p))) S0 I (R0 c d) L) : ∀ (n : Nat) (x1 : Int32) (x2 : Int32), b_X0_coversAll_2 a0 I n x1 x2 = some p → AW G X 0 0 S0 I (R0 c d) L 2 [.ref a0, .int x1, .int x2] [] := by
  intro n
  induction n with
  | zero => intro x1 x2 h; cases h
  | succ n ih =>
    intro x1 x2 h
    rw [b_X0_coversAll_2] at h
    refine aw_iload_n (pc := 2) hX 2 dX0_coversAll_2 rfl rfl ?_
    refine aw_aload_n (pc := 3) hX 0 dX0_coversAll_3 rfl rfl ?_
    refine aw_getI (pc := 4) hX dX0_coversAll_4 f_X0_31 rfl (csh0 ha0) ?_
    refine aw_icmp_ge (pc := 7) hX 28 dX0_coversAll_7 rfl (fun hc7 => ?_) (fun hc7 => ?_)
    · have h := ite_t h hc7
      refine aw_iconst (pc := 28) hX (1 : Int32) dX0_coversAll_28 (by decide) ?_
      have e := Option.some.inj h
      subst e
      exact aw_zret hX hZ dX0_coversAll_29 rfl (bI01 _) rfl rfl rfl rfl rfl rfl (Nat.le_refl _)
    · have h := ite_f h hc7
      refine aw_aload_n (pc := 10) hX 0 dX0_coversAll_10 rfl rfl ?_
      refine aw_iload_n (pc := 11) hX 2 dX0_coversAll_11 rfl rfl ?_
      obtain ⟨r12, hq12, h⟩ := bind_s h
      refine aw_V1i (pc := 12) hX h_X0_leavesThatLet l_X0_67 dX0_coversAll_12 (csh0 ha0) (by decide) (by rfl) rfl rfl rfl (Nat.le_of_ble_eq_true rfl) (s_X0_leavesThatLet ha0 hq12) ?_
      refine aw_iload_n (pc := 15) hX 1 dX0_coversAll_15 rfl rfl ?_
      refine aw_iand (pc := 16) hX dX0_coversAll_16 ?_
      refine aw_if_ne (pc := 17) hX 22 dX0_coversAll_17 rfl (fun hc17 => ?_) (fun hc17 => ?_)
      · have h := ite_f h hc17
        refine aw_iincE (pc := 22) hX (x2 + 1) [.ref a0, .int x1, .int (x2 + 1)] dX0_coversAll_22 rfl rfl (by decide) rfl rfl ?_
        refine aw_goto (pc := 25) hX 2 dX0_coversAll_25 rfl ?_
        exact AW.lo (ih x1 (x2 + 1)  h) (And.intro (Or.inr rfl) (And.intro (Or.inr rfl) (And.intro (Or.inr rfl) trivial)))
      · have h := ite_t h hc17
        refine aw_iconst (pc := 20) hX (0 : Int32) dX0_coversAll_20 (by decide) ?_
        have e := Option.some.inj h
        subst e
        exact aw_zret hX hZ dX0_coversAll_21 rfl (bI01 _) rfl rfl rfl rfl rfl rfl (Nat.le_refl _)
def f_X0_coversAll (a0 : Nat) (I : Hi) (x1 : Int32) : Option (Bool) := b_X0_coversAll_2 a0 I 2000 x1 (0 : Int32)
set_option maxRecDepth 100000 in
set_option maxHeartbeats 4000000 in
theorem s_X0_coversAll {G : GP} {a0 : Nat} (ha0 : isC a0) {c d : Nat} {I : Hi} {L : Hl} {x1 : Int32} {p : Bool} (h : f_X0_coversAll a0 I x1 = some p) : CD G mi_X0_coversAll [.ref a0, .int x1] S0 I (R0 c d) L (some (.int (bI p))) S0 I (R0 c d) L := by
  refine CD.intro 1 rfl (by decide) rfl fun X hX hZ => ?_
  rw [f_X0_coversAll] at h
  show AW G X 0 0 S0 I (R0 c d) L 0 [.ref a0, .int x1, .null] []
  refine aw_iconst (pc := 0) hX (0 : Int32) dX0_coversAll_0 (by decide) ?_
  refine aw_istore_nE (pc := 1) hX 2 [.ref a0, .int x1, .int (0 : Int32)] dX0_coversAll_1 rfl (by decide) rfl rfl ?_
  exact AW.lo (t_X0_coversAll_2 hX ha0 hZ 2000 x1 (0 : Int32) h) (And.intro (Or.inr rfl) (And.intro (Or.inr rfl) (And.intro (Or.inr rfl) trivial)))
def b_X0_cover_45 (a0 : Nat) (I : Hi) (k12 : Int32 → Int32 → Int32 → Option (Int32)) (x1 : Int32) (x2 : Int32) (x3 : Int32) : Option (Int32) := k12 x1 x2 (x3 + 1)
set_option maxRecDepth 100000 in
set_option maxHeartbeats 4000000 in
theorem t_X0_cover_45 {G : GP} {X : CX} (hX : XOK G X mi_X0_cover) {a0 : Nat} (ha0 : isC a0) {c d : Nat} {I : Hi} {L : Hl} {p : Int32} (hZ : XZ G X mi_X0_cover (some (.int p)) S0 I (R0 c d) L) {k12 : Int32 → Int32 → Int32 → Option (Int32)} (hk12 : ∀ (x1 : Int32) (x2 : Int32) (x3 : Int32), k12 x1 x2 x3 = some p → AW G X 0 0 S0 I (R0 c d) L 12 [.ref a0, .int x1, .int x2, .int x3] []) (x1 : Int32) (x2 : Int32) (x3 : Int32) (h : b_X0_cover_45 a0 I k12 x1 x2 x3 = some p) : AW G X 0 0 S0 I (R0 c d) L 45 [.ref a0, .int x1, .int x2, .int x3] [] := by
  rw [b_X0_cover_45] at h
  refine aw_iincE (pc := 45) hX (x3 + 1) [.ref a0, .int x1, .int x2, .int (x3 + 1)] dX0_cover_45 rfl rfl (by decide) rfl rfl ?_
  refine aw_goto (pc := 48) hX 12 dX0_cover_48 rfl ?_
  exact AW.lo (hk12 x1 x2 (x3 + 1)  h) (And.intro (Or.inr rfl) (And.intro (Or.inr rfl) (And.intro (Or.inr rfl) (And.intro (Or.inr rfl) trivial))))
def b_X0_cover_12 (a0 : Nat) (I : Hi)  : Nat → Int32 → Int32 → Int32 → Option (Int32)
  | 0, _, _, _ => none
  | n + 1, x1, x2, x3 => if ((1 : Int32) <<< ((I (a0) 5) &&& 31)) ≤ x3 then (some (x1)) else ((f_J6_bitCount_0f7a4 x3).bind fun r23 => if x2 ≤ r23 then (b_X0_cover_45 a0 I (b_X0_cover_12 a0 I n) x1 x2 x3) else ((f_X0_coversAll (a0) I x3).bind fun r32 => if r32 = true then ((f_J6_bitCount_0f7a4 x3).bind fun r41 => b_X0_cover_45 a0 I (b_X0_cover_12 a0 I n) x3 r41 x3) else (b_X0_cover_45 a0 I (b_X0_cover_12 a0 I n) x1 x2 x3)))
set_option maxRecDepth 100000 in
set_option maxHeartbeats 4000000 in
theorem t_X0_cover_12 {G : GP} {X : CX} (hX : XOK G X mi_X0_cover) {a0 : Nat} (ha0 : isC a0) {c d : Nat} {I : Hi} {L : Hl} {p : Int32} (hZ : XZ G X mi_X0_cover (some (.int p)) S0 I (R0 c d) L) : ∀ (n : Nat) (x1 : Int32) (x2 : Int32) (x3 : Int32), b_X0_cover_12 a0 I n x1 x2 x3 = some p → AW G X 0 0 S0 I (R0 c d) L 12 [.ref a0, .int x1, .int x2, .int x3] [] := by
  intro n
  induction n with
  | zero => intro x1 x2 x3 h; cases h
  | succ n ih =>
    intro x1 x2 x3 h
    rw [b_X0_cover_12] at h
    refine aw_iload_n (pc := 12) hX 3 dX0_cover_12 rfl rfl ?_
    refine aw_iconst (pc := 13) hX (1 : Int32) dX0_cover_13 (by decide) ?_
    refine aw_aload_n (pc := 14) hX 0 dX0_cover_14 rfl rfl ?_
    refine aw_getI (pc := 15) hX dX0_cover_15 f_X0_27 rfl (csh0 ha0) ?_
    refine aw_ishl (pc := 18) hX dX0_cover_18 ?_
    refine aw_icmp_ge (pc := 19) hX 51 dX0_cover_19 rfl (fun hc19 => ?_) (fun hc19 => ?_)
    · have h := ite_t h hc19
      refine aw_iload_n (pc := 51) hX 1 dX0_cover_51 rfl rfl ?_
      have e := Option.some.inj h
      subst e
      exact aw_iret hX hZ dX0_cover_52 rfl rfl rfl rfl rfl rfl rfl (Nat.le_refl _)
    · have h := ite_f h hc19
      refine aw_iload_n (pc := 22) hX 3 dX0_cover_22 rfl rfl ?_
      obtain ⟨r23, hq23, h⟩ := bind_s h
      refine aw_S1i (pc := 23) hX h_J6_bitCount_0f7a4 l_X0_58 dX0_cover_23 rfl rfl rfl (Nat.le_of_ble_eq_true rfl) (s_J6_bitCount_0f7a4  hq23) ?_
      refine aw_iload_n (pc := 26) hX 2 dX0_cover_26 rfl rfl ?_
      refine aw_icmp_ge (pc := 27) hX 45 dX0_cover_27 rfl (fun hc27 => ?_) (fun hc27 => ?_)
      · have h := ite_t h hc27
        exact AW.lo (t_X0_cover_45 hX ha0 hZ (ih) x1 x2 x3 h) (And.intro (Or.inr rfl) (And.intro (Or.inr rfl) (And.intro (Or.inr rfl) (And.intro (Or.inr rfl) trivial))))
      · have h := ite_f h hc27
        refine aw_aload_n (pc := 30) hX 0 dX0_cover_30 rfl rfl ?_
        refine aw_iload_n (pc := 31) hX 3 dX0_cover_31 rfl rfl ?_
        obtain ⟨r32, hq32, h⟩ := bind_s h
        refine aw_V1i (pc := 32) hX h_X0_coversAll l_X0_64 dX0_cover_32 (csh0 ha0) (by decide) (by rfl) rfl rfl rfl (Nat.le_of_ble_eq_true rfl) (s_X0_coversAll ha0 hq32) ?_
        refine aw_if_eq (pc := 35) hX 45 dX0_cover_35 rfl (fun hc35 => ?_) (fun hc35 => ?_)
        · have h := ite_f h (bI0 hc35)
          exact AW.lo (t_X0_cover_45 hX ha0 hZ (ih) x1 x2 x3 h) (And.intro (Or.inr rfl) (And.intro (Or.inr rfl) (And.intro (Or.inr rfl) (And.intro (Or.inr rfl) trivial))))
        · have h := ite_t h (bI1 hc35)
          refine aw_iload_n (pc := 38) hX 3 dX0_cover_38 rfl rfl ?_
          refine aw_istore_nE (pc := 39) hX 1 [.ref a0, .int x3, .int x2, .int x3] dX0_cover_39 rfl (by decide) rfl rfl ?_
          refine aw_iload_n (pc := 40) hX 3 dX0_cover_40 rfl rfl ?_
          obtain ⟨r41, hq41, h⟩ := bind_s h
          refine aw_S1i (pc := 41) hX h_J6_bitCount_0f7a4 l_X0_58 dX0_cover_41 rfl rfl rfl (Nat.le_of_ble_eq_true rfl) (s_J6_bitCount_0f7a4  hq41) ?_
          refine aw_istore_nE (pc := 44) hX 2 [.ref a0, .int x3, .int r41, .int x3] dX0_cover_44 rfl (by decide) rfl rfl ?_
          exact AW.lo (t_X0_cover_45 hX ha0 hZ (ih) x3 r41 x3 h) (And.intro (Or.inr rfl) (And.intro (Or.inr rfl) (And.intro (Or.inr rfl) (And.intro (Or.inr rfl) trivial))))
def f_X0_cover (a0 : Nat) (I : Hi)  : Option (Int32) := b_X0_cover_12 a0 I 2000 (-9 : Int32) ((I (a0) 5) + (1 : Int32)) (0 : Int32)
set_option maxRecDepth 100000 in
set_option maxHeartbeats 4000000 in
theorem s_X0_cover {G : GP} {a0 : Nat} (ha0 : isC a0) {c d : Nat} {I : Hi} {L : Hl}  {p : Int32} (h : f_X0_cover a0 I = some p) : CD G mi_X0_cover [.ref a0] S0 I (R0 c d) L (some (.int p)) S0 I (R0 c d) L := by
  refine CD.intro 3 rfl (by decide) rfl fun X hX hZ => ?_
  rw [f_X0_cover] at h
  show AW G X 0 0 S0 I (R0 c d) L 0 [.ref a0, .null, .null, .null] []
  refine aw_bipush (pc := 0) hX (-9 : Int32) dX0_cover_0 (by decide) ?_
  refine aw_istore_nE (pc := 2) hX 1 [.ref a0, .int (-9 : Int32), .null, .null] dX0_cover_2 rfl (by decide) rfl rfl ?_
  refine aw_aload_n (pc := 3) hX 0 dX0_cover_3 rfl rfl ?_
  refine aw_getI (pc := 4) hX dX0_cover_4 f_X0_27 rfl (csh0 ha0) ?_
  refine aw_iconst (pc := 7) hX (1 : Int32) dX0_cover_7 (by decide) ?_
  refine aw_iadd (pc := 8) hX dX0_cover_8 ?_
  refine aw_istore_nE (pc := 9) hX 2 [.ref a0, .int (-9 : Int32), .int ((I (a0) 5) + (1 : Int32)), .null] dX0_cover_9 rfl (by decide) rfl rfl ?_
  refine aw_iconst (pc := 10) hX (0 : Int32) dX0_cover_10 (by decide) ?_
  refine aw_istore_nE (pc := 11) hX 3 [.ref a0, .int (-9 : Int32), .int ((I (a0) 5) + (1 : Int32)), .int (0 : Int32)] dX0_cover_11 rfl (by decide) rfl rfl ?_
  exact AW.lo (t_X0_cover_12 hX ha0 hZ 2000 (-9 : Int32) ((I (a0) 5) + (1 : Int32)) (0 : Int32) h) (And.intro (Or.inr rfl) (And.intro (Or.inr rfl) (And.intro (Or.inr rfl) (And.intro (Or.inr rfl) trivial))))
def f_X0_changed (a0 : Nat) (I : Hi) (x1 : Int32) (x2 : Int32) : Option (Int32) := if vinb ((x1 * (6 : Int32)) + x2) 24 then some ((I (a0 + 3) (((x1 * (6 : Int32)) + x2)).toNatClampNeg)) else none
set_option maxRecDepth 100000 in
set_option maxHeartbeats 4000000 in
theorem s_X0_changed {G : GP} {a0 : Nat} (ha0 : isC a0) {c d : Nat} {I : Hi} {L : Hl} {x1 : Int32} {x2 : Int32} {p : Int32} (h : f_X0_changed a0 I x1 x2 = some p) : CD G mi_X0_changed [.ref a0, .int x1, .int x2] S0 I (R0 c d) L (some (.int p)) S0 I (R0 c d) L := by
  refine CD.intro 0 rfl (by decide) rfl fun X hX hZ => ?_
  rw [f_X0_changed] at h
  show AW G X 0 0 S0 I (R0 c d) L 0 [.ref a0, .int x1, .int x2] []
  refine aw_aload_n (pc := 0) hX 0 dX0_changed_0 rfl rfl ?_
  refine aw_getR (pc := 1) hX dX0_changed_1 f_X0_18 rfl (csh0 ha0) (q := a0 + 3) (crf2 ha0) ?_
  refine aw_iload_n (pc := 4) hX 1 dX0_changed_4 rfl rfl ?_
  refine aw_bipush (pc := 5) hX (6 : Int32) dX0_changed_5 (by decide) ?_
  refine aw_imul (pc := 7) hX dX0_changed_7 ?_
  refine aw_iload_n (pc := 8) hX 2 dX0_changed_8 rfl rfl ?_
  refine aw_iadd (pc := 9) hX dX0_changed_9 ?_
  obtain ⟨hv10, h⟩ := ite_g h
  refine aw_iaload (pc := 10) hX dX0_changed_10 (csh3 ha0) (vinb_in hv10) ?_
  have e := Option.some.inj h
  subst e
  exact aw_iret hX hZ dX0_changed_11 rfl rfl rfl rfl rfl rfl rfl (Nat.le_refl _)
def b_X0_passedOn_23 (a0 : Nat) (I : Hi)  : Nat → Int32 → Int32 → Int32 → Option (Int32)
  | 0, _, _, _ => none
  | n + 1, x2, x3, x4 => if x2 ≤ x4 then (some (x3)) else (if (I (a0) 7) = (0 : Int32) then none else (f_X0_changed (a0) I (x4 - x4 / (I (a0) 7) * (I (a0) 7)) x3).bind fun r38 => b_X0_passedOn_23 a0 I n x2 r38 (x4 + 1))
set_option maxRecDepth 100000 in
set_option maxHeartbeats 4000000 in
theorem t_X0_passedOn_23 {G : GP} {X : CX} (hX : XOK G X mi_X0_passedOn) {a0 : Nat} (ha0 : isC a0) {c d : Nat} {I : Hi} {L : Hl} {p : Int32} (hZ : XZ G X mi_X0_passedOn (some (.int p)) S0 I (R0 c d) L) : ∀ (n : Nat) (x2 : Int32) (x3 : Int32) (x4 : Int32), b_X0_passedOn_23 a0 I n x2 x3 x4 = some p → AW G X 0 0 S0 I (R0 c d) L 23 [.ref a0, .null, .int x2, .int x3, .int x4] [] := by
  intro n
  induction n with
  | zero => intro x2 x3 x4 h; cases h
  | succ n ih =>
    intro x2 x3 x4 h
    rw [b_X0_passedOn_23] at h
    refine aw_iload (pc := 23) hX dX0_passedOn_23 rfl ?_
    refine aw_iload_n (pc := 25) hX 2 dX0_passedOn_25 rfl rfl ?_
    refine aw_icmp_ge (pc := 26) hX 48 dX0_passedOn_26 rfl (fun hc26 => ?_) (fun hc26 => ?_)
    · have h := ite_t h hc26
      refine aw_iload_n (pc := 48) hX 3 dX0_passedOn_48 rfl rfl ?_
      have e := Option.some.inj h
      subst e
      exact aw_iret hX hZ dX0_passedOn_49 rfl rfl rfl rfl rfl rfl rfl (Nat.le_refl _)
    · have h := ite_f h hc26
      refine aw_aload_n (pc := 29) hX 0 dX0_passedOn_29 rfl rfl ?_
      refine aw_iload (pc := 30) hX dX0_passedOn_30 rfl ?_
      refine aw_aload_n (pc := 32) hX 0 dX0_passedOn_32 rfl rfl ?_
      refine aw_getI (pc := 33) hX dX0_passedOn_33 f_X0_34 rfl (csh0 ha0) ?_
      obtain ⟨hne36, h⟩ := ite_n h
      refine aw_irem (pc := 36) hX dX0_passedOn_36 hne36 ?_
      refine aw_iload_n (pc := 37) hX 3 dX0_passedOn_37 rfl rfl ?_
      obtain ⟨r38, hq38, h⟩ := bind_s h
      refine aw_V2i (pc := 38) hX h_X0_changed l_X0_70 dX0_passedOn_38 (csh0 ha0) (by decide) (by rfl) rfl rfl rfl (Nat.le_of_ble_eq_true rfl) (s_X0_changed ha0 hq38) ?_
      refine aw_istore_nE (pc := 41) hX 3 [.ref a0, .null, .int x2, .int r38, .int x4] dX0_passedOn_41 rfl (by decide) rfl rfl ?_
      refine aw_iincE (pc := 42) hX (x4 + 1) [.ref a0, .null, .int x2, .int r38, .int (x4 + 1)] dX0_passedOn_42 rfl rfl (by decide) rfl rfl ?_
      refine aw_goto (pc := 45) hX 23 dX0_passedOn_45 rfl ?_
      exact AW.lo (ih x2 r38 (x4 + 1)  h) (And.intro (Or.inr rfl) (And.intro (Or.inl rfl) (And.intro (Or.inr rfl) (And.intro (Or.inr rfl) (And.intro (Or.inr rfl) trivial)))))
def f_X0_passedOn (a0 : Nat) (I : Hi) (x1 : Int32) (x2 : Int32) : Option (Int32) := if (I (a0) 7) = (0 : Int32) then (if x2 = (0 : Int32) then (some (x1)) else (some ((-9 : Int32)))) else (b_X0_passedOn_23 a0 I 2000 x2 x1 (0 : Int32))
set_option maxRecDepth 100000 in
set_option maxHeartbeats 4000000 in
theorem s_X0_passedOn {G : GP} {a0 : Nat} (ha0 : isC a0) {c d : Nat} {I : Hi} {L : Hl} {x1 : Int32} {x2 : Int32} {p : Int32} (h : f_X0_passedOn a0 I x1 x2 = some p) : CD G mi_X0_passedOn [.ref a0, .int x1, .int x2] S0 I (R0 c d) L (some (.int p)) S0 I (R0 c d) L := by
  refine CD.intro 2 rfl (by decide) rfl fun X hX hZ => ?_
  rw [f_X0_passedOn] at h
  show AW G X 0 0 S0 I (R0 c d) L 0 [.ref a0, .int x1, .int x2, .null, .null] []
  refine aw_aload_n (pc := 0) hX 0 dX0_passedOn_0 rfl rfl ?_
  refine aw_getI (pc := 1) hX dX0_passedOn_1 f_X0_34 rfl (csh0 ha0) ?_
  refine aw_if_ne (pc := 4) hX 18 dX0_passedOn_4 rfl (fun hc4 => ?_) (fun hc4 => ?_)
  · have h := ite_f h hc4
    refine aw_iload_n (pc := 18) hX 1 dX0_passedOn_18 rfl rfl ?_
    refine aw_istore_nE (pc := 19) hX 3 [.ref a0, .int x1, .int x2, .int x1, .null] dX0_passedOn_19 rfl (by decide) rfl rfl ?_
    refine aw_iconst (pc := 20) hX (0 : Int32) dX0_passedOn_20 (by decide) ?_
    refine aw_istoreE (pc := 21) hX [.ref a0, .int x1, .int x2, .int x1, .int (0 : Int32)] dX0_passedOn_21 (by decide) rfl rfl ?_
    exact AW.lo (t_X0_passedOn_23 hX ha0 hZ 2000 x2 x1 (0 : Int32) h) (And.intro (Or.inr rfl) (And.intro (Or.inl rfl) (And.intro (Or.inr rfl) (And.intro (Or.inr rfl) (And.intro (Or.inr rfl) trivial)))))
  · have h := ite_t h hc4
    refine aw_iload_n (pc := 7) hX 2 dX0_passedOn_7 rfl rfl ?_
    refine aw_if_ne (pc := 8) hX 15 dX0_passedOn_8 rfl (fun hc8 => ?_) (fun hc8 => ?_)
    · have h := ite_f h hc8
      refine aw_bipush (pc := 15) hX (-9 : Int32) dX0_passedOn_15 (by decide) ?_
      have e := Option.some.inj h
      subst e
      exact aw_iret hX hZ dX0_passedOn_17 rfl rfl rfl rfl rfl rfl rfl (Nat.le_refl _)
    · have h := ite_t h hc8
      refine aw_iload_n (pc := 11) hX 1 dX0_passedOn_11 rfl rfl ?_
      refine aw_goto (pc := 12) hX 17 dX0_passedOn_12 rfl ?_
      have e := Option.some.inj h
      subst e
      exact aw_iret hX hZ dX0_passedOn_17 rfl rfl rfl rfl rfl rfl rfl (Nat.le_refl _)
def b_X0_dayOfFriday_15 (a0 : Nat) (I : Hi)  : Nat → Int32 → Int32 → Int32 → Int32 → Int32 → Option (Int32)
  | 0, _, _, _, _, _ => none
  | n + 1, x1, x2, x3, x4, x5 => if x4 ≤ x5 then (some ((-9 : Int32))) else (if x4 = (0 : Int32) then none else if vinb x1 3 then if ((x2 + (x5 * x3)) - (x2 + (x5 * x3)) / x4 * x4) = (I (a0 + 5) (x1).toNatClampNeg) then (some ((x2 + (x5 * x3)))) else (b_X0_dayOfFriday_15 a0 I n x1 x2 x3 x4 (x5 + 1)) else none)
set_option maxRecDepth 100000 in
set_option maxHeartbeats 4000000 in
theorem t_X0_dayOfFriday_15 {G : GP} {X : CX} (hX : XOK G X mi_X0_dayOfFriday) {a0 : Nat} (ha0 : isC a0) {c d : Nat} {I : Hi} {L : Hl} {p : Int32} (hZ : XZ G X mi_X0_dayOfFriday (some (.int p)) S0 I (R0 c d) L) : ∀ (n : Nat) (x1 : Int32) (x2 : Int32) (x3 : Int32) (x4 : Int32) (x5 : Int32), b_X0_dayOfFriday_15 a0 I n x1 x2 x3 x4 x5 = some p → AW G X 0 0 S0 I (R0 c d) L 15 [.ref a0, .int x1, .int x2, .int x3, .int x4, .int x5, .null] [] := by
  intro n
  induction n with
  | zero => intro x1 x2 x3 x4 x5 h; cases h
  | succ n ih =>
    intro x1 x2 x3 x4 x5 h
    rw [b_X0_dayOfFriday_15] at h
    refine aw_iload (pc := 15) hX dX0_dayOfFriday_15 rfl ?_
    refine aw_iload (pc := 17) hX dX0_dayOfFriday_17 rfl ?_
    refine aw_icmp_ge (pc := 19) hX 53 dX0_dayOfFriday_19 rfl (fun hc19 => ?_) (fun hc19 => ?_)
    · have h := ite_t h hc19
      refine aw_bipush (pc := 53) hX (-9 : Int32) dX0_dayOfFriday_53 (by decide) ?_
      have e := Option.some.inj h
      subst e
      exact aw_iret hX hZ dX0_dayOfFriday_55 rfl rfl rfl rfl rfl rfl rfl (Nat.le_refl _)
    · have h := ite_f h hc19
      refine aw_iload_n (pc := 22) hX 2 dX0_dayOfFriday_22 rfl rfl ?_
      refine aw_iload (pc := 23) hX dX0_dayOfFriday_23 rfl ?_
      refine aw_iload_n (pc := 25) hX 3 dX0_dayOfFriday_25 rfl rfl ?_
      refine aw_imul (pc := 26) hX dX0_dayOfFriday_26 ?_
      refine aw_iadd (pc := 27) hX dX0_dayOfFriday_27 ?_
      refine aw_istoreE (pc := 28) hX [.ref a0, .int x1, .int x2, .int x3, .int x4, .int x5, .int (x2 + (x5 * x3))] dX0_dayOfFriday_28 (by decide) rfl rfl ?_
      refine aw_iload (pc := 30) hX dX0_dayOfFriday_30 rfl ?_
      refine aw_iload (pc := 32) hX dX0_dayOfFriday_32 rfl ?_
      obtain ⟨hne34, h⟩ := ite_n h
      refine aw_irem (pc := 34) hX dX0_dayOfFriday_34 hne34 ?_
      refine aw_aload_n (pc := 35) hX 0 dX0_dayOfFriday_35 rfl rfl ?_
      refine aw_getR (pc := 36) hX dX0_dayOfFriday_36 f_X0_24 rfl (csh0 ha0) (q := a0 + 5) (crf4 ha0) ?_
      refine aw_iload_n (pc := 39) hX 1 dX0_dayOfFriday_39 rfl rfl ?_
      obtain ⟨hv40, h⟩ := ite_g h
      refine aw_iaload (pc := 40) hX dX0_dayOfFriday_40 (csh5 ha0) (vinb_in hv40) ?_
      refine aw_icmp_ne (pc := 41) hX 47 dX0_dayOfFriday_41 rfl (fun hc41 => ?_) (fun hc41 => ?_)
      · have h := ite_f h hc41
        refine aw_iincE (pc := 47) hX (x5 + 1) [.ref a0, .int x1, .int x2, .int x3, .int x4, .int (x5 + 1), .int (x2 + (x5 * x3))] dX0_dayOfFriday_47 rfl rfl (by decide) rfl rfl ?_
        refine aw_goto (pc := 50) hX 15 dX0_dayOfFriday_50 rfl ?_
        exact AW.lo (ih x1 x2 x3 x4 (x5 + 1)  h) (And.intro (Or.inr rfl) (And.intro (Or.inr rfl) (And.intro (Or.inr rfl) (And.intro (Or.inr rfl) (And.intro (Or.inr rfl) (And.intro (Or.inr rfl) (And.intro (Or.inl rfl) trivial)))))))
      · have h := ite_t h hc41
        refine aw_iload (pc := 44) hX dX0_dayOfFriday_44 rfl ?_
        have e := Option.some.inj h
        subst e
        exact aw_iret hX hZ dX0_dayOfFriday_46 rfl rfl rfl rfl rfl rfl rfl (Nat.le_refl _)
def f_X0_dayOfFriday (a0 : Nat) (I : Hi) (x1 : Int32) (x2 : Int32) (x3 : Int32) : Option (Int32) := if vinb x1 3 then b_X0_dayOfFriday_15 a0 I 2000 x1 x2 x3 (jmax (1 : Int32) (I (a0 + 4) (x1).toNatClampNeg)) (0 : Int32) else none
set_option maxRecDepth 100000 in
set_option maxHeartbeats 4000000 in
theorem s_X0_dayOfFriday {G : GP} {a0 : Nat} (ha0 : isC a0) {c d : Nat} {I : Hi} {L : Hl} {x1 : Int32} {x2 : Int32} {x3 : Int32} {p : Int32} (h : f_X0_dayOfFriday a0 I x1 x2 x3 = some p) : CD G mi_X0_dayOfFriday [.ref a0, .int x1, .int x2, .int x3] S0 I (R0 c d) L (some (.int p)) S0 I (R0 c d) L := by
  refine CD.intro 3 rfl (by decide) rfl fun X hX hZ => ?_
  rw [f_X0_dayOfFriday] at h
  show AW G X 0 0 S0 I (R0 c d) L 0 [.ref a0, .int x1, .int x2, .int x3, .null, .null, .null] []
  refine aw_iconst (pc := 0) hX (1 : Int32) dX0_dayOfFriday_0 (by decide) ?_
  refine aw_aload_n (pc := 1) hX 0 dX0_dayOfFriday_1 rfl rfl ?_
  refine aw_getR (pc := 2) hX dX0_dayOfFriday_2 f_X0_21 rfl (csh0 ha0) (q := a0 + 4) (crf3 ha0) ?_
  refine aw_iload_n (pc := 5) hX 1 dX0_dayOfFriday_5 rfl rfl ?_
  obtain ⟨hv6, h⟩ := ite_g h
  refine aw_iaload (pc := 6) hX dX0_dayOfFriday_6 (csh4 ha0) (vinb_in hv6) ?_
  refine aw_max (pc := 7) hX dX0_dayOfFriday_7 l_X0_80 w_stat_J9_max_7cf53 w_ini_RJ9 w_code_J9_max_7cf53 (by decide) (Nat.le_of_ble_eq_true rfl) (Nat.le_refl _) (Nat.le_refl _) ?_
  refine aw_istoreE (pc := 10) hX [.ref a0, .int x1, .int x2, .int x3, .int (jmax (1 : Int32) (I (a0 + 4) (x1).toNatClampNeg)), .null, .null] dX0_dayOfFriday_10 (by decide) rfl rfl ?_
  refine aw_iconst (pc := 12) hX (0 : Int32) dX0_dayOfFriday_12 (by decide) ?_
  refine aw_istoreE (pc := 13) hX [.ref a0, .int x1, .int x2, .int x3, .int (jmax (1 : Int32) (I (a0 + 4) (x1).toNatClampNeg)), .int (0 : Int32), .null] dX0_dayOfFriday_13 (by decide) rfl rfl ?_
  exact AW.lo (t_X0_dayOfFriday_15 hX ha0 hZ 2000 x1 x2 x3 (jmax (1 : Int32) (I (a0 + 4) (x1).toNatClampNeg)) (0 : Int32) h) (And.intro (Or.inr rfl) (And.intro (Or.inr rfl) (And.intro (Or.inr rfl) (And.intro (Or.inr rfl) (And.intro (Or.inr rfl) (And.intro (Or.inr rfl) (And.intro (Or.inl rfl) trivial)))))))
def b_X6_greatestDivisor_34   (x2 : Int32) : Option (Int32) := some ((jmax (1 : Int32) x2))
set_option maxRecDepth 100000 in
set_option maxHeartbeats 4000000 in
theorem t_X6_greatestDivisor_34 {G : GP} {X : CX} (hX : XOK G X mi_X6_greatestDivisor) {c d : Nat} {I : Hi} {L : Hl} {p : Int32} (hZ : XZ G X mi_X6_greatestDivisor (some (.int p)) S0 I (R0 c d) L) (x2 : Int32) (h : b_X6_greatestDivisor_34 x2 = some p) : AW G X 0 0 S0 I (R0 c d) L 34 [.null, .null, .int x2, .null, .null, .null] [] := by
  rw [b_X6_greatestDivisor_34] at h
  refine aw_iconst (pc := 34) hX (1 : Int32) dX6_greatestDivisor_34 (by decide) ?_
  refine aw_iload_n (pc := 35) hX 2 dX6_greatestDivisor_35 rfl rfl ?_
  refine aw_max (pc := 36) hX dX6_greatestDivisor_36 l_X6_211 w_stat_J9_max_7cf53 w_ini_RJ9 w_code_J9_max_7cf53 (by decide) (Nat.le_of_ble_eq_true rfl) (Nat.le_refl _) (Nat.le_refl _) ?_
  have e := Option.some.inj h
  subst e
  exact aw_iret hX hZ dX6_greatestDivisor_39 rfl rfl rfl rfl rfl rfl rfl (Nat.le_refl _)
def b_X6_greatestDivisor_7   : Nat → Int32 → Int32 → Int32 → Option (Int32)
  | 0, _, _, _ => none
  | n + 1, x2, x3, x4 => if (64 : Int32) ≤ x4 then (b_X6_greatestDivisor_34 x2) else (if x3 = (0 : Int32) then (b_X6_greatestDivisor_34 x2) else (if x3 = (0 : Int32) then none else b_X6_greatestDivisor_7 n x3 (x2 - x2 / x3 * x3) (x4 + 1)))
set_option maxRecDepth 100000 in
set_option maxHeartbeats 4000000 in
theorem t_X6_greatestDivisor_7 {G : GP} {X : CX} (hX : XOK G X mi_X6_greatestDivisor) {c d : Nat} {I : Hi} {L : Hl} {p : Int32} (hZ : XZ G X mi_X6_greatestDivisor (some (.int p)) S0 I (R0 c d) L) : ∀ (n : Nat) (x2 : Int32) (x3 : Int32) (x4 : Int32), b_X6_greatestDivisor_7 n x2 x3 x4 = some p → AW G X 0 0 S0 I (R0 c d) L 7 [.null, .null, .int x2, .int x3, .int x4, .null] [] := by
  intro n
  induction n with
  | zero => intro x2 x3 x4 h; cases h
  | succ n ih =>
    intro x2 x3 x4 h
    rw [b_X6_greatestDivisor_7] at h
    refine aw_iload (pc := 7) hX dX6_greatestDivisor_7 rfl ?_
    refine aw_bipush (pc := 9) hX (64 : Int32) dX6_greatestDivisor_9 (by decide) ?_
    refine aw_icmp_ge (pc := 11) hX 34 dX6_greatestDivisor_11 rfl (fun hc11 => ?_) (fun hc11 => ?_)
    · have h := ite_t h hc11
      exact AW.lo (t_X6_greatestDivisor_34 hX hZ x2 h) (And.intro (Or.inl rfl) (And.intro (Or.inl rfl) (And.intro (Or.inr rfl) (And.intro (Or.inl rfl) (And.intro (Or.inl rfl) (And.intro (Or.inl rfl) trivial))))))
    · have h := ite_f h hc11
      refine aw_iload_n (pc := 14) hX 3 dX6_greatestDivisor_14 rfl rfl ?_
      refine aw_if_eq (pc := 15) hX 34 dX6_greatestDivisor_15 rfl (fun hc15 => ?_) (fun hc15 => ?_)
      · have h := ite_t h hc15
        exact AW.lo (t_X6_greatestDivisor_34 hX hZ x2 h) (And.intro (Or.inl rfl) (And.intro (Or.inl rfl) (And.intro (Or.inr rfl) (And.intro (Or.inl rfl) (And.intro (Or.inl rfl) (And.intro (Or.inl rfl) trivial))))))
      · have h := ite_f h hc15
        refine aw_iload_n (pc := 18) hX 2 dX6_greatestDivisor_18 rfl rfl ?_
        refine aw_iload_n (pc := 19) hX 3 dX6_greatestDivisor_19 rfl rfl ?_
        obtain ⟨hne20, h⟩ := ite_n h
        refine aw_irem (pc := 20) hX dX6_greatestDivisor_20 hne20 ?_
        refine aw_istoreE (pc := 21) hX [.null, .null, .int x2, .int x3, .int x4, .int (x2 - x2 / x3 * x3)] dX6_greatestDivisor_21 (by decide) rfl rfl ?_
        refine aw_iload_n (pc := 23) hX 3 dX6_greatestDivisor_23 rfl rfl ?_
        refine aw_istore_nE (pc := 24) hX 2 [.null, .null, .int x3, .int x3, .int x4, .int (x2 - x2 / x3 * x3)] dX6_greatestDivisor_24 rfl (by decide) rfl rfl ?_
        refine aw_iload (pc := 25) hX dX6_greatestDivisor_25 rfl ?_
        refine aw_istore_nE (pc := 27) hX 3 [.null, .null, .int x3, .int (x2 - x2 / x3 * x3), .int x4, .int (x2 - x2 / x3 * x3)] dX6_greatestDivisor_27 rfl (by decide) rfl rfl ?_
        refine aw_iincE (pc := 28) hX (x4 + 1) [.null, .null, .int x3, .int (x2 - x2 / x3 * x3), .int (x4 + 1), .int (x2 - x2 / x3 * x3)] dX6_greatestDivisor_28 rfl rfl (by decide) rfl rfl ?_
        refine aw_goto (pc := 31) hX 7 dX6_greatestDivisor_31 rfl ?_
        exact AW.lo (ih x3 (x2 - x2 / x3 * x3) (x4 + 1)  h) (And.intro (Or.inl rfl) (And.intro (Or.inl rfl) (And.intro (Or.inr rfl) (And.intro (Or.inr rfl) (And.intro (Or.inr rfl) (And.intro (Or.inl rfl) trivial))))))
def f_X6_greatestDivisor  (x0 : Int32) (x1 : Int32) : Option (Int32) := b_X6_greatestDivisor_7 2000 x0 x1 (0 : Int32)
set_option maxRecDepth 100000 in
set_option maxHeartbeats 4000000 in
theorem s_X6_greatestDivisor {G : GP} {c d : Nat} {I : Hi} {L : Hl} {x0 : Int32} {x1 : Int32} {p : Int32} (h : f_X6_greatestDivisor x0 x1 = some p) : CD G mi_X6_greatestDivisor [.int x0, .int x1] S0 I (R0 c d) L (some (.int p)) S0 I (R0 c d) L := by
  refine CD.intro 4 rfl (by decide) rfl fun X hX hZ => ?_
  rw [f_X6_greatestDivisor] at h
  show AW G X 0 0 S0 I (R0 c d) L 0 [.int x0, .int x1, .null, .null, .null, .null] []
  refine aw_iload_n (pc := 0) hX 0 dX6_greatestDivisor_0 rfl rfl ?_
  refine aw_istore_nE (pc := 1) hX 2 [.int x0, .int x1, .int x0, .null, .null, .null] dX6_greatestDivisor_1 rfl (by decide) rfl rfl ?_
  refine aw_iload_n (pc := 2) hX 1 dX6_greatestDivisor_2 rfl rfl ?_
  refine aw_istore_nE (pc := 3) hX 3 [.int x0, .int x1, .int x0, .int x1, .null, .null] dX6_greatestDivisor_3 rfl (by decide) rfl rfl ?_
  refine aw_iconst (pc := 4) hX (0 : Int32) dX6_greatestDivisor_4 (by decide) ?_
  refine aw_istoreE (pc := 5) hX [.int x0, .int x1, .int x0, .int x1, .int (0 : Int32), .null] dX6_greatestDivisor_5 (by decide) rfl rfl ?_
  exact AW.lo (t_X6_greatestDivisor_7 hX hZ 2000 x0 x1 (0 : Int32) h) (And.intro (Or.inl rfl) (And.intro (Or.inl rfl) (And.intro (Or.inr rfl) (And.intro (Or.inr rfl) (And.intro (Or.inr rfl) (And.intro (Or.inl rfl) trivial))))))
def b_X0_dayOfAllFridays_7 (a0 : Nat) (I : Hi)  : Nat → Int32 → Int32 → Int32 → Option (Int32)
  | 0, _, _, _ => none
  | n + 1, x2, x3, x4 => if (I (a0) 8) ≤ x4 then (some (x2)) else ((f_X0_dayOfFriday (a0) I x4 x2 x3).bind fun r21 => if r21 = (-9 : Int32) then (some ((-9 : Int32))) else (if vinb x4 3 then (f_X6_greatestDivisor x3 (I (a0 + 4) (x4).toNatClampNeg)).bind fun r43 => if r43 = (0 : Int32) then none else if vinb x4 3 then b_X0_dayOfAllFridays_7 a0 I n r21 ((x3 / r43) * (I (a0 + 4) (x4).toNatClampNeg)) (x4 + 1) else none else none))
set_option maxRecDepth 100000 in
set_option maxHeartbeats 4000000 in
theorem t_X0_dayOfAllFridays_7 {G : GP} {X : CX} (hX : XOK G X mi_X0_dayOfAllFridays) {a0 : Nat} (ha0 : isC a0) {c d : Nat} {I : Hi} {L : Hl} {p : Int32} (hZ : XZ G X mi_X0_dayOfAllFridays (some (.int p)) S0 I (R0 c d) L) : ∀ (n : Nat) (x2 : Int32) (x3 : Int32) (x4 : Int32), b_X0_dayOfAllFridays_7 a0 I n x2 x3 x4 = some p → AW G X 0 0 S0 I (R0 c d) L 7 [.ref a0, .null, .int x2, .int x3, .int x4] [] := by
  intro n
  induction n with
  | zero => intro x2 x3 x4 h; cases h
  | succ n ih =>
    intro x2 x3 x4 h
    rw [b_X0_dayOfAllFridays_7] at h
    refine aw_iload (pc := 7) hX dX0_dayOfAllFridays_7 rfl ?_
    refine aw_aload_n (pc := 9) hX 0 dX0_dayOfAllFridays_9 rfl rfl ?_
    refine aw_getI (pc := 10) hX dX0_dayOfAllFridays_10 f_X0_37 rfl (csh0 ha0) ?_
    refine aw_icmp_ge (pc := 13) hX 62 dX0_dayOfAllFridays_13 rfl (fun hc13 => ?_) (fun hc13 => ?_)
    · have h := ite_t h hc13
      refine aw_iload_n (pc := 62) hX 2 dX0_dayOfAllFridays_62 rfl rfl ?_
      have e := Option.some.inj h
      subst e
      exact aw_iret hX hZ dX0_dayOfAllFridays_63 rfl rfl rfl rfl rfl rfl rfl (Nat.le_refl _)
    · have h := ite_f h hc13
      refine aw_aload_n (pc := 16) hX 0 dX0_dayOfAllFridays_16 rfl rfl ?_
      refine aw_iload (pc := 17) hX dX0_dayOfAllFridays_17 rfl ?_
      refine aw_iload_n (pc := 19) hX 2 dX0_dayOfAllFridays_19 rfl rfl ?_
      refine aw_iload_n (pc := 20) hX 3 dX0_dayOfAllFridays_20 rfl rfl ?_
      obtain ⟨r21, hq21, h⟩ := bind_s h
      refine aw_V3i (pc := 21) hX h_X0_dayOfFriday l_X0_73 dX0_dayOfAllFridays_21 (csh0 ha0) (by decide) (by rfl) rfl rfl rfl (Nat.le_of_ble_eq_true rfl) (s_X0_dayOfFriday ha0 hq21) ?_
      refine aw_istore_nE (pc := 24) hX 2 [.ref a0, .null, .int r21, .int x3, .int x4] dX0_dayOfAllFridays_24 rfl (by decide) rfl rfl ?_
      refine aw_iload_n (pc := 25) hX 2 dX0_dayOfAllFridays_25 rfl rfl ?_
      refine aw_bipush (pc := 26) hX (-9 : Int32) dX0_dayOfAllFridays_26 (by decide) ?_
      refine aw_icmp_ne (pc := 28) hX 34 dX0_dayOfAllFridays_28 rfl (fun hc28 => ?_) (fun hc28 => ?_)
      · have h := ite_f h hc28
        refine aw_iload_n (pc := 34) hX 3 dX0_dayOfAllFridays_34 rfl rfl ?_
        refine aw_iload_n (pc := 35) hX 3 dX0_dayOfAllFridays_35 rfl rfl ?_
        refine aw_aload_n (pc := 36) hX 0 dX0_dayOfAllFridays_36 rfl rfl ?_
        refine aw_getR (pc := 37) hX dX0_dayOfAllFridays_37 f_X0_21 rfl (csh0 ha0) (q := a0 + 4) (crf3 ha0) ?_
        refine aw_iload (pc := 40) hX dX0_dayOfAllFridays_40 rfl ?_
        obtain ⟨hv42, h⟩ := ite_g h
        refine aw_iaload (pc := 42) hX dX0_dayOfAllFridays_42 (csh4 ha0) (vinb_in hv42) ?_
        obtain ⟨r43, hq43, h⟩ := bind_s h
        refine aw_SN2i (pc := 43) hX h_X6_greatestDivisor l_X0_77 dX0_dayOfAllFridays_43 rfl rfl rfl (Nat.le_of_ble_eq_true rfl) (s_X6_greatestDivisor  hq43) ?_
        obtain ⟨hne46, h⟩ := ite_n h
        refine aw_idiv (pc := 46) hX dX0_dayOfAllFridays_46 hne46 ?_
        refine aw_aload_n (pc := 47) hX 0 dX0_dayOfAllFridays_47 rfl rfl ?_
        refine aw_getR (pc := 48) hX dX0_dayOfAllFridays_48 f_X0_21 rfl (csh0 ha0) (q := a0 + 4) (crf3 ha0) ?_
        refine aw_iload (pc := 51) hX dX0_dayOfAllFridays_51 rfl ?_
        obtain ⟨hv53, h⟩ := ite_g h
        refine aw_iaload (pc := 53) hX dX0_dayOfAllFridays_53 (csh4 ha0) (vinb_in hv53) ?_
        refine aw_imul (pc := 54) hX dX0_dayOfAllFridays_54 ?_
        refine aw_istore_nE (pc := 55) hX 3 [.ref a0, .null, .int r21, .int ((x3 / r43) * (I (a0 + 4) (x4).toNatClampNeg)), .int x4] dX0_dayOfAllFridays_55 rfl (by decide) rfl rfl ?_
        refine aw_iincE (pc := 56) hX (x4 + 1) [.ref a0, .null, .int r21, .int ((x3 / r43) * (I (a0 + 4) (x4).toNatClampNeg)), .int (x4 + 1)] dX0_dayOfAllFridays_56 rfl rfl (by decide) rfl rfl ?_
        refine aw_goto (pc := 59) hX 7 dX0_dayOfAllFridays_59 rfl ?_
        exact AW.lo (ih r21 ((x3 / r43) * (I (a0 + 4) (x4).toNatClampNeg)) (x4 + 1)  h) (And.intro (Or.inr rfl) (And.intro (Or.inl rfl) (And.intro (Or.inr rfl) (And.intro (Or.inr rfl) (And.intro (Or.inr rfl) trivial)))))
      · have h := ite_t h hc28
        refine aw_bipush (pc := 31) hX (-9 : Int32) dX0_dayOfAllFridays_31 (by decide) ?_
        have e := Option.some.inj h
        subst e
        exact aw_iret hX hZ dX0_dayOfAllFridays_33 rfl rfl rfl rfl rfl rfl rfl (Nat.le_refl _)
def f_X0_dayOfAllFridays (a0 : Nat) (I : Hi) (x1 : Int32) : Option (Int32) := b_X0_dayOfAllFridays_7 a0 I 2000 x1 (1 : Int32) (0 : Int32)
set_option maxRecDepth 100000 in
set_option maxHeartbeats 4000000 in
theorem s_X0_dayOfAllFridays {G : GP} {a0 : Nat} (ha0 : isC a0) {c d : Nat} {I : Hi} {L : Hl} {x1 : Int32} {p : Int32} (h : f_X0_dayOfAllFridays a0 I x1 = some p) : CD G mi_X0_dayOfAllFridays [.ref a0, .int x1] S0 I (R0 c d) L (some (.int p)) S0 I (R0 c d) L := by
  refine CD.intro 3 rfl (by decide) rfl fun X hX hZ => ?_
  rw [f_X0_dayOfAllFridays] at h
  show AW G X 0 0 S0 I (R0 c d) L 0 [.ref a0, .int x1, .null, .null, .null] []
  refine aw_iload_n (pc := 0) hX 1 dX0_dayOfAllFridays_0 rfl rfl ?_
  refine aw_istore_nE (pc := 1) hX 2 [.ref a0, .int x1, .int x1, .null, .null] dX0_dayOfAllFridays_1 rfl (by decide) rfl rfl ?_
  refine aw_iconst (pc := 2) hX (1 : Int32) dX0_dayOfAllFridays_2 (by decide) ?_
  refine aw_istore_nE (pc := 3) hX 3 [.ref a0, .int x1, .int x1, .int (1 : Int32), .null] dX0_dayOfAllFridays_3 rfl (by decide) rfl rfl ?_
  refine aw_iconst (pc := 4) hX (0 : Int32) dX0_dayOfAllFridays_4 (by decide) ?_
  refine aw_istoreE (pc := 5) hX [.ref a0, .int x1, .int x1, .int (1 : Int32), .int (0 : Int32)] dX0_dayOfAllFridays_5 (by decide) rfl rfl ?_
  exact AW.lo (t_X0_dayOfAllFridays_7 hX ha0 hZ 2000 x1 (1 : Int32) (0 : Int32) h) (And.intro (Or.inr rfl) (And.intro (Or.inl rfl) (And.intro (Or.inr rfl) (And.intro (Or.inr rfl) (And.intro (Or.inr rfl) trivial)))))
def f_X3_become (a0 : Nat) (a1 : Nat) (I : Hi)  : Option (Hi) := (some (u2 I (a0) 0 (I (a1) 0))).bind fun I5 => (some (u2 I5 (a0) 1 (I5 (a1) 1))).bind fun I13 => (some (u2 I13 (a0) 2 (I13 (a1) 2))).bind fun I21 => (some (rs I21 (a0 + 1) (va_cpy (I21 (a1 + 1)) (I21 (a0 + 1)) 0 0 6))).bind fun I36 => (some (rs I36 (a0 + 2) (va_cpy (I36 (a1 + 2)) (I36 (a0 + 2)) 0 0 6))).bind fun I51 => (some (rs I51 (a0 + 3) (va_cpy (I51 (a1 + 3)) (I51 (a0 + 3)) 0 0 6))).bind fun I66 => some (I66)
set_option maxRecDepth 100000 in
set_option maxHeartbeats 4000000 in
theorem s_X3_become {G : GP} {a0 : Nat} (ha0 : isN a0) {a1 : Nat} (ha1 : isN a1) {c d : Nat} {I : Hi} {L : Hl}  {p : Hi} (h : f_X3_become a0 a1 I = some p) : CD G mi_X3_become [.ref a0, .ref a1] S0 I (R0 c d) L none S0 p (R0 c d) L := by
  refine CD.intro 0 rfl (by decide) rfl fun X hX hZ => ?_
  rw [f_X3_become] at h
  show AW G X 0 0 S0 I (R0 c d) L 0 [.ref a0, .ref a1] []
  refine aw_aload_n (pc := 0) hX 0 dX3_become_0 rfl rfl ?_
  refine aw_aload_n (pc := 1) hX 1 dX3_become_1 rfl rfl ?_
  refine aw_getI (pc := 2) hX dX3_become_2 f_X3_9 rfl (nsh0 ha1) ?_
  refine aw_putI (pc := 5) hX dX3_become_5 f_X3_9 rfl rfl (by first | rfl | decide) (by first | rfl | decide) (nsh0 ha0) ?_
  obtain ⟨I5, hi5, h⟩ := bind_s h
  refine AW.iEq hi5 ?_
  refine aw_aload_n (pc := 8) hX 0 dX3_become_8 rfl rfl ?_
  refine aw_aload_n (pc := 9) hX 1 dX3_become_9 rfl rfl ?_
  refine aw_getI (pc := 10) hX dX3_become_10 f_X3_15 rfl (nsh0 ha1) ?_
  refine aw_putI (pc := 13) hX dX3_become_13 f_X3_15 rfl rfl (by first | rfl | decide) (by first | rfl | decide) (nsh0 ha0) ?_
  obtain ⟨I13, hi13, h⟩ := bind_s h
  refine AW.iEq hi13 ?_
  refine aw_aload_n (pc := 16) hX 0 dX3_become_16 rfl rfl ?_
  refine aw_aload_n (pc := 17) hX 1 dX3_become_17 rfl rfl ?_
  refine aw_getI (pc := 18) hX dX3_become_18 f_X3_18 rfl (nsh0 ha1) ?_
  refine aw_putI (pc := 21) hX dX3_become_21 f_X3_18 rfl rfl (by first | rfl | decide) (by first | rfl | decide) (nsh0 ha0) ?_
  obtain ⟨I21, hi21, h⟩ := bind_s h
  refine AW.iEq hi21 ?_
  refine aw_aload_n (pc := 24) hX 1 dX3_become_24 rfl rfl ?_
  refine aw_getR (pc := 25) hX dX3_become_25 f_X3_21 rfl (nsh0 ha1) (q := a1 + 1) (nrf3 ha1) ?_
  refine aw_iconst (pc := 28) hX (0 : Int32) dX3_become_28 (by decide) ?_
  refine aw_aload_n (pc := 29) hX 0 dX3_become_29 rfl rfl ?_
  refine aw_getR (pc := 30) hX dX3_become_30 f_X3_21 rfl (nsh0 ha0) (q := a0 + 1) (nrf3 ha0) ?_
  refine aw_iconst (pc := 33) hX (0 : Int32) dX3_become_33 (by decide) ?_
  refine aw_bipush (pc := 34) hX (6 : Int32) dX3_become_34 (by decide) ?_
  refine aw_copy (pc := 36) hX dX3_become_36 l_X3_37 w_nat_copy w_stat_copy w_ini_System (nsh1 ha1) (nsh1 ha0) (by decide) (by decide) (by decide) (by decide) (by decide) (by decide) (by decide) ?_
  obtain ⟨I36, hi36, h⟩ := bind_s h
  refine AW.iEq hi36 ?_
  refine aw_aload_n (pc := 39) hX 1 dX3_become_39 rfl rfl ?_
  refine aw_getR (pc := 40) hX dX3_become_40 f_X3_25 rfl (nsh0 ha1) (q := a1 + 2) (nrf4 ha1) ?_
  refine aw_iconst (pc := 43) hX (0 : Int32) dX3_become_43 (by decide) ?_
  refine aw_aload_n (pc := 44) hX 0 dX3_become_44 rfl rfl ?_
  refine aw_getR (pc := 45) hX dX3_become_45 f_X3_25 rfl (nsh0 ha0) (q := a0 + 2) (nrf4 ha0) ?_
  refine aw_iconst (pc := 48) hX (0 : Int32) dX3_become_48 (by decide) ?_
  refine aw_bipush (pc := 49) hX (6 : Int32) dX3_become_49 (by decide) ?_
  refine aw_copy (pc := 51) hX dX3_become_51 l_X3_37 w_nat_copy w_stat_copy w_ini_System (nsh2 ha1) (nsh2 ha0) (by decide) (by decide) (by decide) (by decide) (by decide) (by decide) (by decide) ?_
  obtain ⟨I51, hi51, h⟩ := bind_s h
  refine AW.iEq hi51 ?_
  refine aw_aload_n (pc := 54) hX 1 dX3_become_54 rfl rfl ?_
  refine aw_getR (pc := 55) hX dX3_become_55 f_X3_28 rfl (nsh0 ha1) (q := a1 + 3) (nrf5 ha1) ?_
  refine aw_iconst (pc := 58) hX (0 : Int32) dX3_become_58 (by decide) ?_
  refine aw_aload_n (pc := 59) hX 0 dX3_become_59 rfl rfl ?_
  refine aw_getR (pc := 60) hX dX3_become_60 f_X3_28 rfl (nsh0 ha0) (q := a0 + 3) (nrf5 ha0) ?_
  refine aw_iconst (pc := 63) hX (0 : Int32) dX3_become_63 (by decide) ?_
  refine aw_bipush (pc := 64) hX (6 : Int32) dX3_become_64 (by decide) ?_
  refine aw_copy (pc := 66) hX dX3_become_66 l_X3_37 w_nat_copy w_stat_copy w_ini_System (nsh3 ha1) (nsh3 ha0) (by decide) (by decide) (by decide) (by decide) (by decide) (by decide) (by decide) ?_
  obtain ⟨I66, hi66, h⟩ := bind_s h
  refine AW.iEq hi66 ?_
  have e := Option.some.inj h
  subst e
  exact aw_vret hX hZ dX3_become_69 rfl rfl rfl rfl rfl rfl (Nat.le_refl _)
