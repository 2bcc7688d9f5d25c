/-! constructors -/
def iZ (I : Hi) (k : Nat) : Hi := rs I k (fun _ => 0)
def rZ (R : Hr) (k : Nat) : Hr := rs R k (fun _ => none)
def lZ (L : Hl) (k : Nat) : Hl := rs L k (fun _ => 0)
theorem app_at {S T : Shp} {a : Nat} {x : Nat × Nat} (h : S[a]? = some x) : (S ++ T)[a]? = some x := by
  rw [List.getElem?_append_left (List.getElem?_eq_some_iff.mp h).1]; exact h
section CTOR
variable {G : GP} {X : CX} {M : MI} {cu su : Nat} {S : Shp} {I : Hi} {R : Hr} {L : Hl} {pc : Nat} {ls st : List Value} {idx : Nat}
theorem aw_newIk (hX : XOK G X M) {x : Int32} (N k0 : Nat) (hk : S.length = k0) (hd : decode (mC M) pc = .ok (.newarray .int, 2)) (hn : ¬ x < 0) (hN : x.toNatClampNeg = N) (hby : N * componentBytes .int ≤ 536870912) (hc : cu + 1 ≤ mCe M) (hsl : su + N ≤ mSl M) (k : AW G X (cu + 1) (su + N) (S ++ [(8, N)]) (iZ I k0) R L (pc + 2) ls (.ref k0 :: st)) : AW G X cu su S I R L pc ls (.int x :: st) := by
  subst hk; exact aw_newI hX N hd w_arr_int hn hN hby hc hsl k
theorem aw_newZk (hX : XOK G X M) {x : Int32} (N k0 : Nat) (hk : S.length = k0) (hd : decode (mC M) pc = .ok (.newarray .boolean, 2)) (hn : ¬ x < 0) (hN : x.toNatClampNeg = N) (hby : N * componentBytes .boolean ≤ 536870912) (hc : cu + 1 ≤ mCe M) (hsl : su + N ≤ mSl M) (k : AW G X (cu + 1) (su + N) (S ++ [(9, N)]) (iZ I k0) R L (pc + 2) ls (.ref k0 :: st)) : AW G X cu su S I R L pc ls (.int x :: st) := by
  subst hk; exact aw_newZ hX N hd w_arr_boolean hn hN hby hc hsl k
theorem aw_newQk (hX : XOK G X M) {x : Int32} (N k0 : Nat) (hk : S.length = k0) (hd : decode (mC M) pc = .ok (.anewarray idx, 3)) (hcl : Cond.classLink (mY M).cls idx RX3 ∈ gtbl) (hn : ¬ x < 0) (hN : x.toNatClampNeg = N) (hby : N * 4 ≤ 536870912) (hc : cu + 1 ≤ mCe M) (hsl : su + N ≤ mSl M) (k : AW G X (cu + 1) (su + N) (S ++ [(10, N)]) I (rZ R k0) L (pc + 3) ls (.ref k0 :: st)) : AW G X cu su S I R L pc ls (.int x :: st) := by
  subst hk; exact aw_newQ hX N hd hcl hn hN hby hc hsl k
theorem aw_newOk (hX : XOK G X M) (ci k0 : Nat) (hk : S.length = k0) (hd : decode (mC M) pc = .ok (.new idx, 3)) (hci : ci < 8) (hcl : Cond.classLink (mY M).cls idx (cNm ci) ∈ gtbl) (hins : Cond.instantiable (cNm ci) (cNf ci) ∈ gtbl) (hini : Cond.initialized (cNm ci) ∈ gtbl) (hc : cu + 1 ≤ mCe M) (hsl : su + cNf ci ≤ mSl M) (k : AW G X (cu + 1) (su + cNf ci) (S ++ [(ci, cNf ci)]) (iZ I k0) (rZ R k0) (lZ L k0) (pc + 3) ls (.ref k0 :: st)) : AW G X cu su S I R L pc ls st := by
  subst hk; exact aw_new hX ci hd hci hcl hins hini hc hsl k
end CTOR
def iC_X5_init (I : Hi) (a k : Nat) : Hi := (u2 (u2 (u2 (u2 (u2 (iZ I k) a 1 (0 : Int32)) a 2 (0 : Int32)) a 3 (0 : Int32)) a 4 (0 : Int32)) a 5 (0 : Int32))
def rC_X5_init (R : Hr) (a k : Nat) : Hr := (u2 R a 0 (some k))
set_option maxRecDepth 100000 in
set_option maxHeartbeats 4000000 in
theorem s_X5_init {G : GP} {S : Shp} {I : Hi} {R : Hr} {L : Hl} {a k : Nat} (hs : S[a]? = some (5, 6)) (hk : S.length = k) : CD G mi_X5_init [.ref a] S I R L none (S ++ [(8, 160)]) (iC_X5_init I a k) (rC_X5_init R a k) L := by
  refine CD.intro 0 (by simp) (by decide) rfl fun X hX hZ => ?_
  show AW G X 0 0 S I R L 0 [.ref a] []
  refine aw_aload_n (pc := 0) hX 0 dX5_init_0 rfl rfl ?_
  refine aw_objInit (pc := 1) hX dX5_init_1 l_X5_3 w_inst_obj w_code_obj (by decide) (Nat.le_of_ble_eq_true rfl) ?_
  refine aw_aload_n (pc := 4) hX 0 dX5_init_4 rfl rfl ?_
  refine aw_sipush (pc := 5) hX (160 : Int32) dX5_init_5 (by decide) ?_
  refine aw_newIk (pc := 8) hX 160 k hk dX5_init_8 (by decide) (by decide) (by decide) (Nat.le_of_ble_eq_true rfl) (Nat.le_of_ble_eq_true rfl) ?_
  refine aw_putRF (pc := 10) hX dX5_init_10 f_X5_9 rfl rfl rfl rfl (fun _ => rfl) (fun _ => rfl) (app_at hs) ?_
  refine aw_aload_n (pc := 13) hX 0 dX5_init_13 rfl rfl ?_
  refine aw_iconst (pc := 14) hX (0 : Int32) dX5_init_14 (by decide) ?_
  refine aw_putI (pc := 15) hX dX5_init_15 f_X5_15 rfl rfl (by first | rfl | decide) (by first | rfl | decide) (app_at hs) ?_
  refine aw_aload_n (pc := 18) hX 0 dX5_init_18 rfl rfl ?_
  refine aw_iconst (pc := 19) hX (0 : Int32) dX5_init_19 (by decide) ?_
  refine aw_putI (pc := 20) hX dX5_init_20 f_X5_19 rfl rfl (by first | rfl | decide) (by first | rfl | decide) (app_at hs) ?_
  refine aw_aload_n (pc := 23) hX 0 dX5_init_23 rfl rfl ?_
  refine aw_iconst (pc := 24) hX (0 : Int32) dX5_init_24 (by decide) ?_
  refine aw_putI (pc := 25) hX dX5_init_25 f_X5_22 rfl rfl (by first | rfl | decide) (by first | rfl | decide) (app_at hs) ?_
  refine aw_aload_n (pc := 28) hX 0 dX5_init_28 rfl rfl ?_
  refine aw_iconst (pc := 29) hX (0 : Int32) dX5_init_29 (by decide) ?_
  refine aw_putI (pc := 30) hX dX5_init_30 f_X5_25 rfl rfl (by first | rfl | decide) (by first | rfl | decide) (app_at hs) ?_
  refine aw_aload_n (pc := 33) hX 0 dX5_init_33 rfl rfl ?_
  refine aw_iconst (pc := 34) hX (0 : Int32) dX5_init_34 (by decide) ?_
  refine aw_putI (pc := 35) hX dX5_init_35 f_X5_28 rfl rfl (by first | rfl | decide) (by first | rfl | decide) (app_at hs) ?_
  exact aw_vret hX hZ dX5_init_38 rfl (by rfl) (by rfl) (by rfl) (by rfl) (by rfl) (Nat.le_of_ble_eq_true rfl)
def iC_X0_init (I : Hi) (a k : Nat) : Hi := (u2 (u2 (u2 (u2 (u2 (iZ (iZ (iZ (iZ (iZ I k) (k + 1)) (k + 2)) (k + 3)) (k + 4)) a 5 (0 : Int32)) a 6 (0 : Int32)) a 7 (0 : Int32)) a 8 (0 : Int32)) a 9 (3 : Int32))
def rC_X0_init (R : Hr) (a k : Nat) : Hr := (u2 (u2 (u2 (u2 (u2 R a 0 (some k)) a 1 (some (k + 1))) a 2 (some (k + 2))) a 3 (some (k + 3))) a 4 (some (k + 4)))
set_option maxRecDepth 100000 in
set_option maxHeartbeats 4000000 in
theorem s_X0_init {G : GP} {S : Shp} {I : Hi} {R : Hr} {L : Hl} {a k : Nat} (hs : S[a]? = some (0, 10)) (hk : S.length = k) : CD G mi_X0_init [.ref a] S I R L none (((((S ++ [(8, 5)]) ++ [(8, 6)]) ++ [(8, 24)]) ++ [(8, 3)]) ++ [(8, 3)]) (iC_X0_init I a k) (rC_X0_init R a k) L := by
  refine CD.intro 0 (by simp) (by decide) rfl fun X hX hZ => ?_
  show AW G X 0 0 S I R L 0 [.ref a] []
  refine aw_aload_n (pc := 0) hX 0 dX0_init_0 rfl rfl ?_
  refine aw_objInit (pc := 1) hX dX0_init_1 l_X0_3 w_inst_obj w_code_obj (by decide) (Nat.le_of_ble_eq_true rfl) ?_
  refine aw_aload_n (pc := 4) hX 0 dX0_init_4 rfl rfl ?_
  refine aw_iconst (pc := 5) hX (5 : Int32) dX0_init_5 (by decide) ?_
  refine aw_newIk (pc := 6) hX 5 k hk dX0_init_6 (by decide) (by decide) (by decide) (Nat.le_of_ble_eq_true rfl) (Nat.le_of_ble_eq_true rfl) ?_
  refine aw_putRF (pc := 8) hX dX0_init_8 f_X0_9 rfl rfl rfl rfl (fun _ => rfl) (fun _ => rfl) (app_at hs) ?_
  refine aw_aload_n (pc := 11) hX 0 dX0_init_11 rfl rfl ?_
  refine aw_bipush (pc := 12) hX (6 : Int32) dX0_init_12 (by decide) ?_
  refine aw_newIk (pc := 14) hX 6 (k + 1) (by simp [hk]) dX0_init_14 (by decide) (by decide) (by decide) (Nat.le_of_ble_eq_true rfl) (Nat.le_of_ble_eq_true rfl) ?_
  refine aw_putRF (pc := 16) hX dX0_init_16 f_X0_15 rfl rfl rfl rfl (fun _ => rfl) (fun _ => rfl) (app_at (app_at hs)) ?_
  refine aw_aload_n (pc := 19) hX 0 dX0_init_19 rfl rfl ?_
  refine aw_bipush (pc := 20) hX (24 : Int32) dX0_init_20 (by decide) ?_
  refine aw_newIk (pc := 22) hX 24 (k + 2) (by simp [hk]) dX0_init_22 (by decide) (by decide) (by decide) (Nat.le_of_ble_eq_true rfl) (Nat.le_of_ble_eq_true rfl) ?_
  refine aw_putRF (pc := 24) hX dX0_init_24 f_X0_18 rfl rfl rfl rfl (fun _ => rfl) (fun _ => rfl) (app_at (app_at (app_at hs))) ?_
  refine aw_aload_n (pc := 27) hX 0 dX0_init_27 rfl rfl ?_
  refine aw_iconst (pc := 28) hX (3 : Int32) dX0_init_28 (by decide) ?_
  refine aw_newIk (pc := 29) hX 3 (k + 3) (by simp [hk]) dX0_init_29 (by decide) (by decide) (by decide) (Nat.le_of_ble_eq_true rfl) (Nat.le_of_ble_eq_true rfl) ?_
  refine aw_putRF (pc := 31) hX dX0_init_31 f_X0_21 rfl rfl rfl rfl (fun _ => rfl) (fun _ => rfl) (app_at (app_at (app_at (app_at hs)))) ?_
  refine aw_aload_n (pc := 34) hX 0 dX0_init_34 rfl rfl ?_
  refine aw_iconst (pc := 35) hX (3 : Int32) dX0_init_35 (by decide) ?_
  refine aw_newIk (pc := 36) hX 3 (k + 4) (by simp [hk]) dX0_init_36 (by decide) (by decide) (by decide) (Nat.le_of_ble_eq_true rfl) (Nat.le_of_ble_eq_true rfl) ?_
  refine aw_putRF (pc := 38) hX dX0_init_38 f_X0_24 rfl rfl rfl rfl (fun _ => rfl) (fun _ => rfl) (app_at (app_at (app_at (app_at (app_at hs))))) ?_
  refine aw_aload_n (pc := 41) hX 0 dX0_init_41 rfl rfl ?_
  refine aw_iconst (pc := 42) hX (0 : Int32) dX0_init_42 (by decide) ?_
  refine aw_putI (pc := 43) hX dX0_init_43 f_X0_27 rfl rfl (by first | rfl | decide) (by first | rfl | decide) (app_at (app_at (app_at (app_at (app_at hs))))) ?_
  refine aw_aload_n (pc := 46) hX 0 dX0_init_46 rfl rfl ?_
  refine aw_iconst (pc := 47) hX (0 : Int32) dX0_init_47 (by decide) ?_
  refine aw_putI (pc := 48) hX dX0_init_48 f_X0_31 rfl rfl (by first | rfl | decide) (by first | rfl | decide) (app_at (app_at (app_at (app_at (app_at hs))))) ?_
  refine aw_aload_n (pc := 51) hX 0 dX0_init_51 rfl rfl ?_
  refine aw_iconst (pc := 52) hX (0 : Int32) dX0_init_52 (by decide) ?_
  refine aw_putI (pc := 53) hX dX0_init_53 f_X0_34 rfl rfl (by first | rfl | decide) (by first | rfl | decide) (app_at (app_at (app_at (app_at (app_at hs))))) ?_
  refine aw_aload_n (pc := 56) hX 0 dX0_init_56 rfl rfl ?_
  refine aw_iconst (pc := 57) hX (0 : Int32) dX0_init_57 (by decide) ?_
  refine aw_putI (pc := 58) hX dX0_init_58 f_X0_37 rfl rfl (by first | rfl | decide) (by first | rfl | decide) (app_at (app_at (app_at (app_at (app_at hs))))) ?_
  refine aw_aload_n (pc := 61) hX 0 dX0_init_61 rfl rfl ?_
  refine aw_iconst (pc := 62) hX (3 : Int32) dX0_init_62 (by decide) ?_
  refine aw_putI (pc := 63) hX dX0_init_63 f_X0_40 rfl rfl (by first | rfl | decide) (by first | rfl | decide) (app_at (app_at (app_at (app_at (app_at hs))))) ?_
  exact aw_vret hX hZ dX0_init_66 rfl (by rfl) (by rfl) (by rfl) (by rfl) (by rfl) (Nat.le_of_ble_eq_true rfl)
def iC_X3_init (I : Hi) (a k : Nat) : Hi := (iZ (iZ (iZ (u2 (u2 (u2 I a 0 (0 : Int32)) a 1 (0 : Int32)) a 2 (0 : Int32)) k) (k + 1)) (k + 2))
def rC_X3_init (R : Hr) (a k : Nat) : Hr := (u2 (u2 (u2 R a 3 (some k)) a 4 (some (k + 1))) a 5 (some (k + 2)))
set_option maxRecDepth 100000 in
set_option maxHeartbeats 4000000 in
theorem s_X3_init {G : GP} {S : Shp} {I : Hi} {R : Hr} {L : Hl} {a k : Nat} (hs : S[a]? = some (3, 6)) (hk : S.length = k) : CD G mi_X3_init [.ref a] S I R L none (((S ++ [(8, 6)]) ++ [(8, 6)]) ++ [(8, 6)]) (iC_X3_init I a k) (rC_X3_init R a k) L := by
  refine CD.intro 0 (by simp) (by decide) rfl fun X hX hZ => ?_
  show AW G X 0 0 S I R L 0 [.ref a] []
  refine aw_aload_n (pc := 0) hX 0 dX3_init_0 rfl rfl ?_
  refine aw_objInit (pc := 1) hX dX3_init_1 l_X3_3 w_inst_obj w_code_obj (by decide) (Nat.le_of_ble_eq_true rfl) ?_
  refine aw_aload_n (pc := 4) hX 0 dX3_init_4 rfl rfl ?_
  refine aw_iconst (pc := 5) hX (0 : Int32) dX3_init_5 (by decide) ?_
  refine aw_putI (pc := 6) hX dX3_init_6 f_X3_9 rfl rfl (by first | rfl | decide) (by first | rfl | decide) hs ?_
  refine aw_aload_n (pc := 9) hX 0 dX3_init_9 rfl rfl ?_
  refine aw_iconst (pc := 10) hX (0 : Int32) dX3_init_10 (by decide) ?_
  refine aw_putI (pc := 11) hX dX3_init_11 f_X3_15 rfl rfl (by first | rfl | decide) (by first | rfl | decide) hs ?_
  refine aw_aload_n (pc := 14) hX 0 dX3_init_14 rfl rfl ?_
  refine aw_iconst (pc := 15) hX (0 : Int32) dX3_init_15 (by decide) ?_
  refine aw_putI (pc := 16) hX dX3_init_16 f_X3_18 rfl rfl (by first | rfl | decide) (by first | rfl | decide) hs ?_
  refine aw_aload_n (pc := 19) hX 0 dX3_init_19 rfl rfl ?_
  refine aw_bipush (pc := 20) hX (6 : Int32) dX3_init_20 (by decide) ?_
  refine aw_newIk (pc := 22) hX 6 k hk dX3_init_22 (by decide) (by decide) (by decide) (Nat.le_of_ble_eq_true rfl) (Nat.le_of_ble_eq_true rfl) ?_
  refine aw_putRF (pc := 24) hX dX3_init_24 f_X3_21 rfl rfl rfl rfl (fun _ => rfl) (fun _ => rfl) (app_at hs) ?_
  refine aw_aload_n (pc := 27) hX 0 dX3_init_27 rfl rfl ?_
  refine aw_bipush (pc := 28) hX (6 : Int32) dX3_init_28 (by decide) ?_
  refine aw_newIk (pc := 30) hX 6 (k + 1) (by simp [hk]) dX3_init_30 (by decide) (by decide) (by decide) (Nat.le_of_ble_eq_true rfl) (Nat.le_of_ble_eq_true rfl) ?_
  refine aw_putRF (pc := 32) hX dX3_init_32 f_X3_25 rfl rfl rfl rfl (fun _ => rfl) (fun _ => rfl) (app_at (app_at hs)) ?_
  refine aw_aload_n (pc := 35) hX 0 dX3_init_35 rfl rfl ?_
  refine aw_bipush (pc := 36) hX (6 : Int32) dX3_init_36 (by decide) ?_
  refine aw_newIk (pc := 38) hX 6 (k + 2) (by simp [hk]) dX3_init_38 (by decide) (by decide) (by decide) (Nat.le_of_ble_eq_true rfl) (Nat.le_of_ble_eq_true rfl) ?_
  refine aw_putRF (pc := 40) hX dX3_init_40 f_X3_28 rfl rfl rfl rfl (fun _ => rfl) (fun _ => rfl) (app_at (app_at (app_at hs))) ?_
  exact aw_vret hX hZ dX3_init_43 rfl (by rfl) (by rfl) (by rfl) (by rfl) (by rfl) (Nat.le_of_ble_eq_true rfl)
def iC_X4_init (I : Hi) (a k : Nat) : Hi := (u2 (iZ (iZ (iZ I k) (k + 1)) (k + 2)) a 3 (0 : Int32))
def rC_X4_init (R : Hr) (a k : Nat) : Hr := (u2 (u2 (u2 R a 0 (some k)) a 1 (some (k + 1))) a 2 (some (k + 2)))
set_option maxRecDepth 100000 in
set_option maxHeartbeats 4000000 in
theorem s_X4_init {G : GP} {S : Shp} {I : Hi} {R : Hr} {L : Hl} {a k : Nat} (hs : S[a]? = some (4, 4)) (hk : S.length = k) : CD G mi_X4_init [.ref a] S I R L none (((S ++ [(8, 6)]) ++ [(8, 6)]) ++ [(8, 6)]) (iC_X4_init I a k) (rC_X4_init R a k) L := by
  refine CD.intro 0 (by simp) (by decide) rfl fun X hX hZ => ?_
  show AW G X 0 0 S I R L 0 [.ref a] []
  refine aw_aload_n (pc := 0) hX 0 dX4_init_0 rfl rfl ?_
  refine aw_objInit (pc := 1) hX dX4_init_1 l_X4_3 w_inst_obj w_code_obj (by decide) (Nat.le_of_ble_eq_true rfl) ?_
  refine aw_aload_n (pc := 4) hX 0 dX4_init_4 rfl rfl ?_
  refine aw_bipush (pc := 5) hX (6 : Int32) dX4_init_5 (by decide) ?_
  refine aw_newIk (pc := 7) hX 6 k hk dX4_init_7 (by decide) (by decide) (by decide) (Nat.le_of_ble_eq_true rfl) (Nat.le_of_ble_eq_true rfl) ?_
  refine aw_putRF (pc := 9) hX dX4_init_9 f_X4_9 rfl rfl rfl rfl (fun _ => rfl) (fun _ => rfl) (app_at hs) ?_
  refine aw_aload_n (pc := 12) hX 0 dX4_init_12 rfl rfl ?_
  refine aw_bipush (pc := 13) hX (6 : Int32) dX4_init_13 (by decide) ?_
  refine aw_newIk (pc := 15) hX 6 (k + 1) (by simp [hk]) dX4_init_15 (by decide) (by decide) (by decide) (Nat.le_of_ble_eq_true rfl) (Nat.le_of_ble_eq_true rfl) ?_
  refine aw_putRF (pc := 17) hX dX4_init_17 f_X4_15 rfl rfl rfl rfl (fun _ => rfl) (fun _ => rfl) (app_at (app_at hs)) ?_
  refine aw_aload_n (pc := 20) hX 0 dX4_init_20 rfl rfl ?_
  refine aw_bipush (pc := 21) hX (6 : Int32) dX4_init_21 (by decide) ?_
  refine aw_newIk (pc := 23) hX 6 (k + 2) (by simp [hk]) dX4_init_23 (by decide) (by decide) (by decide) (Nat.le_of_ble_eq_true rfl) (Nat.le_of_ble_eq_true rfl) ?_
  refine aw_putRF (pc := 25) hX dX4_init_25 f_X4_18 rfl rfl rfl rfl (fun _ => rfl) (fun _ => rfl) (app_at (app_at (app_at hs))) ?_
  refine aw_aload_n (pc := 28) hX 0 dX4_init_28 rfl rfl ?_
  refine aw_iconst (pc := 29) hX (0 : Int32) dX4_init_29 (by decide) ?_
  refine aw_putI (pc := 30) hX dX4_init_30 f_X4_21 rfl rfl (by first | rfl | decide) (by first | rfl | decide) (app_at (app_at (app_at hs))) ?_
  exact aw_vret hX hZ dX4_init_33 rfl (by rfl) (by rfl) (by rfl) (by rfl) (by rfl) (Nat.le_of_ble_eq_true rfl)
def iC_X2_init (I : Hi) (a k : Nat) : Hi := (iZ I k)
def rC_X2_init (R : Hr) (a k : Nat) : Hr := (u2 R a 0 (some k))
set_option maxRecDepth 100000 in
set_option maxHeartbeats 4000000 in
theorem s_X2_init {G : GP} {S : Shp} {I : Hi} {R : Hr} {L : Hl} {a k : Nat} (hs : S[a]? = some (2, 1)) (hk : S.length = k) : CD G mi_X2_init [.ref a] S I R L none (S ++ [(8, 64)]) (iC_X2_init I a k) (rC_X2_init R a k) L := by
  refine CD.intro 0 (by simp) (by decide) rfl fun X hX hZ => ?_
  show AW G X 0 0 S I R L 0 [.ref a] []
  refine aw_aload_n (pc := 0) hX 0 dX2_init_0 rfl rfl ?_
  refine aw_objInit (pc := 1) hX dX2_init_1 l_X2_3 w_inst_obj w_code_obj (by decide) (Nat.le_of_ble_eq_true rfl) ?_
  refine aw_aload_n (pc := 4) hX 0 dX2_init_4 rfl rfl ?_
  refine aw_bipush (pc := 5) hX (64 : Int32) dX2_init_5 (by decide) ?_
  refine aw_newIk (pc := 7) hX 64 k hk dX2_init_7 (by decide) (by decide) (by decide) (Nat.le_of_ble_eq_true rfl) (Nat.le_of_ble_eq_true rfl) ?_
  refine aw_putRF (pc := 9) hX dX2_init_9 f_X2_9 rfl rfl rfl rfl (fun _ => rfl) (fun _ => rfl) (app_at hs) ?_
  exact aw_vret hX hZ dX2_init_12 rfl (by rfl) (by rfl) (by rfl) (by rfl) (by rfl) (Nat.le_of_ble_eq_true rfl)

def sH0 : Shp := [(6, 10), (5, 6), (8, 160), (0, 10), (8, 5), (8, 6), (8, 24), (8, 3), (8, 3), (0, 10), (8, 5), (8, 6), (8, 24), (8, 3), (8, 3), (3, 6), (8, 6), (8, 6), (8, 6), (1, 3)]
def iH0 : Hi := (iZ (iC_X3_init (iZ (iC_X0_init (iZ (iC_X0_init (iZ (iC_X5_init (iZ (iZ (fun _ _ => 0) 0) 1) 1 2) 3) 3 4) 9) 9 10) 15) 15 16) 19)
def rH0 : Hr := (rZ (u2 (rC_X3_init (rZ (u2 (rC_X0_init (rZ (u2 (rC_X0_init (rZ (u2 (rC_X5_init (rZ (rZ (fun _ _ => none) 0) 1) 1 2) 0 0 (some 1)) 3) 3 4) 0 1 (some 3)) 9) 9 10) 0 2 (some 9)) 15) 15 16) 0 3 (some 15)) 19)
def lH0 : Hl := (lZ (lZ (lZ (lZ (lZ (lZ (fun _ _ => 0) 0) 1) 3) 9) 15) 19)
def sH1 : Shp := [(6, 10), (5, 6), (8, 160), (0, 10), (8, 5), (8, 6), (8, 24), (8, 3), (8, 3), (0, 10), (8, 5), (8, 6), (8, 24), (8, 3), (8, 3), (3, 6), (8, 6), (8, 6), (8, 6), (1, 3), (10, 10), (3, 6), (8, 6), (8, 6), (8, 6), (3, 6), (8, 6), (8, 6), (8, 6), (3, 6), (8, 6), (8, 6), (8, 6), (3, 6), (8, 6), (8, 6), (8, 6), (3, 6), (8, 6), (8, 6), (8, 6), (3, 6), (8, 6), (8, 6), (8, 6), (3, 6), (8, 6), (8, 6), (8, 6), (3, 6), (8, 6), (8, 6), (8, 6), (3, 6), (8, 6), (8, 6), (8, 6), (3, 6), (8, 6), (8, 6), (8, 6)]
def iH1 : Hi := (iC_X3_init (iZ (iC_X3_init (iZ (iC_X3_init (iZ (iC_X3_init (iZ (iC_X3_init (iZ (iC_X3_init (iZ (iC_X3_init (iZ (iC_X3_init (iZ (iC_X3_init (iZ (iC_X3_init (iZ (u2 (u2 iH0 19 1 (0 : Int32)) 19 2 (0 : Int32)) 21) 21 22) 25) 25 26) 29) 29 30) 33) 33 34) 37) 37 38) 41) 41 42) 45) 45 46) 49) 49 50) 53) 53 54) 57) 57 58)
def rH1 : Hr := (u2 (rC_X3_init (rZ (u2 (rC_X3_init (rZ (u2 (rC_X3_init (rZ (u2 (rC_X3_init (rZ (u2 (rC_X3_init (rZ (u2 (rC_X3_init (rZ (u2 (rC_X3_init (rZ (u2 (rC_X3_init (rZ (u2 (rC_X3_init (rZ (u2 (rC_X3_init (rZ (u2 (rZ rH0 20) 19 0 (some 20)) 21) 21 22) 20 0 (some 21)) 25) 25 26) 20 1 (some 25)) 29) 29 30) 20 2 (some 29)) 33) 33 34) 20 3 (some 33)) 37) 37 38) 20 4 (some 37)) 41) 41 42) 20 5 (some 41)) 45) 45 46) 20 6 (some 45)) 49) 49 50) 20 7 (some 49)) 53) 53 54) 20 8 (some 53)) 57) 57 58) 20 9 (some 57))
def lH1 : Hl := (lZ (lZ (lZ (lZ (lZ (lZ (lZ (lZ (lZ (lZ lH0 21) 25) 29) 33) 37) 41) 45) 49) 53) 57)
set_option maxRecDepth 100000 in
set_option maxHeartbeats 4000000 in
theorem s_X1_init {G : GP} : CD G mi_X1_init [.ref 19] sH0 iH0 rH0 lH0 none sH1 iH1 rH1 lH1 := by
  refine CD.intro 1 (by rfl) (by decide) rfl fun X hX hZ => ?_
  show AW G X 0 0 sH0 iH0 rH0 lH0 0 [.ref 19, .null] []
  refine aw_aload_n (pc := 0) hX 0 dX1_init_0 rfl rfl ?_
  refine aw_objInit (pc := 1) hX dX1_init_1 l_X1_3 w_inst_obj w_code_obj (by decide) (Nat.le_of_ble_eq_true rfl) ?_
  refine aw_aload_n (pc := 4) hX 0 dX1_init_4 rfl rfl ?_
  refine aw_bipush (pc := 5) hX (10 : Int32) dX1_init_5 (by decide) ?_
  refine aw_newQk (pc := 7) hX 10 20 (by rfl) dX1_init_7 k_X1_9 (by decide) (by decide) (by decide) (Nat.le_of_ble_eq_true rfl) (Nat.le_of_ble_eq_true rfl) ?_
  refine aw_putRF (pc := 10) hX dX1_init_10 f_X1_11 rfl rfl rfl rfl (fun _ => rfl) (fun _ => rfl) (by rfl) ?_
  refine aw_aload_n (pc := 13) hX 0 dX1_init_13 rfl rfl ?_
  refine aw_iconst (pc := 14) hX (0 : Int32) dX1_init_14 (by decide) ?_
  refine aw_putI (pc := 15) hX dX1_init_15 f_X1_17 rfl rfl (by first | rfl | decide) (by first | rfl | decide) (by rfl) ?_
  refine aw_aload_n (pc := 18) hX 0 dX1_init_18 rfl rfl ?_
  refine aw_iconst (pc := 19) hX (0 : Int32) dX1_init_19 (by decide) ?_
  refine aw_putI (pc := 20) hX dX1_init_20 f_X1_21 rfl rfl (by first | rfl | decide) (by first | rfl | decide) (by rfl) ?_
  refine aw_iconst (pc := 23) hX (0 : Int32) dX1_init_23 (by decide) ?_
  refine aw_istore_nE (pc := 24) hX 1 [.ref 19, .int (0 : Int32)] dX1_init_24 rfl (by decide) rfl rfl ?_
  refine aw_iload_n (pc := 25) hX 1 dX1_init_25 rfl rfl ?_
  refine aw_bipush (pc := 26) hX (10 : Int32) dX1_init_26 (by decide) ?_
  refine aw_icmp_ge (pc := 28) hX 50 dX1_init_28 rfl (fun hc => absurd hc (by decide)) (fun _ => ?_)
  refine aw_aload_n (pc := 31) hX 0 dX1_init_31 rfl rfl ?_
  refine aw_getR (pc := 32) hX dX1_init_32 f_X1_11 rfl (by rfl) (q := 20) (by rfl) ?_
  refine aw_iload_n (pc := 35) hX 1 dX1_init_35 rfl rfl ?_
  refine aw_newOk (pc := 36) hX 3 21 (by rfl) dX1_init_36 (by decide) k_X1_9 w_new_3 w_ini_RX3 (Nat.le_of_ble_eq_true rfl) (Nat.le_of_ble_eq_true rfl) ?_
  refine aw_dup (pc := 39) hX dX1_init_39 rfl ?_
  refine aw_callIN (pc := 40) (As := []) hX h_X3_init l_X1_24 rfl (s_X3_init (by rfl) (by rfl)) rfl (Nat.le_of_ble_eq_true rfl) dX1_init_40 rfl ?_
  refine aw_aas (pc := 43) hX 0 dX1_init_43 (by rfl) (by rfl) (by decide) (by decide) (by decide) ?_
  refine aw_iincE (pc := 44) hX (1 : Int32) [.ref 19, .int (1 : Int32)] dX1_init_44 rfl (by decide) (by decide) rfl rfl ?_
  refine aw_goto (pc := 47) hX 25 dX1_init_47 rfl ?_
  refine aw_iload_n (pc := 25) hX 1 dX1_init_25 rfl rfl ?_
  refine aw_bipush (pc := 26) hX (10 : Int32) dX1_init_26 (by decide) ?_
  refine aw_icmp_ge (pc := 28) hX 50 dX1_init_28 rfl (fun hc => absurd hc (by decide)) (fun _ => ?_)
  refine aw_aload_n (pc := 31) hX 0 dX1_init_31 rfl rfl ?_
  refine aw_getR (pc := 32) hX dX1_init_32 f_X1_11 rfl (by rfl) (q := 20) (by rfl) ?_
  refine aw_iload_n (pc := 35) hX 1 dX1_init_35 rfl rfl ?_
  refine aw_newOk (pc := 36) hX 3 25 (by rfl) dX1_init_36 (by decide) k_X1_9 w_new_3 w_ini_RX3 (Nat.le_of_ble_eq_true rfl) (Nat.le_of_ble_eq_true rfl) ?_
  refine aw_dup (pc := 39) hX dX1_init_39 rfl ?_
  refine aw_callIN (pc := 40) (As := []) hX h_X3_init l_X1_24 rfl (s_X3_init (by rfl) (by rfl)) rfl (Nat.le_of_ble_eq_true rfl) dX1_init_40 rfl ?_
  refine aw_aas (pc := 43) hX 1 dX1_init_43 (by rfl) (by rfl) (by decide) (by decide) (by decide) ?_
  refine aw_iincE (pc := 44) hX (2 : Int32) [.ref 19, .int (2 : Int32)] dX1_init_44 rfl (by decide) (by decide) rfl rfl ?_
  refine aw_goto (pc := 47) hX 25 dX1_init_47 rfl ?_
  refine aw_iload_n (pc := 25) hX 1 dX1_init_25 rfl rfl ?_
  refine aw_bipush (pc := 26) hX (10 : Int32) dX1_init_26 (by decide) ?_
  refine aw_icmp_ge (pc := 28) hX 50 dX1_init_28 rfl (fun hc => absurd hc (by decide)) (fun _ => ?_)
  refine aw_aload_n (pc := 31) hX 0 dX1_init_31 rfl rfl ?_
  refine aw_getR (pc := 32) hX dX1_init_32 f_X1_11 rfl (by rfl) (q := 20) (by rfl) ?_
  refine aw_iload_n (pc := 35) hX 1 dX1_init_35 rfl rfl ?_
  refine aw_newOk (pc := 36) hX 3 29 (by rfl) dX1_init_36 (by decide) k_X1_9 w_new_3 w_ini_RX3 (Nat.le_of_ble_eq_true rfl) (Nat.le_of_ble_eq_true rfl) ?_
  refine aw_dup (pc := 39) hX dX1_init_39 rfl ?_
  refine aw_callIN (pc := 40) (As := []) hX h_X3_init l_X1_24 rfl (s_X3_init (by rfl) (by rfl)) rfl (Nat.le_of_ble_eq_true rfl) dX1_init_40 rfl ?_
  refine aw_aas (pc := 43) hX 2 dX1_init_43 (by rfl) (by rfl) (by decide) (by decide) (by decide) ?_
  refine aw_iincE (pc := 44) hX (3 : Int32) [.ref 19, .int (3 : Int32)] dX1_init_44 rfl (by decide) (by decide) rfl rfl ?_
  refine aw_goto (pc := 47) hX 25 dX1_init_47 rfl ?_
  refine aw_iload_n (pc := 25) hX 1 dX1_init_25 rfl rfl ?_
  refine aw_bipush (pc := 26) hX (10 : Int32) dX1_init_26 (by decide) ?_
  refine aw_icmp_ge (pc := 28) hX 50 dX1_init_28 rfl (fun hc => absurd hc (by decide)) (fun _ => ?_)
  refine aw_aload_n (pc := 31) hX 0 dX1_init_31 rfl rfl ?_
  refine aw_getR (pc := 32) hX dX1_init_32 f_X1_11 rfl (by rfl) (q := 20) (by rfl) ?_
  refine aw_iload_n (pc := 35) hX 1 dX1_init_35 rfl rfl ?_
  refine aw_newOk (pc := 36) hX 3 33 (by rfl) dX1_init_36 (by decide) k_X1_9 w_new_3 w_ini_RX3 (Nat.le_of_ble_eq_true rfl) (Nat.le_of_ble_eq_true rfl) ?_
  refine aw_dup (pc := 39) hX dX1_init_39 rfl ?_
  refine aw_callIN (pc := 40) (As := []) hX h_X3_init l_X1_24 rfl (s_X3_init (by rfl) (by rfl)) rfl (Nat.le_of_ble_eq_true rfl) dX1_init_40 rfl ?_
  refine aw_aas (pc := 43) hX 3 dX1_init_43 (by rfl) (by rfl) (by decide) (by decide) (by decide) ?_
  refine aw_iincE (pc := 44) hX (4 : Int32) [.ref 19, .int (4 : Int32)] dX1_init_44 rfl (by decide) (by decide) rfl rfl ?_
  refine aw_goto (pc := 47) hX 25 dX1_init_47 rfl ?_
  refine aw_iload_n (pc := 25) hX 1 dX1_init_25 rfl rfl ?_
  refine aw_bipush (pc := 26) hX (10 : Int32) dX1_init_26 (by decide) ?_
  refine aw_icmp_ge (pc := 28) hX 50 dX1_init_28 rfl (fun hc => absurd hc (by decide)) (fun _ => ?_)
  refine aw_aload_n (pc := 31) hX 0 dX1_init_31 rfl rfl ?_
  refine aw_getR (pc := 32) hX dX1_init_32 f_X1_11 rfl (by rfl) (q := 20) (by rfl) ?_
  refine aw_iload_n (pc := 35) hX 1 dX1_init_35 rfl rfl ?_
  refine aw_newOk (pc := 36) hX 3 37 (by rfl) dX1_init_36 (by decide) k_X1_9 w_new_3 w_ini_RX3 (Nat.le_of_ble_eq_true rfl) (Nat.le_of_ble_eq_true rfl) ?_
  refine aw_dup (pc := 39) hX dX1_init_39 rfl ?_
  refine aw_callIN (pc := 40) (As := []) hX h_X3_init l_X1_24 rfl (s_X3_init (by rfl) (by rfl)) rfl (Nat.le_of_ble_eq_true rfl) dX1_init_40 rfl ?_
  refine aw_aas (pc := 43) hX 4 dX1_init_43 (by rfl) (by rfl) (by decide) (by decide) (by decide) ?_
  refine aw_iincE (pc := 44) hX (5 : Int32) [.ref 19, .int (5 : Int32)] dX1_init_44 rfl (by decide) (by decide) rfl rfl ?_
  refine aw_goto (pc := 47) hX 25 dX1_init_47 rfl ?_
  refine aw_iload_n (pc := 25) hX 1 dX1_init_25 rfl rfl ?_
  refine aw_bipush (pc := 26) hX (10 : Int32) dX1_init_26 (by decide) ?_
  refine aw_icmp_ge (pc := 28) hX 50 dX1_init_28 rfl (fun hc => absurd hc (by decide)) (fun _ => ?_)
  refine aw_aload_n (pc := 31) hX 0 dX1_init_31 rfl rfl ?_
  refine aw_getR (pc := 32) hX dX1_init_32 f_X1_11 rfl (by rfl) (q := 20) (by rfl) ?_
  refine aw_iload_n (pc := 35) hX 1 dX1_init_35 rfl rfl ?_
  refine aw_newOk (pc := 36) hX 3 41 (by rfl) dX1_init_36 (by decide) k_X1_9 w_new_3 w_ini_RX3 (Nat.le_of_ble_eq_true rfl) (Nat.le_of_ble_eq_true rfl) ?_
  refine aw_dup (pc := 39) hX dX1_init_39 rfl ?_
  refine aw_callIN (pc := 40) (As := []) hX h_X3_init l_X1_24 rfl (s_X3_init (by rfl) (by rfl)) rfl (Nat.le_of_ble_eq_true rfl) dX1_init_40 rfl ?_
  refine aw_aas (pc := 43) hX 5 dX1_init_43 (by rfl) (by rfl) (by decide) (by decide) (by decide) ?_
  refine aw_iincE (pc := 44) hX (6 : Int32) [.ref 19, .int (6 : Int32)] dX1_init_44 rfl (by decide) (by decide) rfl rfl ?_
  refine aw_goto (pc := 47) hX 25 dX1_init_47 rfl ?_
  refine aw_iload_n (pc := 25) hX 1 dX1_init_25 rfl rfl ?_
  refine aw_bipush (pc := 26) hX (10 : Int32) dX1_init_26 (by decide) ?_
  refine aw_icmp_ge (pc := 28) hX 50 dX1_init_28 rfl (fun hc => absurd hc (by decide)) (fun _ => ?_)
  refine aw_aload_n (pc := 31) hX 0 dX1_init_31 rfl rfl ?_
  refine aw_getR (pc := 32) hX dX1_init_32 f_X1_11 rfl (by rfl) (q := 20) (by rfl) ?_
  refine aw_iload_n (pc := 35) hX 1 dX1_init_35 rfl rfl ?_
  refine aw_newOk (pc := 36) hX 3 45 (by rfl) dX1_init_36 (by decide) k_X1_9 w_new_3 w_ini_RX3 (Nat.le_of_ble_eq_true rfl) (Nat.le_of_ble_eq_true rfl) ?_
  refine aw_dup (pc := 39) hX dX1_init_39 rfl ?_
  refine aw_callIN (pc := 40) (As := []) hX h_X3_init l_X1_24 rfl (s_X3_init (by rfl) (by rfl)) rfl (Nat.le_of_ble_eq_true rfl) dX1_init_40 rfl ?_
  refine aw_aas (pc := 43) hX 6 dX1_init_43 (by rfl) (by rfl) (by decide) (by decide) (by decide) ?_
  refine aw_iincE (pc := 44) hX (7 : Int32) [.ref 19, .int (7 : Int32)] dX1_init_44 rfl (by decide) (by decide) rfl rfl ?_
  refine aw_goto (pc := 47) hX 25 dX1_init_47 rfl ?_
  refine aw_iload_n (pc := 25) hX 1 dX1_init_25 rfl rfl ?_
  refine aw_bipush (pc := 26) hX (10 : Int32) dX1_init_26 (by decide) ?_
  refine aw_icmp_ge (pc := 28) hX 50 dX1_init_28 rfl (fun hc => absurd hc (by decide)) (fun _ => ?_)
  refine aw_aload_n (pc := 31) hX 0 dX1_init_31 rfl rfl ?_
  refine aw_getR (pc := 32) hX dX1_init_32 f_X1_11 rfl (by rfl) (q := 20) (by rfl) ?_
  refine aw_iload_n (pc := 35) hX 1 dX1_init_35 rfl rfl ?_
  refine aw_newOk (pc := 36) hX 3 49 (by rfl) dX1_init_36 (by decide) k_X1_9 w_new_3 w_ini_RX3 (Nat.le_of_ble_eq_true rfl) (Nat.le_of_ble_eq_true rfl) ?_
  refine aw_dup (pc := 39) hX dX1_init_39 rfl ?_
  refine aw_callIN (pc := 40) (As := []) hX h_X3_init l_X1_24 rfl (s_X3_init (by rfl) (by rfl)) rfl (Nat.le_of_ble_eq_true rfl) dX1_init_40 rfl ?_
  refine aw_aas (pc := 43) hX 7 dX1_init_43 (by rfl) (by rfl) (by decide) (by decide) (by decide) ?_
  refine aw_iincE (pc := 44) hX (8 : Int32) [.ref 19, .int (8 : Int32)] dX1_init_44 rfl (by decide) (by decide) rfl rfl ?_
  refine aw_goto (pc := 47) hX 25 dX1_init_47 rfl ?_
  refine aw_iload_n (pc := 25) hX 1 dX1_init_25 rfl rfl ?_
  refine aw_bipush (pc := 26) hX (10 : Int32) dX1_init_26 (by decide) ?_
  refine aw_icmp_ge (pc := 28) hX 50 dX1_init_28 rfl (fun hc => absurd hc (by decide)) (fun _ => ?_)
  refine aw_aload_n (pc := 31) hX 0 dX1_init_31 rfl rfl ?_
  refine aw_getR (pc := 32) hX dX1_init_32 f_X1_11 rfl (by rfl) (q := 20) (by rfl) ?_
  refine aw_iload_n (pc := 35) hX 1 dX1_init_35 rfl rfl ?_
  refine aw_newOk (pc := 36) hX 3 53 (by rfl) dX1_init_36 (by decide) k_X1_9 w_new_3 w_ini_RX3 (Nat.le_of_ble_eq_true rfl) (Nat.le_of_ble_eq_true rfl) ?_
  refine aw_dup (pc := 39) hX dX1_init_39 rfl ?_
  refine aw_callIN (pc := 40) (As := []) hX h_X3_init l_X1_24 rfl (s_X3_init (by rfl) (by rfl)) rfl (Nat.le_of_ble_eq_true rfl) dX1_init_40 rfl ?_
  refine aw_aas (pc := 43) hX 8 dX1_init_43 (by rfl) (by rfl) (by decide) (by decide) (by decide) ?_
  refine aw_iincE (pc := 44) hX (9 : Int32) [.ref 19, .int (9 : Int32)] dX1_init_44 rfl (by decide) (by decide) rfl rfl ?_
  refine aw_goto (pc := 47) hX 25 dX1_init_47 rfl ?_
  refine aw_iload_n (pc := 25) hX 1 dX1_init_25 rfl rfl ?_
  refine aw_bipush (pc := 26) hX (10 : Int32) dX1_init_26 (by decide) ?_
  refine aw_icmp_ge (pc := 28) hX 50 dX1_init_28 rfl (fun hc => absurd hc (by decide)) (fun _ => ?_)
  refine aw_aload_n (pc := 31) hX 0 dX1_init_31 rfl rfl ?_
  refine aw_getR (pc := 32) hX dX1_init_32 f_X1_11 rfl (by rfl) (q := 20) (by rfl) ?_
  refine aw_iload_n (pc := 35) hX 1 dX1_init_35 rfl rfl ?_
  refine aw_newOk (pc := 36) hX 3 57 (by rfl) dX1_init_36 (by decide) k_X1_9 w_new_3 w_ini_RX3 (Nat.le_of_ble_eq_true rfl) (Nat.le_of_ble_eq_true rfl) ?_
  refine aw_dup (pc := 39) hX dX1_init_39 rfl ?_
  refine aw_callIN (pc := 40) (As := []) hX h_X3_init l_X1_24 rfl (s_X3_init (by rfl) (by rfl)) rfl (Nat.le_of_ble_eq_true rfl) dX1_init_40 rfl ?_
  refine aw_aas (pc := 43) hX 9 dX1_init_43 (by rfl) (by rfl) (by decide) (by decide) (by decide) ?_
  refine aw_iincE (pc := 44) hX (10 : Int32) [.ref 19, .int (10 : Int32)] dX1_init_44 rfl (by decide) (by decide) rfl rfl ?_
  refine aw_goto (pc := 47) hX 25 dX1_init_47 rfl ?_
  refine aw_iload_n (pc := 25) hX 1 dX1_init_25 rfl rfl ?_
  refine aw_bipush (pc := 26) hX (10 : Int32) dX1_init_26 (by decide) ?_
  refine aw_icmp_ge (pc := 28) hX 50 dX1_init_28 rfl (fun _ => ?_) (fun hc => absurd (by decide) hc)
  exact aw_vret hX hZ dX1_init_50 rfl (by rfl) (by rfl) (by rfl) (by rfl) (by rfl) (Nat.le_of_ble_eq_true rfl)
def sP1 : Shp := [(6, 10), (5, 6), (8, 160), (0, 10), (8, 5), (8, 6), (8, 24), (8, 3), (8, 3), (0, 10), (8, 5), (8, 6), (8, 24), (8, 3), (8, 3), (3, 6), (8, 6), (8, 6), (8, 6), (1, 3), (10, 10), (3, 6), (8, 6), (8, 6), (8, 6), (3, 6), (8, 6), (8, 6), (8, 6), (3, 6), (8, 6), (8, 6), (8, 6), (3, 6), (8, 6), (8, 6), (8, 6), (3, 6), (8, 6), (8, 6), (8, 6), (3, 6), (8, 6), (8, 6), (8, 6), (3, 6), (8, 6), (8, 6), (8, 6), (3, 6), (8, 6), (8, 6), (8, 6), (3, 6), (8, 6), (8, 6), (8, 6), (3, 6), (8, 6), (8, 6), (8, 6), (10, 2), (9, 2), (4, 4), (8, 6), (8, 6), (8, 6), (2, 1), (8, 64), (3, 6), (8, 6), (8, 6), (8, 6), (3, 6), (8, 6), (8, 6), (8, 6)]
def iP1 : Hi := (iC_X3_init (iZ (iC_X3_init (iZ (iC_X2_init (iZ (iC_X4_init (iZ (iZ iH1 62) 63) 63 64) 67) 67 68) 69) 69 70) 73) 73 74)
def rP1 : Hr := (u2 (rC_X3_init (rZ (u2 (rC_X3_init (rZ (u2 (rC_X2_init (rZ (u2 (rC_X4_init (rZ (u2 (u2 (rZ (u2 rH1 0 4 (some 19)) 61) 0 5 (some 61)) 0 6 (some 62)) 63) 63 64) 0 7 (some 63)) 67) 67 68) 0 8 (some 67)) 69) 69 70) 61 0 (some 69)) 73) 73 74) 61 1 (some 73))
def lP1 : Hl := (lZ (lZ (u2 (lZ (lZ lH1 63) 67) 0 9 (0 : Int64)) 69) 73)
set_option maxRecDepth 100000 in
set_option maxHeartbeats 4000000 in
theorem s_X6_init {G : GP} : CD G mi_X6_init [.ref 0] [(6, 10)] (iZ (fun _ _ => 0) 0) (rZ (fun _ _ => none) 0) (lZ (fun _ _ => 0) 0) none sP1 iP1 rP1 lP1 := by
  refine CD.intro 1 (by rfl) (by decide) rfl fun X hX hZ => ?_
  show AW G X 0 0 [(6, 10)] (iZ (fun _ _ => 0) 0) (rZ (fun _ _ => none) 0) (lZ (fun _ _ => 0) 0) 0 [.ref 0, .null] []
  refine aw_aload_n (pc := 0) hX 0 dX6_init_0 rfl rfl ?_
  refine aw_objInit (pc := 1) hX dX6_init_1 l_X6_1 w_inst_obj w_code_obj (by decide) (Nat.le_of_ble_eq_true rfl) ?_
  refine aw_aload_n (pc := 4) hX 0 dX6_init_4 rfl rfl ?_
  refine aw_newOk (pc := 5) hX 5 1 (by rfl) dX6_init_5 (by decide) k_X6_7 w_new_5 w_ini_RX5 (Nat.le_of_ble_eq_true rfl) (Nat.le_of_ble_eq_true rfl) ?_
  refine aw_dup (pc := 8) hX dX6_init_8 rfl ?_
  refine aw_callIN (pc := 9) (As := []) hX h_X5_init l_X6_9 rfl (s_X5_init (by rfl) (by rfl)) rfl (Nat.le_of_ble_eq_true rfl) dX6_init_9 rfl ?_
  refine aw_putRF (pc := 12) hX dX6_init_12 f_X6_10 rfl rfl rfl rfl (fun _ => rfl) (fun _ => rfl) (by rfl) ?_
  refine aw_aload_n (pc := 15) hX 0 dX6_init_15 rfl rfl ?_
  refine aw_newOk (pc := 16) hX 0 3 (by rfl) dX6_init_16 (by decide) k_X6_16 w_new_0 w_ini_RX0 (Nat.le_of_ble_eq_true rfl) (Nat.le_of_ble_eq_true rfl) ?_
  refine aw_dup (pc := 19) hX dX6_init_19 rfl ?_
  refine aw_callIN (pc := 20) (As := []) hX h_X0_init l_X6_18 rfl (s_X0_init (by rfl) (by rfl)) rfl (Nat.le_of_ble_eq_true rfl) dX6_init_20 rfl ?_
  refine aw_putR (pc := 23) hX dX6_init_23 f_X6_19 rfl rfl (fun _ => rfl) (fun _ => rfl) (by rfl) ?_
  refine aw_aload_n (pc := 26) hX 0 dX6_init_26 rfl rfl ?_
  refine aw_newOk (pc := 27) hX 0 9 (by rfl) dX6_init_27 (by decide) k_X6_16 w_new_0 w_ini_RX0 (Nat.le_of_ble_eq_true rfl) (Nat.le_of_ble_eq_true rfl) ?_
  refine aw_dup (pc := 30) hX dX6_init_30 rfl ?_
  refine aw_callIN (pc := 31) (As := []) hX h_X0_init l_X6_18 rfl (s_X0_init (by rfl) (by rfl)) rfl (Nat.le_of_ble_eq_true rfl) dX6_init_31 rfl ?_
  refine aw_putR (pc := 34) hX dX6_init_34 f_X6_23 rfl rfl (fun _ => rfl) (fun _ => rfl) (by rfl) ?_
  refine aw_aload_n (pc := 37) hX 0 dX6_init_37 rfl rfl ?_
  refine aw_newOk (pc := 38) hX 3 15 (by rfl) dX6_init_38 (by decide) k_X6_26 w_new_3 w_ini_RX3 (Nat.le_of_ble_eq_true rfl) (Nat.le_of_ble_eq_true rfl) ?_
  refine aw_dup (pc := 41) hX dX6_init_41 rfl ?_
  refine aw_callIN (pc := 42) (As := []) hX h_X3_init l_X6_28 rfl (s_X3_init (by rfl) (by rfl)) rfl (Nat.le_of_ble_eq_true rfl) dX6_init_42 rfl ?_
  refine aw_putRF (pc := 45) hX dX6_init_45 f_X6_29 rfl rfl rfl rfl (fun _ => rfl) (fun _ => rfl) (by rfl) ?_
  refine aw_aload_n (pc := 48) hX 0 dX6_init_48 rfl rfl ?_
  refine aw_newOk (pc := 49) hX 1 19 (by rfl) dX6_init_49 (by decide) k_X6_33 w_new_1 w_ini_RX1 (Nat.le_of_ble_eq_true rfl) (Nat.le_of_ble_eq_true rfl) ?_
  refine aw_dup (pc := 52) hX dX6_init_52 rfl ?_
  refine aw_callI (pc := 53) (As := []) hX h_X1_init l_X6_35 rfl s_X1_init rfl (Nat.le_of_ble_eq_true rfl) dX6_init_53 rfl ?_
  refine aw_putRF (pc := 56) hX dX6_init_56 f_X6_36 rfl rfl rfl rfl (fun _ => rfl) (fun _ => rfl) (by rfl) ?_
  refine aw_aload_n (pc := 59) hX 0 dX6_init_59 rfl rfl ?_
  refine aw_iconst (pc := 60) hX (2 : Int32) dX6_init_60 (by decide) ?_
  refine aw_newQk (pc := 61) hX 2 61 (by rfl) dX6_init_61 k_X6_26 (by decide) (by decide) (by decide) (Nat.le_of_ble_eq_true rfl) (Nat.le_of_ble_eq_true rfl) ?_
  refine aw_putRF (pc := 64) hX dX6_init_64 f_X6_40 rfl rfl rfl rfl (fun _ => rfl) (fun _ => rfl) (by rfl) ?_
  refine aw_aload_n (pc := 67) hX 0 dX6_init_67 rfl rfl ?_
  refine aw_iconst (pc := 68) hX (2 : Int32) dX6_init_68 (by decide) ?_
  refine aw_newZk (pc := 69) hX 2 62 (by rfl) dX6_init_69 (by decide) (by decide) (by decide) (Nat.le_of_ble_eq_true rfl) (Nat.le_of_ble_eq_true rfl) ?_
  refine aw_putRF (pc := 71) hX dX6_init_71 f_X6_44 rfl rfl rfl rfl (fun _ => rfl) (fun _ => rfl) (by rfl) ?_
  refine aw_aload_n (pc := 74) hX 0 dX6_init_74 rfl rfl ?_
  refine aw_newOk (pc := 75) hX 4 63 (by rfl) dX6_init_75 (by decide) k_X6_48 w_new_4 w_ini_RX4 (Nat.le_of_ble_eq_true rfl) (Nat.le_of_ble_eq_true rfl) ?_
  refine aw_dup (pc := 78) hX dX6_init_78 rfl ?_
  refine aw_callIN (pc := 79) (As := []) hX h_X4_init l_X6_50 rfl (s_X4_init (by rfl) (by rfl)) rfl (Nat.le_of_ble_eq_true rfl) dX6_init_79 rfl ?_
  refine aw_putRF (pc := 82) hX dX6_init_82 f_X6_51 rfl rfl rfl rfl (fun _ => rfl) (fun _ => rfl) (by rfl) ?_
  refine aw_aload_n (pc := 85) hX 0 dX6_init_85 rfl rfl ?_
  refine aw_newOk (pc := 86) hX 2 67 (by rfl) dX6_init_86 (by decide) k_X6_55 w_new_2 w_ini_RX2 (Nat.le_of_ble_eq_true rfl) (Nat.le_of_ble_eq_true rfl) ?_
  refine aw_dup (pc := 89) hX dX6_init_89 rfl ?_
  refine aw_callIN (pc := 90) (As := []) hX h_X2_init l_X6_57 rfl (s_X2_init (by rfl) (by rfl)) rfl (Nat.le_of_ble_eq_true rfl) dX6_init_90 rfl ?_
  refine aw_putRF (pc := 93) hX dX6_init_93 f_X6_58 rfl rfl rfl rfl (fun _ => rfl) (fun _ => rfl) (by rfl) ?_
  refine aw_aload_n (pc := 96) hX 0 dX6_init_96 rfl rfl ?_
  refine aw_lconst (pc := 97) hX (0 : Int64) dX6_init_97 (by decide) ?_
  refine aw_putL (pc := 98) hX dX6_init_98 f_X6_62 rfl rfl rfl rfl (by rfl) ?_
  refine aw_iconst (pc := 101) hX (0 : Int32) dX6_init_101 (by decide) ?_
  refine aw_istore_nE (pc := 102) hX 1 [.ref 0, .int (0 : Int32)] dX6_init_102 rfl (by decide) rfl rfl ?_
  refine aw_iload_n (pc := 103) hX 1 dX6_init_103 rfl rfl ?_
  refine aw_iconst (pc := 104) hX (2 : Int32) dX6_init_104 (by decide) ?_
  refine aw_icmp_ge (pc := 105) hX 127 dX6_init_105 rfl (fun hc => absurd hc (by decide)) (fun _ => ?_)
  refine aw_aload_n (pc := 108) hX 0 dX6_init_108 rfl rfl ?_
  refine aw_getR (pc := 109) hX dX6_init_109 f_X6_40 rfl (by rfl) (q := 61) (by rfl) ?_
  refine aw_iload_n (pc := 112) hX 1 dX6_init_112 rfl rfl ?_
  refine aw_newOk (pc := 113) hX 3 69 (by rfl) dX6_init_113 (by decide) k_X6_26 w_new_3 w_ini_RX3 (Nat.le_of_ble_eq_true rfl) (Nat.le_of_ble_eq_true rfl) ?_
  refine aw_dup (pc := 116) hX dX6_init_116 rfl ?_
  refine aw_callIN (pc := 117) (As := []) hX h_X3_init l_X6_28 rfl (s_X3_init (by rfl) (by rfl)) rfl (Nat.le_of_ble_eq_true rfl) dX6_init_117 rfl ?_
  refine aw_aas (pc := 120) hX 0 dX6_init_120 (by rfl) (by rfl) (by decide) (by decide) (by decide) ?_
  refine aw_iincE (pc := 121) hX (1 : Int32) [.ref 0, .int (1 : Int32)] dX6_init_121 rfl (by decide) (by decide) rfl rfl ?_
  refine aw_goto (pc := 124) hX 103 dX6_init_124 rfl ?_
  refine aw_iload_n (pc := 103) hX 1 dX6_init_103 rfl rfl ?_
  refine aw_iconst (pc := 104) hX (2 : Int32) dX6_init_104 (by decide) ?_
  refine aw_icmp_ge (pc := 105) hX 127 dX6_init_105 rfl (fun hc => absurd hc (by decide)) (fun _ => ?_)
  refine aw_aload_n (pc := 108) hX 0 dX6_init_108 rfl rfl ?_
  refine aw_getR (pc := 109) hX dX6_init_109 f_X6_40 rfl (by rfl) (q := 61) (by rfl) ?_
  refine aw_iload_n (pc := 112) hX 1 dX6_init_112 rfl rfl ?_
  refine aw_newOk (pc := 113) hX 3 73 (by rfl) dX6_init_113 (by decide) k_X6_26 w_new_3 w_ini_RX3 (Nat.le_of_ble_eq_true rfl) (Nat.le_of_ble_eq_true rfl) ?_
  refine aw_dup (pc := 116) hX dX6_init_116 rfl ?_
  refine aw_callIN (pc := 117) (As := []) hX h_X3_init l_X6_28 rfl (s_X3_init (by rfl) (by rfl)) rfl (Nat.le_of_ble_eq_true rfl) dX6_init_117 rfl ?_
  refine aw_aas (pc := 120) hX 1 dX6_init_120 (by rfl) (by rfl) (by decide) (by decide) (by decide) ?_
  refine aw_iincE (pc := 121) hX (2 : Int32) [.ref 0, .int (2 : Int32)] dX6_init_121 rfl (by decide) (by decide) rfl rfl ?_
  refine aw_goto (pc := 124) hX 103 dX6_init_124 rfl ?_
  refine aw_iload_n (pc := 103) hX 1 dX6_init_103 rfl rfl ?_
  refine aw_iconst (pc := 104) hX (2 : Int32) dX6_init_104 (by decide) ?_
  refine aw_icmp_ge (pc := 105) hX 127 dX6_init_105 rfl (fun _ => ?_) (fun hc => absurd (by decide) hc)
  exact aw_vret hX hZ dX6_init_127 rfl (by rfl) (by rfl) (by rfl) (by rfl) (by rfl) (Nat.le_of_ble_eq_true rfl)
def iM1 : Hi := (iZ (iZ (iZ (iZ (iZ (iZ (iZ (iZ (iZ (iZ (iZ (iZ (iZ (u2 (iZ (iZ (iZ (iZ (iZ (iZ iP1 77) 78) 79) 80) 81) 82) 77 9 (3 : Int32)) 83) 84) 85) 86) 87) 88) 89) 90) 91) 92) 93) 94) 95)
def rM1 : Hr := (u2 (u2 (u2 (u2 (u2 (u2 (u2 (u2 (u2 (u2 (u2 (u2 (u2 (u2 (u2 (u2 (u2 (u2 (rZ rP1 77) 77 1 (some 78)) 77 3 (some 79)) 77 5 (some 80)) 77 7 (some 81)) 77 8 (some 82)) 77 10 (some 83)) 77 11 (some 84)) 77 13 (some 85)) 77 14 (some 86)) 77 15 (some 87)) 77 18 (some 88)) 77 25 (some 89)) 77 27 (some 90)) 77 29 (some 91)) 77 31 (some 92)) 77 32 (some 93)) 77 34 (some 94)) 77 35 (some 95))
def lM1 : Hl := (lZ lP1 77)
set_option maxRecDepth 100000 in
set_option maxHeartbeats 4000000 in
theorem s_X7_init {G : GP} : CD G mi_X7_init [.ref 77] (sP1 ++ [(7, 36)]) (iZ iP1 77) (rZ rP1 77) (lZ lP1 77) none S0 iM1 rM1 lM1 := by
  refine CD.intro 0 (by rfl) (by decide) rfl fun X hX hZ => ?_
  show AW G X 0 0 (sP1 ++ [(7, 36)]) (iZ iP1 77) (rZ rP1 77) (lZ lP1 77) 0 [.ref 77] []
  refine aw_aload_n (pc := 0) hX 0 dX7_init_0 rfl rfl ?_
  refine aw_objInit (pc := 1) hX dX7_init_1 l_X7_1 w_inst_obj w_code_obj (by decide) (Nat.le_of_ble_eq_true rfl) ?_
  refine aw_aload_n (pc := 4) hX 0 dX7_init_4 rfl rfl ?_
  refine aw_iconst (pc := 5) hX (5 : Int32) dX7_init_5 (by decide) ?_
  refine aw_newIk (pc := 6) hX 5 78 (by rfl) dX7_init_6 (by decide) (by decide) (by decide) (Nat.le_of_ble_eq_true rfl) (Nat.le_of_ble_eq_true rfl) ?_
  refine aw_putRF (pc := 8) hX dX7_init_8 f_X7_7 rfl rfl rfl rfl (fun _ => rfl) (fun _ => rfl) (by rfl) ?_
  refine aw_aload_n (pc := 11) hX 0 dX7_init_11 rfl rfl ?_
  refine aw_bipush (pc := 12) hX (6 : Int32) dX7_init_12 (by decide) ?_
  refine aw_newIk (pc := 14) hX 6 79 (by rfl) dX7_init_14 (by decide) (by decide) (by decide) (Nat.le_of_ble_eq_true rfl) (Nat.le_of_ble_eq_true rfl) ?_
  refine aw_putRF (pc := 16) hX dX7_init_16 f_X7_13 rfl rfl rfl rfl (fun _ => rfl) (fun _ => rfl) (by rfl) ?_
  refine aw_aload_n (pc := 19) hX 0 dX7_init_19 rfl rfl ?_
  refine aw_bipush (pc := 20) hX (24 : Int32) dX7_init_20 (by decide) ?_
  refine aw_newIk (pc := 22) hX 24 80 (by rfl) dX7_init_22 (by decide) (by decide) (by decide) (Nat.le_of_ble_eq_true rfl) (Nat.le_of_ble_eq_true rfl) ?_
  refine aw_putRF (pc := 24) hX dX7_init_24 f_X7_16 rfl rfl rfl rfl (fun _ => rfl) (fun _ => rfl) (by rfl) ?_
  refine aw_aload_n (pc := 27) hX 0 dX7_init_27 rfl rfl ?_
  refine aw_iconst (pc := 28) hX (3 : Int32) dX7_init_28 (by decide) ?_
  refine aw_newIk (pc := 29) hX 3 81 (by rfl) dX7_init_29 (by decide) (by decide) (by decide) (Nat.le_of_ble_eq_true rfl) (Nat.le_of_ble_eq_true rfl) ?_
  refine aw_putRF (pc := 31) hX dX7_init_31 f_X7_19 rfl rfl rfl rfl (fun _ => rfl) (fun _ => rfl) (by rfl) ?_
  refine aw_aload_n (pc := 34) hX 0 dX7_init_34 rfl rfl ?_
  refine aw_iconst (pc := 35) hX (3 : Int32) dX7_init_35 (by decide) ?_
  refine aw_newIk (pc := 36) hX 3 82 (by rfl) dX7_init_36 (by decide) (by decide) (by decide) (Nat.le_of_ble_eq_true rfl) (Nat.le_of_ble_eq_true rfl) ?_
  refine aw_putRF (pc := 38) hX dX7_init_38 f_X7_22 rfl rfl rfl rfl (fun _ => rfl) (fun _ => rfl) (by rfl) ?_
  refine aw_aload_n (pc := 41) hX 0 dX7_init_41 rfl rfl ?_
  refine aw_iconst (pc := 42) hX (3 : Int32) dX7_init_42 (by decide) ?_
  refine aw_putI (pc := 43) hX dX7_init_43 f_X7_25 rfl rfl (by first | rfl | decide) (by first | rfl | decide) (by rfl) ?_
  refine aw_aload_n (pc := 46) hX 0 dX7_init_46 rfl rfl ?_
  refine aw_bipush (pc := 47) hX (21 : Int32) dX7_init_47 (by decide) ?_
  refine aw_newIk (pc := 49) hX 21 83 (by rfl) dX7_init_49 (by decide) (by decide) (by decide) (Nat.le_of_ble_eq_true rfl) (Nat.le_of_ble_eq_true rfl) ?_
  refine aw_putRF (pc := 51) hX dX7_init_51 f_X7_29 rfl rfl rfl rfl (fun _ => rfl) (fun _ => rfl) (by rfl) ?_
  refine aw_aload_n (pc := 54) hX 0 dX7_init_54 rfl rfl ?_
  refine aw_sipush (pc := 55) hX (210 : Int32) dX7_init_55 (by decide) ?_
  refine aw_newIk (pc := 58) hX 210 84 (by rfl) dX7_init_58 (by decide) (by decide) (by decide) (Nat.le_of_ble_eq_true rfl) (Nat.le_of_ble_eq_true rfl) ?_
  refine aw_putRF (pc := 60) hX dX7_init_60 f_X7_32 rfl rfl rfl rfl (fun _ => rfl) (fun _ => rfl) (by rfl) ?_
  refine aw_aload_n (pc := 63) hX 0 dX7_init_63 rfl rfl ?_
  refine aw_bipush (pc := 64) hX (42 : Int32) dX7_init_64 (by decide) ?_
  refine aw_newIk (pc := 66) hX 42 85 (by rfl) dX7_init_66 (by decide) (by decide) (by decide) (Nat.le_of_ble_eq_true rfl) (Nat.le_of_ble_eq_true rfl) ?_
  refine aw_putRF (pc := 68) hX dX7_init_68 f_X7_35 rfl rfl rfl rfl (fun _ => rfl) (fun _ => rfl) (by rfl) ?_
  refine aw_aload_n (pc := 71) hX 0 dX7_init_71 rfl rfl ?_
  refine aw_iconst (pc := 72) hX (2 : Int32) dX7_init_72 (by decide) ?_
  refine aw_newZk (pc := 73) hX 2 86 (by rfl) dX7_init_73 (by decide) (by decide) (by decide) (Nat.le_of_ble_eq_true rfl) (Nat.le_of_ble_eq_true rfl) ?_
  refine aw_putRF (pc := 75) hX dX7_init_75 f_X7_38 rfl rfl rfl rfl (fun _ => rfl) (fun _ => rfl) (by rfl) ?_
  refine aw_aload_n (pc := 78) hX 0 dX7_init_78 rfl rfl ?_
  refine aw_bipush (pc := 79) hX (18 : Int32) dX7_init_79 (by decide) ?_
  refine aw_newIk (pc := 81) hX 18 87 (by rfl) dX7_init_81 (by decide) (by decide) (by decide) (Nat.le_of_ble_eq_true rfl) (Nat.le_of_ble_eq_true rfl) ?_
  refine aw_putRF (pc := 83) hX dX7_init_83 f_X7_42 rfl rfl rfl rfl (fun _ => rfl) (fun _ => rfl) (by rfl) ?_
  refine aw_aload_n (pc := 86) hX 0 dX7_init_86 rfl rfl ?_
  refine aw_sipush (pc := 87) hX (160 : Int32) dX7_init_87 (by decide) ?_
  refine aw_newIk (pc := 90) hX 160 88 (by rfl) dX7_init_90 (by decide) (by decide) (by decide) (Nat.le_of_ble_eq_true rfl) (Nat.le_of_ble_eq_true rfl) ?_
  refine aw_putRF (pc := 92) hX dX7_init_92 f_X7_45 rfl rfl rfl rfl (fun _ => rfl) (fun _ => rfl) (by rfl) ?_
  refine aw_aload_n (pc := 95) hX 0 dX7_init_95 rfl rfl ?_
  refine aw_iconst (pc := 96) hX (5 : Int32) dX7_init_96 (by decide) ?_
  refine aw_newIk (pc := 97) hX 5 89 (by rfl) dX7_init_97 (by decide) (by decide) (by decide) (Nat.le_of_ble_eq_true rfl) (Nat.le_of_ble_eq_true rfl) ?_
  refine aw_putRF (pc := 99) hX dX7_init_99 f_X7_48 rfl rfl rfl rfl (fun _ => rfl) (fun _ => rfl) (by rfl) ?_
  refine aw_aload_n (pc := 102) hX 0 dX7_init_102 rfl rfl ?_
  refine aw_bipush (pc := 103) hX (6 : Int32) dX7_init_103 (by decide) ?_
  refine aw_newIk (pc := 105) hX 6 90 (by rfl) dX7_init_105 (by decide) (by decide) (by decide) (Nat.le_of_ble_eq_true rfl) (Nat.le_of_ble_eq_true rfl) ?_
  refine aw_putRF (pc := 107) hX dX7_init_107 f_X7_51 rfl rfl rfl rfl (fun _ => rfl) (fun _ => rfl) (by rfl) ?_
  refine aw_aload_n (pc := 110) hX 0 dX7_init_110 rfl rfl ?_
  refine aw_bipush (pc := 111) hX (24 : Int32) dX7_init_111 (by decide) ?_
  refine aw_newIk (pc := 113) hX 24 91 (by rfl) dX7_init_113 (by decide) (by decide) (by decide) (Nat.le_of_ble_eq_true rfl) (Nat.le_of_ble_eq_true rfl) ?_
  refine aw_putRF (pc := 115) hX dX7_init_115 f_X7_54 rfl rfl rfl rfl (fun _ => rfl) (fun _ => rfl) (by rfl) ?_
  refine aw_aload_n (pc := 118) hX 0 dX7_init_118 rfl rfl ?_
  refine aw_iconst (pc := 119) hX (3 : Int32) dX7_init_119 (by decide) ?_
  refine aw_newIk (pc := 120) hX 3 92 (by rfl) dX7_init_120 (by decide) (by decide) (by decide) (Nat.le_of_ble_eq_true rfl) (Nat.le_of_ble_eq_true rfl) ?_
  refine aw_putRF (pc := 122) hX dX7_init_122 f_X7_57 rfl rfl rfl rfl (fun _ => rfl) (fun _ => rfl) (by rfl) ?_
  refine aw_aload_n (pc := 125) hX 0 dX7_init_125 rfl rfl ?_
  refine aw_iconst (pc := 126) hX (3 : Int32) dX7_init_126 (by decide) ?_
  refine aw_newIk (pc := 127) hX 3 93 (by rfl) dX7_init_127 (by decide) (by decide) (by decide) (Nat.le_of_ble_eq_true rfl) (Nat.le_of_ble_eq_true rfl) ?_
  refine aw_putRF (pc := 129) hX dX7_init_129 f_X7_60 rfl rfl rfl rfl (fun _ => rfl) (fun _ => rfl) (by rfl) ?_
  refine aw_aload_n (pc := 132) hX 0 dX7_init_132 rfl rfl ?_
  refine aw_bipush (pc := 133) hX (6 : Int32) dX7_init_133 (by decide) ?_
  refine aw_newIk (pc := 135) hX 6 94 (by rfl) dX7_init_135 (by decide) (by decide) (by decide) (Nat.le_of_ble_eq_true rfl) (Nat.le_of_ble_eq_true rfl) ?_
  refine aw_putRF (pc := 137) hX dX7_init_137 f_X7_63 rfl rfl rfl rfl (fun _ => rfl) (fun _ => rfl) (by rfl) ?_
  refine aw_aload_n (pc := 140) hX 0 dX7_init_140 rfl rfl ?_
  refine aw_bipush (pc := 141) hX (6 : Int32) dX7_init_141 (by decide) ?_
  refine aw_newIk (pc := 143) hX 6 95 (by rfl) dX7_init_143 (by decide) (by decide) (by decide) (Nat.le_of_ble_eq_true rfl) (Nat.le_of_ble_eq_true rfl) ?_
  refine aw_putRF (pc := 145) hX dX7_init_145 f_X7_66 rfl rfl rfl rfl (fun _ => rfl) (fun _ => rfl) (by rfl) ?_
  exact aw_vret hX hZ dX7_init_148 rfl (by rfl) (by rfl) (by rfl) (by rfl) (by rfl) (Nat.le_of_ble_eq_true rfl)
