def b_L_law_831 (xs : (Nat → Int32)) (nx : Nat) (k18 : Nat → Nat → Hi → Hl → Int32 → Option (Bool)) (c : Nat) (d : Nat) (I : Hi) (L : Hl) (x3 : Int32) : Option Bool := k18 c d I L (x3 + 5)
set_option maxRecDepth 100000 in
set_option maxHeartbeats 4000000 in
theorem t_L_law_831 {G : GP} {X : CX} (hX : XOK G X mi_L_law) (hZ : XL G X) {k18 : Nat → Nat → Hi → Hl → Int32 → Option (Bool)} (hk18 : ∀ (c : Nat) (d : Nat) (I : Hi) (L : Hl) (x3 : Int32), isC c → isC d → k18 c d I L x3 = some true → AW G X 96 1277 S0 I (R0 c d) L 18 [.float 0, .ref 0, .ref 77, .int x3] []) (c : Nat) (d : Nat) (I : Hi) (L : Hl) (x3 : Int32) (hc : isC c) (hd : isC d) (h : b_L_law_831 (gX G) (gL G) k18 c d I L x3 = some true) : AW G X 96 1277 S0 I (R0 c d) L 831 [.float 0, .ref 0, .ref 77, .int x3] [] := by
  rw [b_L_law_831] at h
  refine aw_iincE (pc := 831) hX (x3 + 5) [.float 0, .ref 0, .ref 77, .int (x3 + 5)] dL_law_831 rfl rfl (by decide) rfl rfl ?_
  refine aw_goto (pc := 834) hX 18 dL_law_834 rfl ?_
  exact AW.lo (hk18 c d I L (x3 + 5) hc hd h) (And.intro (Or.inr rfl) (And.intro (Or.inr rfl) (And.intro (Or.inr rfl) (And.intro (Or.inr rfl) trivial))))
def b_L_law_18 (xs : (Nat → Int32)) (nx : Nat)  : Nat → Nat → Nat → Hi → Hl → Int32 → Option Bool
  | 0, _, _, _, _, _ => none
  | n + 1, c, d, I, L, x3 => if ((nI nx) - (5 : Int32)) < x3 then (some true) else (if vinb x3 nx then if ((xs (x3).toNatClampNeg) &&& (31 : Int32)) = (0 : Int32) then (if vinb (x3 + (1 : Int32)) nx then (f_X6_type I (xs ((x3 + (1 : Int32))).toNatClampNeg)).bind fun r158 => if vinb (x3 + (1 : Int32)) nx then (f_X7_type r158.2 (xs ((x3 + (1 : Int32))).toNatClampNeg)).bind fun r167 => if r158.1 = r167.1 then (b_L_law_831 xs nx (b_L_law_18 xs nx n) c d r167.2 L x3) else (some false) else none else none) else (if ((xs (x3).toNatClampNeg) &&& (31 : Int32)) = (1 : Int32) then ((f_X6_clear I).bind fun r176 => (f_X7_clear r176.2).bind fun r180 => if r176.1 = r180.1 then (b_L_law_831 xs nx (b_L_law_18 xs nx n) c d r180.2 L x3) else (some false)) else (if ((xs (x3).toNatClampNeg) &&& (31 : Int32)) = (2 : Int32) then ((f_X6_court c d I).bind fun r189 => (f_X7_court r189.2.1).bind fun r193 => if r189.1 = r193.1 then (b_L_law_831 xs nx (b_L_law_18 xs nx n) r189.2.2.1 r189.2.2.2 r193.2 L x3) else (some false)) else (if ((xs (x3).toNatClampNeg) &&& (31 : Int32)) = (3 : Int32) then (if vinb (x3 + (1 : Int32)) nx then if vinb (x3 + (2 : Int32)) nx then (f_X6_leaf c d I (xs ((x3 + (1 : Int32))).toNatClampNeg) (xs ((x3 + (2 : Int32))).toNatClampNeg)).bind fun r212 => if vinb (x3 + (1 : Int32)) nx then if vinb (x3 + (2 : Int32)) nx then (f_X7_leaf I (xs ((x3 + (1 : Int32))).toNatClampNeg) (xs ((x3 + (2 : Int32))).toNatClampNeg)).bind fun r226 => if r212 = r226 then (b_L_law_831 xs nx (b_L_law_18 xs nx n) c d I L x3) else (some false) else none else none else none else none) else (if ((xs (x3).toNatClampNeg) &&& (31 : Int32)) = (4 : Int32) then (if vinb (x3 + (1 : Int32)) nx then if vinb (x3 + (2 : Int32)) nx then (f_X6_goer c d I (xs ((x3 + (1 : Int32))).toNatClampNeg) (xs ((x3 + (2 : Int32))).toNatClampNeg)).bind fun r245 => if vinb (x3 + (1 : Int32)) nx then if vinb (x3 + (2 : Int32)) nx then (f_X7_goer I (xs ((x3 + (1 : Int32))).toNatClampNeg) (xs ((x3 + (2 : Int32))).toNatClampNeg)).bind fun r259 => if r245 = r259 then (b_L_law_831 xs nx (b_L_law_18 xs nx n) c d I L x3) else (some false) else none else none else none else none) else (if ((xs (x3).toNatClampNeg) &&& (31 : Int32)) = (5 : Int32) then (if vinb (x3 + (1 : Int32)) nx then if vinb (x3 + (2 : Int32)) nx then (f_X6_sister c d I (xs ((x3 + (1 : Int32))).toNatClampNeg) (xs ((x3 + (2 : Int32))).toNatClampNeg)).bind fun r278 => if vinb (x3 + (1 : Int32)) nx then if vinb (x3 + (2 : Int32)) nx then (f_X7_sister I (xs ((x3 + (1 : Int32))).toNatClampNeg) (xs ((x3 + (2 : Int32))).toNatClampNeg)).bind fun r292 => if r278 = r292 then (b_L_law_831 xs nx (b_L_law_18 xs nx n) c d I L x3) else (some false) else none else none else none else none) else (if ((xs (x3).toNatClampNeg) &&& (31 : Int32)) = (6 : Int32) then (if vinb (x3 + (1 : Int32)) nx then (f_X6_now c d I (xs ((x3 + (1 : Int32))).toNatClampNeg)).bind fun r306 => if vinb (x3 + (1 : Int32)) nx then (f_X7_now I (xs ((x3 + (1 : Int32))).toNatClampNeg)).bind fun r315 => if r306 = r315 then (b_L_law_831 xs nx (b_L_law_18 xs nx n) c d I L x3) else (some false) else none else none) else (if ((xs (x3).toNatClampNeg) &&& (31 : Int32)) = (7 : Int32) then (if vinb (x3 + (1 : Int32)) nx then (f_X6_comes c d I (xs ((x3 + (1 : Int32))).toNatClampNeg)).bind fun r329 => if vinb (x3 + (1 : Int32)) nx then (f_X7_comes r329.2 (xs ((x3 + (1 : Int32))).toNatClampNeg)).bind fun r338 => if r329.1 = r338.1 then (b_L_law_831 xs nx (b_L_law_18 xs nx n) c d r338.2 L x3) else (some false) else none else none) else (if ((xs (x3).toNatClampNeg) &&& (31 : Int32)) = (8 : Int32) then (if vinb (x3 + (1 : Int32)) nx then if vinb (x3 + (2 : Int32)) nx then (f_X6_says c d I (xs ((x3 + (1 : Int32))).toNatClampNeg) (xs ((x3 + (2 : Int32))).toNatClampNeg)).bind fun r357 => if vinb (x3 + (1 : Int32)) nx then if vinb (x3 + (2 : Int32)) nx then (f_X7_says r357.2 (xs ((x3 + (1 : Int32))).toNatClampNeg) (xs ((x3 + (2 : Int32))).toNatClampNeg)).bind fun r371 => if r357.1 = r371.1 then (b_L_law_831 xs nx (b_L_law_18 xs nx n) c d r371.2 L x3) else (some false) else none else none else none else none) else (if ((xs (x3).toNatClampNeg) &&& (31 : Int32)) = (9 : Int32) then (if vinb (x3 + (1 : Int32)) nx then (f_X6_minutes I (xs ((x3 + (1 : Int32))).toNatClampNeg)).bind fun r385 => if vinb (x3 + (1 : Int32)) nx then (f_X7_minutes r385.2 (xs ((x3 + (1 : Int32))).toNatClampNeg)).bind fun r394 => if r385.1 = r394.1 then (b_L_law_831 xs nx (b_L_law_18 xs nx n) c d r394.2 L x3) else (some false) else none else none) else (if ((xs (x3).toNatClampNeg) &&& (31 : Int32)) = (10 : Int32) then ((f_X6_undo I).bind fun r403 => (f_X7_undo r403.2).bind fun r407 => if r403.1 = r407.1 then (b_L_law_831 xs nx (b_L_law_18 xs nx n) c d r407.2 L x3) else (some false)) else (if ((xs (x3).toNatClampNeg) &&& (31 : Int32)) = (11 : Int32) then (if vinb (x3 + (1 : Int32)) nx then if vinb (x3 + (2 : Int32)) nx then (f_X6_fewest c d I (xs ((x3 + (1 : Int32))).toNatClampNeg) (xs ((x3 + (2 : Int32))).toNatClampNeg)).bind fun r426 => if vinb (x3 + (1 : Int32)) nx then if vinb (x3 + (2 : Int32)) nx then (f_X7_fewest I (xs ((x3 + (1 : Int32))).toNatClampNeg) (xs ((x3 + (2 : Int32))).toNatClampNeg)).bind fun r440 => if r426 = r440 then (b_L_law_831 xs nx (b_L_law_18 xs nx n) c d I L x3) else (some false) else none else none else none else none) else (if ((xs (x3).toNatClampNeg) &&& (31 : Int32)) = (12 : Int32) then (if vinb (x3 + (1 : Int32)) nx then (f_X6_line c d I (xs ((x3 + (1 : Int32))).toNatClampNeg)).bind fun r454 => if vinb (x3 + (1 : Int32)) nx then (f_X7_line r454.2 (xs ((x3 + (1 : Int32))).toNatClampNeg)).bind fun r463 => if r454.1 = r463.1 then (b_L_law_831 xs nx (b_L_law_18 xs nx n) c d r463.2 L x3) else (some false) else none else none) else (if ((xs (x3).toNatClampNeg) &&& (31 : Int32)) = (13 : Int32) then (if vinb (x3 + (1 : Int32)) nx then if vinb (x3 + (2 : Int32)) nx then if vinb (x3 + (3 : Int32)) nx then (f_X6_sees c d I (xs ((x3 + (1 : Int32))).toNatClampNeg) (xs ((x3 + (2 : Int32))).toNatClampNeg) (xs ((x3 + (3 : Int32))).toNatClampNeg)).bind fun r487 => if vinb (x3 + (1 : Int32)) nx then if vinb (x3 + (2 : Int32)) nx then if vinb (x3 + (3 : Int32)) nx then (f_X7_sees r487.2 (xs ((x3 + (1 : Int32))).toNatClampNeg) (xs ((x3 + (2 : Int32))).toNatClampNeg) (xs ((x3 + (3 : Int32))).toNatClampNeg)).bind fun r506 => if r487.1 = r506.1 then (b_L_law_831 xs nx (b_L_law_18 xs nx n) c d r506.2 L x3) else (some false) else none else none else none else none else none else none) else (if ((xs (x3).toNatClampNeg) &&& (31 : Int32)) = (14 : Int32) then ((f_X6_forget I).bind fun r515 => (f_X7_forget r515.2).bind fun r519 => if r515.1 = r519.1 then (b_L_law_831 xs nx (b_L_law_18 xs nx n) c d r519.2 L x3) else (some false)) else (if ((xs (x3).toNatClampNeg) &&& (31 : Int32)) = (15 : Int32) then (if vinb (x3 + (1 : Int32)) nx then (f_X6_had c d I (xs ((x3 + (1 : Int32))).toNatClampNeg)).bind fun r533 => if vinb (x3 + (1 : Int32)) nx then (f_X7_had I (xs ((x3 + (1 : Int32))).toNatClampNeg)).bind fun r542 => if r533 = r542 then (b_L_law_831 xs nx (b_L_law_18 xs nx n) c d I L x3) else (some false) else none else none) else (if ((xs (x3).toNatClampNeg) &&& (31 : Int32)) = (16 : Int32) then (if vinb (x3 + (1 : Int32)) nx then (f_X6_ask c d I (xs ((x3 + (1 : Int32))).toNatClampNeg)).bind fun r556 => if vinb (x3 + (1 : Int32)) nx then (f_X7_ask I (xs ((x3 + (1 : Int32))).toNatClampNeg)).bind fun r565 => if r556 = r565 then (b_L_law_831 xs nx (b_L_law_18 xs nx n) c d I L x3) else (some false) else none else none) else (if ((xs (x3).toNatClampNeg) &&& (31 : Int32)) = (17 : Int32) then (if vinb (x3 + (1 : Int32)) nx then if vinb (x3 + (2 : Int32)) nx then (f_X6_tale c d I (xs ((x3 + (1 : Int32))).toNatClampNeg) (xs ((x3 + (2 : Int32))).toNatClampNeg)).bind fun r584 => if vinb (x3 + (1 : Int32)) nx then if vinb (x3 + (2 : Int32)) nx then (f_X7_tale I (xs ((x3 + (1 : Int32))).toNatClampNeg) (xs ((x3 + (2 : Int32))).toNatClampNeg)).bind fun r598 => if r584 = r598 then (b_L_law_831 xs nx (b_L_law_18 xs nx n) c d I L x3) else (some false) else none else none else none else none) else (if ((xs (x3).toNatClampNeg) &&& (31 : Int32)) = (18 : Int32) then (if vinb (x3 + (1 : Int32)) nx then if vinb (x3 + (2 : Int32)) nx then (f_X6_first c d I (xs ((x3 + (1 : Int32))).toNatClampNeg) (xs ((x3 + (2 : Int32))).toNatClampNeg)).bind fun r617 => if vinb (x3 + (1 : Int32)) nx then if vinb (x3 + (2 : Int32)) nx then (f_X7_first I (xs ((x3 + (1 : Int32))).toNatClampNeg) (xs ((x3 + (2 : Int32))).toNatClampNeg)).bind fun r631 => if r617 = r631 then (b_L_law_831 xs nx (b_L_law_18 xs nx n) c d I L x3) else (some false) else none else none else none else none) else (if ((xs (x3).toNatClampNeg) &&& (31 : Int32)) = (19 : Int32) then (if vinb (x3 + (1 : Int32)) nx then (f_X6_when c d I (xs ((x3 + (1 : Int32))).toNatClampNeg)).bind fun r645 => if vinb (x3 + (1 : Int32)) nx then (f_X7_when I (xs ((x3 + (1 : Int32))).toNatClampNeg)).bind fun r654 => if r645 = r654 then (b_L_law_831 xs nx (b_L_law_18 xs nx n) c d I L x3) else (some false) else none else none) else (if ((xs (x3).toNatClampNeg) &&& (31 : Int32)) = (20 : Int32) then (if vinb (x3 + (1 : Int32)) nx then if vinb (x3 + (2 : Int32)) nx then if vinb (x3 + (3 : Int32)) nx then if vinb (x3 + (4 : Int32)) nx then (f_X6_odds (xs ((x3 + (1 : Int32))).toNatClampNeg) (xs ((x3 + (2 : Int32))).toNatClampNeg) (xs ((x3 + (3 : Int32))).toNatClampNeg) (xs ((x3 + (4 : Int32))).toNatClampNeg)).bind fun r683 => if vinb (x3 + (1 : Int32)) nx then if vinb (x3 + (2 : Int32)) nx then if vinb (x3 + (3 : Int32)) nx then if vinb (x3 + (4 : Int32)) nx then (f_X7_odds (xs ((x3 + (1 : Int32))).toNatClampNeg) (xs ((x3 + (2 : Int32))).toNatClampNeg) (xs ((x3 + (3 : Int32))).toNatClampNeg) (xs ((x3 + (4 : Int32))).toNatClampNeg)).bind fun r707 => if r683 = r707 then (b_L_law_831 xs nx (b_L_law_18 xs nx n) c d I L x3) else (some false) else none else none else none else none else none else none else none else none) else (if ((xs (x3).toNatClampNeg) &&& (31 : Int32)) = (21 : Int32) then (if vinb (x3 + (1 : Int32)) nx then if vinb (x3 + (2 : Int32)) nx then (f_X6_rate c d I L (xs ((x3 + (1 : Int32))).toNatClampNeg) (xs ((x3 + (2 : Int32))).toNatClampNeg)).bind fun r726 => if vinb (x3 + (1 : Int32)) nx then if vinb (x3 + (2 : Int32)) nx then (f_X7_rate I r726.2 (xs ((x3 + (1 : Int32))).toNatClampNeg) (xs ((x3 + (2 : Int32))).toNatClampNeg)).bind fun r740 => if r726.1 = r740.1 then (b_L_law_831 xs nx (b_L_law_18 xs nx n) c d I r740.2 x3) else (some false) else none else none else none else none) else (if ((xs (x3).toNatClampNeg) &&& (31 : Int32)) = (22 : Int32) then (if vinb (x3 + (1 : Int32)) nx then (f_X6_keep I (xs ((x3 + (1 : Int32))).toNatClampNeg)).bind fun r754 => if vinb (x3 + (1 : Int32)) nx then (f_X7_keep r754.2 (xs ((x3 + (1 : Int32))).toNatClampNeg)).bind fun r763 => if r754.1 = r763.1 then (b_L_law_831 xs nx (b_L_law_18 xs nx n) c d r763.2 L x3) else (some false) else none else none) else (if ((xs (x3).toNatClampNeg) &&& (31 : Int32)) = (23 : Int32) then (if vinb (x3 + (1 : Int32)) nx then (f_X6_back I (xs ((x3 + (1 : Int32))).toNatClampNeg)).bind fun r777 => if vinb (x3 + (1 : Int32)) nx then (f_X7_back r777.2 (xs ((x3 + (1 : Int32))).toNatClampNeg)).bind fun r786 => if r777.1 = r786.1 then (b_L_law_831 xs nx (b_L_law_18 xs nx n) c d r786.2 L x3) else (some false) else none else none) else (if ((xs (x3).toNatClampNeg) &&& (31 : Int32)) = (24 : Int32) then (if vinb (x3 + (1 : Int32)) nx then (f_X6_count c d I (xs ((x3 + (1 : Int32))).toNatClampNeg)).bind fun r800 => if vinb (x3 + (1 : Int32)) nx then (f_X7_count I (xs ((x3 + (1 : Int32))).toNatClampNeg)).bind fun r809 => if r800 = r809 then (b_L_law_831 xs nx (b_L_law_18 xs nx n) c d I L x3) else (some false) else none else none) else (if ((xs (x3).toNatClampNeg) &&& (31 : Int32)) = (25 : Int32) then ((f_X6_trace L).bind fun r818 => (f_X7_trace L).bind fun r822 => if (lg_cmp r818 r822) = (0 : Int32) then (b_L_law_831 xs nx (b_L_law_18 xs nx n) c d I L x3) else (some false)) else (b_L_law_831 xs nx (b_L_law_18 xs nx n) c d I L x3)))))))))))))))))))))))))) else none)
set_option maxRecDepth 100000 in
set_option maxHeartbeats 4000000 in
theorem t_L_law_18 {G : GP} {X : CX} (hX : XOK G X mi_L_law) (hZ : XL G X) : ∀ (n : Nat) (c : Nat) (d : Nat) (I : Hi) (L : Hl) (x3 : Int32), isC c → isC d → b_L_law_18 (gX G) (gL G) n c d I L x3 = some true → AW G X 96 1277 S0 I (R0 c d) L 18 [.float 0, .ref 0, .ref 77, .int x3] [] := by
  intro n
  induction n with
  | zero => intro c d I L x3 hc hd h; cases h
  | succ n ih =>
    intro c d I L x3 hc hd h
    rw [b_L_law_18] at h
    refine aw_iload_n (pc := 18) hX 3 dL_law_18 rfl rfl ?_
    refine aw_sload_n (pc := 19) hX 0 dL_law_19 rfl rfl ?_
    refine aw_slen (pc := 20) hX dL_law_20 ?_
    refine aw_iconst (pc := 21) hX (5 : Int32) dL_law_21 (by decide) ?_
    refine aw_isub (pc := 22) hX dL_law_22 ?_
    refine aw_icmp_gt (pc := 23) hX 837 dL_law_23 rfl (fun hc23 => ?_) (fun hc23 => ?_)
    · have h := ite_t h hc23
      refine aw_iconst (pc := 837) hX (1 : Int32) dL_law_837 (by decide) ?_
      cases h
      exact aw_lawret hX hZ dL_law_838
    · have h := ite_f h hc23
      refine aw_sload_n (pc := 26) hX 0 dL_law_26 rfl rfl ?_
      refine aw_iload_n (pc := 27) hX 3 dL_law_27 rfl rfl ?_
      obtain ⟨hv28, h⟩ := ite_g h
      refine aw_saload (pc := 28) hX dL_law_28 (vinb_in hv28) ?_
      refine aw_bipush (pc := 29) hX (31 : Int32) dL_law_29 (by decide) ?_
      refine aw_iand (pc := 31) hX dL_law_31 ?_
      by_cases hs32_0 : (((gX G) (x3).toNatClampNeg) &&& (31 : Int32)) = (0 : Int32)
      · have h := ite_t h hs32_0
        refine aw_tcase (pc := 32) (off := 120) hX (0 : Int32) 152 dL_law_32 hs32_0 (by decide) (by decide) (by decide) rfl ?_
        refine aw_aload_n (pc := 152) hX 1 dL_law_152 rfl rfl ?_
        refine aw_sload_n (pc := 153) hX 0 dL_law_153 rfl rfl ?_
        refine aw_iload_n (pc := 154) hX 3 dL_law_154 rfl rfl ?_
        refine aw_iconst (pc := 155) hX (1 : Int32) dL_law_155 (by decide) ?_
        refine aw_iadd (pc := 156) hX dL_law_156 ?_
        obtain ⟨hv157, h⟩ := ite_g h
        refine aw_saload (pc := 157) hX dL_law_157 (vinb_in hv157) ?_
        obtain ⟨r158, hq158, h⟩ := bind_s h
        refine aw_V1i (pc := 158) hX h_X6_type l_L_13 dL_law_158 (by rfl) (by decide) (by rfl) rfl rfl rfl (Nat.le_of_ble_eq_true rfl) (s_X6_type  hq158) ?_
        refine aw_aload_n (pc := 161) hX 2 dL_law_161 rfl rfl ?_
        refine aw_sload_n (pc := 162) hX 0 dL_law_162 rfl rfl ?_
        refine aw_iload_n (pc := 163) hX 3 dL_law_163 rfl rfl ?_
        refine aw_iconst (pc := 164) hX (1 : Int32) dL_law_164 (by decide) ?_
        refine aw_iadd (pc := 165) hX dL_law_165 ?_
        obtain ⟨hv166, h⟩ := ite_g h
        refine aw_saload (pc := 166) hX dL_law_166 (vinb_in hv166) ?_
        obtain ⟨r167, hq167, h⟩ := bind_s h
        refine aw_V1i (pc := 167) hX h_X7_type l_L_17 dL_law_167 (by rfl) (by decide) (by rfl) rfl rfl rfl (Nat.le_of_ble_eq_true rfl) (s_X7_type  hq167) ?_
        refine aw_icmp_eq (pc := 170) hX 831 dL_law_170 rfl (fun hc170 => ?_) (fun hc170 => ?_)
        · have h := ite_t h hc170
          exact AW.lo (t_L_law_831 hX hZ (ih) c d r167.2 L x3 hc hd h) (And.intro (Or.inr rfl) (And.intro (Or.inr rfl) (And.intro (Or.inr rfl) (And.intro (Or.inr rfl) trivial))))
        · have h := ite_f h hc170
          refine aw_iconst (pc := 173) hX (0 : Int32) dL_law_173 (by decide) ?_
          cases h
      have h := ite_f h hs32_0
      by_cases hs32_1 : (((gX G) (x3).toNatClampNeg) &&& (31 : Int32)) = (1 : Int32)
      · have h := ite_t h hs32_1
        refine aw_tcase (pc := 32) (off := 143) hX (1 : Int32) 175 dL_law_32 hs32_1 (by decide) (by decide) (by decide) rfl ?_
        refine aw_aload_n (pc := 175) hX 1 dL_law_175 rfl rfl ?_
        obtain ⟨r176, hq176, h⟩ := bind_s h
        refine aw_V0i (pc := 176) hX h_X6_clear l_L_18 dL_law_176 (by rfl) (by decide) (by rfl) rfl rfl rfl (Nat.le_of_ble_eq_true rfl) (s_X6_clear  hq176) ?_
        refine aw_aload_n (pc := 179) hX 2 dL_law_179 rfl rfl ?_
        obtain ⟨r180, hq180, h⟩ := bind_s h
        refine aw_V0i (pc := 180) hX h_X7_clear l_L_22 dL_law_180 (by rfl) (by decide) (by rfl) rfl rfl rfl (Nat.le_of_ble_eq_true rfl) (s_X7_clear  hq180) ?_
        refine aw_icmp_eq (pc := 183) hX 831 dL_law_183 rfl (fun hc183 => ?_) (fun hc183 => ?_)
        · have h := ite_t h hc183
          exact AW.lo (t_L_law_831 hX hZ (ih) c d r180.2 L x3 hc hd h) (And.intro (Or.inr rfl) (And.intro (Or.inr rfl) (And.intro (Or.inr rfl) (And.intro (Or.inr rfl) trivial))))
        · have h := ite_f h hc183
          refine aw_iconst (pc := 186) hX (0 : Int32) dL_law_186 (by decide) ?_
          cases h
      have h := ite_f h hs32_1
      by_cases hs32_2 : (((gX G) (x3).toNatClampNeg) &&& (31 : Int32)) = (2 : Int32)
      · have h := ite_t h hs32_2
        refine aw_tcase (pc := 32) (off := 156) hX (2 : Int32) 188 dL_law_32 hs32_2 (by decide) (by decide) (by decide) rfl ?_
        refine aw_aload_n (pc := 188) hX 1 dL_law_188 rfl rfl ?_
        obtain ⟨r189, hq189, h⟩ := bind_s h
        refine aw_V0i (pc := 189) hX h_X6_court l_L_23 dL_law_189 (by rfl) (by decide) (by rfl) rfl rfl rfl (Nat.le_of_ble_eq_true rfl) (s_X6_court hc hd hq189) ?_
        have hcd189 := cd_X6_court hc hd hq189
        refine aw_aload_n (pc := 192) hX 2 dL_law_192 rfl rfl ?_
        obtain ⟨r193, hq193, h⟩ := bind_s h
        refine aw_V0i (pc := 193) hX h_X7_court l_L_26 dL_law_193 (by rfl) (by decide) (by rfl) rfl rfl rfl (Nat.le_of_ble_eq_true rfl) (s_X7_court  hq193) ?_
        refine aw_icmp_eq (pc := 196) hX 831 dL_law_196 rfl (fun hc196 => ?_) (fun hc196 => ?_)
        · have h := ite_t h hc196
          exact AW.lo (t_L_law_831 hX hZ (ih) r189.2.2.1 r189.2.2.2 r193.2 L x3 hcd189.1 hcd189.2 h) (And.intro (Or.inr rfl) (And.intro (Or.inr rfl) (And.intro (Or.inr rfl) (And.intro (Or.inr rfl) trivial))))
        · have h := ite_f h hc196
          refine aw_iconst (pc := 199) hX (0 : Int32) dL_law_199 (by decide) ?_
          cases h
      have h := ite_f h hs32_2
      by_cases hs32_3 : (((gX G) (x3).toNatClampNeg) &&& (31 : Int32)) = (3 : Int32)
      · have h := ite_t h hs32_3
        refine aw_tcase (pc := 32) (off := 169) hX (3 : Int32) 201 dL_law_32 hs32_3 (by decide) (by decide) (by decide) rfl ?_
        refine aw_aload_n (pc := 201) hX 1 dL_law_201 rfl rfl ?_
        refine aw_sload_n (pc := 202) hX 0 dL_law_202 rfl rfl ?_
        refine aw_iload_n (pc := 203) hX 3 dL_law_203 rfl rfl ?_
        refine aw_iconst (pc := 204) hX (1 : Int32) dL_law_204 (by decide) ?_
        refine aw_iadd (pc := 205) hX dL_law_205 ?_
        obtain ⟨hv206, h⟩ := ite_g h
        refine aw_saload (pc := 206) hX dL_law_206 (vinb_in hv206) ?_
        refine aw_sload_n (pc := 207) hX 0 dL_law_207 rfl rfl ?_
        refine aw_iload_n (pc := 208) hX 3 dL_law_208 rfl rfl ?_
        refine aw_iconst (pc := 209) hX (2 : Int32) dL_law_209 (by decide) ?_
        refine aw_iadd (pc := 210) hX dL_law_210 ?_
        obtain ⟨hv211, h⟩ := ite_g h
        refine aw_saload (pc := 211) hX dL_law_211 (vinb_in hv211) ?_
        obtain ⟨r212, hq212, h⟩ := bind_s h
        refine aw_V2i (pc := 212) hX h_X6_leaf l_L_27 dL_law_212 (by rfl) (by decide) (by rfl) rfl rfl rfl (Nat.le_of_ble_eq_true rfl) (s_X6_leaf hc hd hq212) ?_
        refine aw_aload_n (pc := 215) hX 2 dL_law_215 rfl rfl ?_
        refine aw_sload_n (pc := 216) hX 0 dL_law_216 rfl rfl ?_
        refine aw_iload_n (pc := 217) hX 3 dL_law_217 rfl rfl ?_
        refine aw_iconst (pc := 218) hX (1 : Int32) dL_law_218 (by decide) ?_
        refine aw_iadd (pc := 219) hX dL_law_219 ?_
        obtain ⟨hv220, h⟩ := ite_g h
        refine aw_saload (pc := 220) hX dL_law_220 (vinb_in hv220) ?_
        refine aw_sload_n (pc := 221) hX 0 dL_law_221 rfl rfl ?_
        refine aw_iload_n (pc := 222) hX 3 dL_law_222 rfl rfl ?_
        refine aw_iconst (pc := 223) hX (2 : Int32) dL_law_223 (by decide) ?_
        refine aw_iadd (pc := 224) hX dL_law_224 ?_
        obtain ⟨hv225, h⟩ := ite_g h
        refine aw_saload (pc := 225) hX dL_law_225 (vinb_in hv225) ?_
        obtain ⟨r226, hq226, h⟩ := bind_s h
        refine aw_V2i (pc := 226) hX h_X7_leaf l_L_31 dL_law_226 (by rfl) (by decide) (by rfl) rfl rfl rfl (Nat.le_of_ble_eq_true rfl) (s_X7_leaf  hq226) ?_
        refine aw_icmp_eq (pc := 229) hX 831 dL_law_229 rfl (fun hc229 => ?_) (fun hc229 => ?_)
        · have h := ite_t h hc229
          exact AW.lo (t_L_law_831 hX hZ (ih) c d I L x3 hc hd h) (And.intro (Or.inr rfl) (And.intro (Or.inr rfl) (And.intro (Or.inr rfl) (And.intro (Or.inr rfl) trivial))))
        · have h := ite_f h hc229
          refine aw_iconst (pc := 232) hX (0 : Int32) dL_law_232 (by decide) ?_
          cases h
      have h := ite_f h hs32_3
      by_cases hs32_4 : (((gX G) (x3).toNatClampNeg) &&& (31 : Int32)) = (4 : Int32)
      · have h := ite_t h hs32_4
        refine aw_tcase (pc := 32) (off := 202) hX (4 : Int32) 234 dL_law_32 hs32_4 (by decide) (by decide) (by decide) rfl ?_
        refine aw_aload_n (pc := 234) hX 1 dL_law_234 rfl rfl ?_
        refine aw_sload_n (pc := 235) hX 0 dL_law_235 rfl rfl ?_
        refine aw_iload_n (pc := 236) hX 3 dL_law_236 rfl rfl ?_
        refine aw_iconst (pc := 237) hX (1 : Int32) dL_law_237 (by decide) ?_
        refine aw_iadd (pc := 238) hX dL_law_238 ?_
        obtain ⟨hv239, h⟩ := ite_g h
        refine aw_saload (pc := 239) hX dL_law_239 (vinb_in hv239) ?_
        refine aw_sload_n (pc := 240) hX 0 dL_law_240 rfl rfl ?_
        refine aw_iload_n (pc := 241) hX 3 dL_law_241 rfl rfl ?_
        refine aw_iconst (pc := 242) hX (2 : Int32) dL_law_242 (by decide) ?_
        refine aw_iadd (pc := 243) hX dL_law_243 ?_
        obtain ⟨hv244, h⟩ := ite_g h
        refine aw_saload (pc := 244) hX dL_law_244 (vinb_in hv244) ?_
        obtain ⟨r245, hq245, h⟩ := bind_s h
        refine aw_V2i (pc := 245) hX h_X6_goer l_L_32 dL_law_245 (by rfl) (by decide) (by rfl) rfl rfl rfl (Nat.le_of_ble_eq_true rfl) (s_X6_goer hc hd hq245) ?_
        refine aw_aload_n (pc := 248) hX 2 dL_law_248 rfl rfl ?_
        refine aw_sload_n (pc := 249) hX 0 dL_law_249 rfl rfl ?_
        refine aw_iload_n (pc := 250) hX 3 dL_law_250 rfl rfl ?_
        refine aw_iconst (pc := 251) hX (1 : Int32) dL_law_251 (by decide) ?_
        refine aw_iadd (pc := 252) hX dL_law_252 ?_
        obtain ⟨hv253, h⟩ := ite_g h
        refine aw_saload (pc := 253) hX dL_law_253 (vinb_in hv253) ?_
        refine aw_sload_n (pc := 254) hX 0 dL_law_254 rfl rfl ?_
        refine aw_iload_n (pc := 255) hX 3 dL_law_255 rfl rfl ?_
        refine aw_iconst (pc := 256) hX (2 : Int32) dL_law_256 (by decide) ?_
        refine aw_iadd (pc := 257) hX dL_law_257 ?_
        obtain ⟨hv258, h⟩ := ite_g h
        refine aw_saload (pc := 258) hX dL_law_258 (vinb_in hv258) ?_
        obtain ⟨r259, hq259, h⟩ := bind_s h
        refine aw_V2i (pc := 259) hX h_X7_goer l_L_35 dL_law_259 (by rfl) (by decide) (by rfl) rfl rfl rfl (Nat.le_of_ble_eq_true rfl) (s_X7_goer  hq259) ?_
        refine aw_icmp_eq (pc := 262) hX 831 dL_law_262 rfl (fun hc262 => ?_) (fun hc262 => ?_)
        · have h := ite_t h hc262
          exact AW.lo (t_L_law_831 hX hZ (ih) c d I L x3 hc hd h) (And.intro (Or.inr rfl) (And.intro (Or.inr rfl) (And.intro (Or.inr rfl) (And.intro (Or.inr rfl) trivial))))
        · have h := ite_f h hc262
          refine aw_iconst (pc := 265) hX (0 : Int32) dL_law_265 (by decide) ?_
          cases h
      have h := ite_f h hs32_4
      by_cases hs32_5 : (((gX G) (x3).toNatClampNeg) &&& (31 : Int32)) = (5 : Int32)
      · have h := ite_t h hs32_5
        refine aw_tcase (pc := 32) (off := 235) hX (5 : Int32) 267 dL_law_32 hs32_5 (by decide) (by decide) (by decide) rfl ?_
        refine aw_aload_n (pc := 267) hX 1 dL_law_267 rfl rfl ?_
        refine aw_sload_n (pc := 268) hX 0 dL_law_268 rfl rfl ?_
        refine aw_iload_n (pc := 269) hX 3 dL_law_269 rfl rfl ?_
        refine aw_iconst (pc := 270) hX (1 : Int32) dL_law_270 (by decide) ?_
        refine aw_iadd (pc := 271) hX dL_law_271 ?_
        obtain ⟨hv272, h⟩ := ite_g h
        refine aw_saload (pc := 272) hX dL_law_272 (vinb_in hv272) ?_
        refine aw_sload_n (pc := 273) hX 0 dL_law_273 rfl rfl ?_
        refine aw_iload_n (pc := 274) hX 3 dL_law_274 rfl rfl ?_
        refine aw_iconst (pc := 275) hX (2 : Int32) dL_law_275 (by decide) ?_
        refine aw_iadd (pc := 276) hX dL_law_276 ?_
        obtain ⟨hv277, h⟩ := ite_g h
        refine aw_saload (pc := 277) hX dL_law_277 (vinb_in hv277) ?_
        obtain ⟨r278, hq278, h⟩ := bind_s h
        refine aw_V2i (pc := 278) hX h_X6_sister l_L_36 dL_law_278 (by rfl) (by decide) (by rfl) rfl rfl rfl (Nat.le_of_ble_eq_true rfl) (s_X6_sister hc hd hq278) ?_
        refine aw_aload_n (pc := 281) hX 2 dL_law_281 rfl rfl ?_
        refine aw_sload_n (pc := 282) hX 0 dL_law_282 rfl rfl ?_
        refine aw_iload_n (pc := 283) hX 3 dL_law_283 rfl rfl ?_
        refine aw_iconst (pc := 284) hX (1 : Int32) dL_law_284 (by decide) ?_
        refine aw_iadd (pc := 285) hX dL_law_285 ?_
        obtain ⟨hv286, h⟩ := ite_g h
        refine aw_saload (pc := 286) hX dL_law_286 (vinb_in hv286) ?_
        refine aw_sload_n (pc := 287) hX 0 dL_law_287 rfl rfl ?_
        refine aw_iload_n (pc := 288) hX 3 dL_law_288 rfl rfl ?_
        refine aw_iconst (pc := 289) hX (2 : Int32) dL_law_289 (by decide) ?_
        refine aw_iadd (pc := 290) hX dL_law_290 ?_
        obtain ⟨hv291, h⟩ := ite_g h
        refine aw_saload (pc := 291) hX dL_law_291 (vinb_in hv291) ?_
        obtain ⟨r292, hq292, h⟩ := bind_s h
        refine aw_V2i (pc := 292) hX h_X7_sister l_L_39 dL_law_292 (by rfl) (by decide) (by rfl) rfl rfl rfl (Nat.le_of_ble_eq_true rfl) (s_X7_sister  hq292) ?_
        refine aw_icmp_eq (pc := 295) hX 831 dL_law_295 rfl (fun hc295 => ?_) (fun hc295 => ?_)
        · have h := ite_t h hc295
          exact AW.lo (t_L_law_831 hX hZ (ih) c d I L x3 hc hd h) (And.intro (Or.inr rfl) (And.intro (Or.inr rfl) (And.intro (Or.inr rfl) (And.intro (Or.inr rfl) trivial))))
        · have h := ite_f h hc295
          refine aw_iconst (pc := 298) hX (0 : Int32) dL_law_298 (by decide) ?_
          cases h
      have h := ite_f h hs32_5
      by_cases hs32_6 : (((gX G) (x3).toNatClampNeg) &&& (31 : Int32)) = (6 : Int32)
      · have h := ite_t h hs32_6
        refine aw_tcase (pc := 32) (off := 268) hX (6 : Int32) 300 dL_law_32 hs32_6 (by decide) (by decide) (by decide) rfl ?_
        refine aw_aload_n (pc := 300) hX 1 dL_law_300 rfl rfl ?_
        refine aw_sload_n (pc := 301) hX 0 dL_law_301 rfl rfl ?_
        refine aw_iload_n (pc := 302) hX 3 dL_law_302 rfl rfl ?_
        refine aw_iconst (pc := 303) hX (1 : Int32) dL_law_303 (by decide) ?_
        refine aw_iadd (pc := 304) hX dL_law_304 ?_
        obtain ⟨hv305, h⟩ := ite_g h
        refine aw_saload (pc := 305) hX dL_law_305 (vinb_in hv305) ?_
        obtain ⟨r306, hq306, h⟩ := bind_s h
        refine aw_V1i (pc := 306) hX h_X6_now l_L_40 dL_law_306 (by rfl) (by decide) (by rfl) rfl rfl rfl (Nat.le_of_ble_eq_true rfl) (s_X6_now hc hd hq306) ?_
        refine aw_aload_n (pc := 309) hX 2 dL_law_309 rfl rfl ?_
        refine aw_sload_n (pc := 310) hX 0 dL_law_310 rfl rfl ?_
        refine aw_iload_n (pc := 311) hX 3 dL_law_311 rfl rfl ?_
        refine aw_iconst (pc := 312) hX (1 : Int32) dL_law_312 (by decide) ?_
        refine aw_iadd (pc := 313) hX dL_law_313 ?_
        obtain ⟨hv314, h⟩ := ite_g h
        refine aw_saload (pc := 314) hX dL_law_314 (vinb_in hv314) ?_
        obtain ⟨r315, hq315, h⟩ := bind_s h
        refine aw_V1i (pc := 315) hX h_X7_now l_L_43 dL_law_315 (by rfl) (by decide) (by rfl) rfl rfl rfl (Nat.le_of_ble_eq_true rfl) (s_X7_now  hq315) ?_
        refine aw_icmp_eq (pc := 318) hX 831 dL_law_318 rfl (fun hc318 => ?_) (fun hc318 => ?_)
        · have h := ite_t h hc318
          exact AW.lo (t_L_law_831 hX hZ (ih) c d I L x3 hc hd h) (And.intro (Or.inr rfl) (And.intro (Or.inr rfl) (And.intro (Or.inr rfl) (And.intro (Or.inr rfl) trivial))))
        · have h := ite_f h hc318
          refine aw_iconst (pc := 321) hX (0 : Int32) dL_law_321 (by decide) ?_
          cases h
      have h := ite_f h hs32_6
      by_cases hs32_7 : (((gX G) (x3).toNatClampNeg) &&& (31 : Int32)) = (7 : Int32)
      · have h := ite_t h hs32_7
        refine aw_tcase (pc := 32) (off := 291) hX (7 : Int32) 323 dL_law_32 hs32_7 (by decide) (by decide) (by decide) rfl ?_
        refine aw_aload_n (pc := 323) hX 1 dL_law_323 rfl rfl ?_
        refine aw_sload_n (pc := 324) hX 0 dL_law_324 rfl rfl ?_
        refine aw_iload_n (pc := 325) hX 3 dL_law_325 rfl rfl ?_
        refine aw_iconst (pc := 326) hX (1 : Int32) dL_law_326 (by decide) ?_
        refine aw_iadd (pc := 327) hX dL_law_327 ?_
        obtain ⟨hv328, h⟩ := ite_g h
        refine aw_saload (pc := 328) hX dL_law_328 (vinb_in hv328) ?_
        obtain ⟨r329, hq329, h⟩ := bind_s h
        refine aw_V1i (pc := 329) hX h_X6_comes l_L_44 dL_law_329 (by rfl) (by decide) (by rfl) rfl rfl rfl (Nat.le_of_ble_eq_true rfl) (s_X6_comes hc hd hq329) ?_
        refine aw_aload_n (pc := 332) hX 2 dL_law_332 rfl rfl ?_
        refine aw_sload_n (pc := 333) hX 0 dL_law_333 rfl rfl ?_
        refine aw_iload_n (pc := 334) hX 3 dL_law_334 rfl rfl ?_
        refine aw_iconst (pc := 335) hX (1 : Int32) dL_law_335 (by decide) ?_
        refine aw_iadd (pc := 336) hX dL_law_336 ?_
        obtain ⟨hv337, h⟩ := ite_g h
        refine aw_saload (pc := 337) hX dL_law_337 (vinb_in hv337) ?_
        obtain ⟨r338, hq338, h⟩ := bind_s h
        refine aw_V1i (pc := 338) hX h_X7_comes l_L_47 dL_law_338 (by rfl) (by decide) (by rfl) rfl rfl rfl (Nat.le_of_ble_eq_true rfl) (s_X7_comes  hq338) ?_
        refine aw_icmp_eq (pc := 341) hX 831 dL_law_341 rfl (fun hc341 => ?_) (fun hc341 => ?_)
        · have h := ite_t h hc341
          exact AW.lo (t_L_law_831 hX hZ (ih) c d r338.2 L x3 hc hd h) (And.intro (Or.inr rfl) (And.intro (Or.inr rfl) (And.intro (Or.inr rfl) (And.intro (Or.inr rfl) trivial))))
        · have h := ite_f h hc341
          refine aw_iconst (pc := 344) hX (0 : Int32) dL_law_344 (by decide) ?_
          cases h
      have h := ite_f h hs32_7
      by_cases hs32_8 : (((gX G) (x3).toNatClampNeg) &&& (31 : Int32)) = (8 : Int32)
      · have h := ite_t h hs32_8
        refine aw_tcase (pc := 32) (off := 314) hX (8 : Int32) 346 dL_law_32 hs32_8 (by decide) (by decide) (by decide) rfl ?_
        refine aw_aload_n (pc := 346) hX 1 dL_law_346 rfl rfl ?_
        refine aw_sload_n (pc := 347) hX 0 dL_law_347 rfl rfl ?_
        refine aw_iload_n (pc := 348) hX 3 dL_law_348 rfl rfl ?_
        refine aw_iconst (pc := 349) hX (1 : Int32) dL_law_349 (by decide) ?_
        refine aw_iadd (pc := 350) hX dL_law_350 ?_
        obtain ⟨hv351, h⟩ := ite_g h
        refine aw_saload (pc := 351) hX dL_law_351 (vinb_in hv351) ?_
        refine aw_sload_n (pc := 352) hX 0 dL_law_352 rfl rfl ?_
        refine aw_iload_n (pc := 353) hX 3 dL_law_353 rfl rfl ?_
        refine aw_iconst (pc := 354) hX (2 : Int32) dL_law_354 (by decide) ?_
        refine aw_iadd (pc := 355) hX dL_law_355 ?_
        obtain ⟨hv356, h⟩ := ite_g h
        refine aw_saload (pc := 356) hX dL_law_356 (vinb_in hv356) ?_
        obtain ⟨r357, hq357, h⟩ := bind_s h
        refine aw_V2i (pc := 357) hX h_X6_says l_L_48 dL_law_357 (by rfl) (by decide) (by rfl) rfl rfl rfl (Nat.le_of_ble_eq_true rfl) (s_X6_says hc hd hq357) ?_
        refine aw_aload_n (pc := 360) hX 2 dL_law_360 rfl rfl ?_
        refine aw_sload_n (pc := 361) hX 0 dL_law_361 rfl rfl ?_
        refine aw_iload_n (pc := 362) hX 3 dL_law_362 rfl rfl ?_
        refine aw_iconst (pc := 363) hX (1 : Int32) dL_law_363 (by decide) ?_
        refine aw_iadd (pc := 364) hX dL_law_364 ?_
        obtain ⟨hv365, h⟩ := ite_g h
        refine aw_saload (pc := 365) hX dL_law_365 (vinb_in hv365) ?_
        refine aw_sload_n (pc := 366) hX 0 dL_law_366 rfl rfl ?_
        refine aw_iload_n (pc := 367) hX 3 dL_law_367 rfl rfl ?_
        refine aw_iconst (pc := 368) hX (2 : Int32) dL_law_368 (by decide) ?_
        refine aw_iadd (pc := 369) hX dL_law_369 ?_
        obtain ⟨hv370, h⟩ := ite_g h
        refine aw_saload (pc := 370) hX dL_law_370 (vinb_in hv370) ?_
        obtain ⟨r371, hq371, h⟩ := bind_s h
        refine aw_V2i (pc := 371) hX h_X7_says l_L_51 dL_law_371 (by rfl) (by decide) (by rfl) rfl rfl rfl (Nat.le_of_ble_eq_true rfl) (s_X7_says  hq371) ?_
        refine aw_icmp_eq (pc := 374) hX 831 dL_law_374 rfl (fun hc374 => ?_) (fun hc374 => ?_)
        · have h := ite_t h hc374
          exact AW.lo (t_L_law_831 hX hZ (ih) c d r371.2 L x3 hc hd h) (And.intro (Or.inr rfl) (And.intro (Or.inr rfl) (And.intro (Or.inr rfl) (And.intro (Or.inr rfl) trivial))))
        · have h := ite_f h hc374
          refine aw_iconst (pc := 377) hX (0 : Int32) dL_law_377 (by decide) ?_
          cases h
      have h := ite_f h hs32_8
      by_cases hs32_9 : (((gX G) (x3).toNatClampNeg) &&& (31 : Int32)) = (9 : Int32)
      · have h := ite_t h hs32_9
        refine aw_tcase (pc := 32) (off := 347) hX (9 : Int32) 379 dL_law_32 hs32_9 (by decide) (by decide) (by decide) rfl ?_
        refine aw_aload_n (pc := 379) hX 1 dL_law_379 rfl rfl ?_
        refine aw_sload_n (pc := 380) hX 0 dL_law_380 rfl rfl ?_
        refine aw_iload_n (pc := 381) hX 3 dL_law_381 rfl rfl ?_
        refine aw_iconst (pc := 382) hX (1 : Int32) dL_law_382 (by decide) ?_
        refine aw_iadd (pc := 383) hX dL_law_383 ?_
        obtain ⟨hv384, h⟩ := ite_g h
        refine aw_saload (pc := 384) hX dL_law_384 (vinb_in hv384) ?_
        obtain ⟨r385, hq385, h⟩ := bind_s h
        refine aw_V1i (pc := 385) hX h_X6_minutes l_L_52 dL_law_385 (by rfl) (by decide) (by rfl) rfl rfl rfl (Nat.le_of_ble_eq_true rfl) (s_X6_minutes  hq385) ?_
        refine aw_aload_n (pc := 388) hX 2 dL_law_388 rfl rfl ?_
        refine aw_sload_n (pc := 389) hX 0 dL_law_389 rfl rfl ?_
        refine aw_iload_n (pc := 390) hX 3 dL_law_390 rfl rfl ?_
        refine aw_iconst (pc := 391) hX (1 : Int32) dL_law_391 (by decide) ?_
        refine aw_iadd (pc := 392) hX dL_law_392 ?_
        obtain ⟨hv393, h⟩ := ite_g h
        refine aw_saload (pc := 393) hX dL_law_393 (vinb_in hv393) ?_
        obtain ⟨r394, hq394, h⟩ := bind_s h
        refine aw_V1i (pc := 394) hX h_X7_minutes l_L_55 dL_law_394 (by rfl) (by decide) (by rfl) rfl rfl rfl (Nat.le_of_ble_eq_true rfl) (s_X7_minutes  hq394) ?_
        refine aw_icmp_eq (pc := 397) hX 831 dL_law_397 rfl (fun hc397 => ?_) (fun hc397 => ?_)
        · have h := ite_t h hc397
          exact AW.lo (t_L_law_831 hX hZ (ih) c d r394.2 L x3 hc hd h) (And.intro (Or.inr rfl) (And.intro (Or.inr rfl) (And.intro (Or.inr rfl) (And.intro (Or.inr rfl) trivial))))
        · have h := ite_f h hc397
          refine aw_iconst (pc := 400) hX (0 : Int32) dL_law_400 (by decide) ?_
          cases h
      have h := ite_f h hs32_9
      by_cases hs32_10 : (((gX G) (x3).toNatClampNeg) &&& (31 : Int32)) = (10 : Int32)
      · have h := ite_t h hs32_10
        refine aw_tcase (pc := 32) (off := 370) hX (10 : Int32) 402 dL_law_32 hs32_10 (by decide) (by decide) (by decide) rfl ?_
        refine aw_aload_n (pc := 402) hX 1 dL_law_402 rfl rfl ?_
        obtain ⟨r403, hq403, h⟩ := bind_s h
        refine aw_V0i (pc := 403) hX h_X6_undo l_L_56 dL_law_403 (by rfl) (by decide) (by rfl) rfl rfl rfl (Nat.le_of_ble_eq_true rfl) (s_X6_undo  hq403) ?_
        refine aw_aload_n (pc := 406) hX 2 dL_law_406 rfl rfl ?_
        obtain ⟨r407, hq407, h⟩ := bind_s h
        refine aw_V0i (pc := 407) hX h_X7_undo l_L_59 dL_law_407 (by rfl) (by decide) (by rfl) rfl rfl rfl (Nat.le_of_ble_eq_true rfl) (s_X7_undo  hq407) ?_
        refine aw_icmp_eq (pc := 410) hX 831 dL_law_410 rfl (fun hc410 => ?_) (fun hc410 => ?_)
        · have h := ite_t h hc410
          exact AW.lo (t_L_law_831 hX hZ (ih) c d r407.2 L x3 hc hd h) (And.intro (Or.inr rfl) (And.intro (Or.inr rfl) (And.intro (Or.inr rfl) (And.intro (Or.inr rfl) trivial))))
        · have h := ite_f h hc410
          refine aw_iconst (pc := 413) hX (0 : Int32) dL_law_413 (by decide) ?_
          cases h
      have h := ite_f h hs32_10
      by_cases hs32_11 : (((gX G) (x3).toNatClampNeg) &&& (31 : Int32)) = (11 : Int32)
      · have h := ite_t h hs32_11
        refine aw_tcase (pc := 32) (off := 383) hX (11 : Int32) 415 dL_law_32 hs32_11 (by decide) (by decide) (by decide) rfl ?_
        refine aw_aload_n (pc := 415) hX 1 dL_law_415 rfl rfl ?_
        refine aw_sload_n (pc := 416) hX 0 dL_law_416 rfl rfl ?_
        refine aw_iload_n (pc := 417) hX 3 dL_law_417 rfl rfl ?_
        refine aw_iconst (pc := 418) hX (1 : Int32) dL_law_418 (by decide) ?_
        refine aw_iadd (pc := 419) hX dL_law_419 ?_
        obtain ⟨hv420, h⟩ := ite_g h
        refine aw_saload (pc := 420) hX dL_law_420 (vinb_in hv420) ?_
        refine aw_sload_n (pc := 421) hX 0 dL_law_421 rfl rfl ?_
        refine aw_iload_n (pc := 422) hX 3 dL_law_422 rfl rfl ?_
        refine aw_iconst (pc := 423) hX (2 : Int32) dL_law_423 (by decide) ?_
        refine aw_iadd (pc := 424) hX dL_law_424 ?_
        obtain ⟨hv425, h⟩ := ite_g h
        refine aw_saload (pc := 425) hX dL_law_425 (vinb_in hv425) ?_
        obtain ⟨r426, hq426, h⟩ := bind_s h
        refine aw_V2i (pc := 426) hX h_X6_fewest l_L_60 dL_law_426 (by rfl) (by decide) (by rfl) rfl rfl rfl (Nat.le_of_ble_eq_true rfl) (s_X6_fewest hc hd hq426) ?_
        refine aw_aload_n (pc := 429) hX 2 dL_law_429 rfl rfl ?_
        refine aw_sload_n (pc := 430) hX 0 dL_law_430 rfl rfl ?_
        refine aw_iload_n (pc := 431) hX 3 dL_law_431 rfl rfl ?_
        refine aw_iconst (pc := 432) hX (1 : Int32) dL_law_432 (by decide) ?_
        refine aw_iadd (pc := 433) hX dL_law_433 ?_
        obtain ⟨hv434, h⟩ := ite_g h
        refine aw_saload (pc := 434) hX dL_law_434 (vinb_in hv434) ?_
        refine aw_sload_n (pc := 435) hX 0 dL_law_435 rfl rfl ?_
        refine aw_iload_n (pc := 436) hX 3 dL_law_436 rfl rfl ?_
        refine aw_iconst (pc := 437) hX (2 : Int32) dL_law_437 (by decide) ?_
        refine aw_iadd (pc := 438) hX dL_law_438 ?_
        obtain ⟨hv439, h⟩ := ite_g h
        refine aw_saload (pc := 439) hX dL_law_439 (vinb_in hv439) ?_
        obtain ⟨r440, hq440, h⟩ := bind_s h
        refine aw_V2i (pc := 440) hX h_X7_fewest l_L_63 dL_law_440 (by rfl) (by decide) (by rfl) rfl rfl rfl (Nat.le_of_ble_eq_true rfl) (s_X7_fewest  hq440) ?_
        refine aw_icmp_eq (pc := 443) hX 831 dL_law_443 rfl (fun hc443 => ?_) (fun hc443 => ?_)
        · have h := ite_t h hc443
          exact AW.lo (t_L_law_831 hX hZ (ih) c d I L x3 hc hd h) (And.intro (Or.inr rfl) (And.intro (Or.inr rfl) (And.intro (Or.inr rfl) (And.intro (Or.inr rfl) trivial))))
        · have h := ite_f h hc443
          refine aw_iconst (pc := 446) hX (0 : Int32) dL_law_446 (by decide) ?_
          cases h
      have h := ite_f h hs32_11
      by_cases hs32_12 : (((gX G) (x3).toNatClampNeg) &&& (31 : Int32)) = (12 : Int32)
      · have h := ite_t h hs32_12
        refine aw_tcase (pc := 32) (off := 416) hX (12 : Int32) 448 dL_law_32 hs32_12 (by decide) (by decide) (by decide) rfl ?_
        refine aw_aload_n (pc := 448) hX 1 dL_law_448 rfl rfl ?_
        refine aw_sload_n (pc := 449) hX 0 dL_law_449 rfl rfl ?_
        refine aw_iload_n (pc := 450) hX 3 dL_law_450 rfl rfl ?_
        refine aw_iconst (pc := 451) hX (1 : Int32) dL_law_451 (by decide) ?_
        refine aw_iadd (pc := 452) hX dL_law_452 ?_
        obtain ⟨hv453, h⟩ := ite_g h
        refine aw_saload (pc := 453) hX dL_law_453 (vinb_in hv453) ?_
        obtain ⟨r454, hq454, h⟩ := bind_s h
        refine aw_V1i (pc := 454) hX h_X6_line l_L_64 dL_law_454 (by rfl) (by decide) (by rfl) rfl rfl rfl (Nat.le_of_ble_eq_true rfl) (s_X6_line hc hd hq454) ?_
        refine aw_aload_n (pc := 457) hX 2 dL_law_457 rfl rfl ?_
        refine aw_sload_n (pc := 458) hX 0 dL_law_458 rfl rfl ?_
        refine aw_iload_n (pc := 459) hX 3 dL_law_459 rfl rfl ?_
        refine aw_iconst (pc := 460) hX (1 : Int32) dL_law_460 (by decide) ?_
        refine aw_iadd (pc := 461) hX dL_law_461 ?_
        obtain ⟨hv462, h⟩ := ite_g h
        refine aw_saload (pc := 462) hX dL_law_462 (vinb_in hv462) ?_
        obtain ⟨r463, hq463, h⟩ := bind_s h
        refine aw_V1i (pc := 463) hX h_X7_line l_L_67 dL_law_463 (by rfl) (by decide) (by rfl) rfl rfl rfl (Nat.le_of_ble_eq_true rfl) (s_X7_line  hq463) ?_
        refine aw_icmp_eq (pc := 466) hX 831 dL_law_466 rfl (fun hc466 => ?_) (fun hc466 => ?_)
        · have h := ite_t h hc466
          exact AW.lo (t_L_law_831 hX hZ (ih) c d r463.2 L x3 hc hd h) (And.intro (Or.inr rfl) (And.intro (Or.inr rfl) (And.intro (Or.inr rfl) (And.intro (Or.inr rfl) trivial))))
        · have h := ite_f h hc466
          refine aw_iconst (pc := 469) hX (0 : Int32) dL_law_469 (by decide) ?_
          cases h
      have h := ite_f h hs32_12
      by_cases hs32_13 : (((gX G) (x3).toNatClampNeg) &&& (31 : Int32)) = (13 : Int32)
      · have h := ite_t h hs32_13
        refine aw_tcase (pc := 32) (off := 439) hX (13 : Int32) 471 dL_law_32 hs32_13 (by decide) (by decide) (by decide) rfl ?_
        refine aw_aload_n (pc := 471) hX 1 dL_law_471 rfl rfl ?_
        refine aw_sload_n (pc := 472) hX 0 dL_law_472 rfl rfl ?_
        refine aw_iload_n (pc := 473) hX 3 dL_law_473 rfl rfl ?_
        refine aw_iconst (pc := 474) hX (1 : Int32) dL_law_474 (by decide) ?_
        refine aw_iadd (pc := 475) hX dL_law_475 ?_
        obtain ⟨hv476, h⟩ := ite_g h
        refine aw_saload (pc := 476) hX dL_law_476 (vinb_in hv476) ?_
        refine aw_sload_n (pc := 477) hX 0 dL_law_477 rfl rfl ?_
        refine aw_iload_n (pc := 478) hX 3 dL_law_478 rfl rfl ?_
        refine aw_iconst (pc := 479) hX (2 : Int32) dL_law_479 (by decide) ?_
        refine aw_iadd (pc := 480) hX dL_law_480 ?_
        obtain ⟨hv481, h⟩ := ite_g h
        refine aw_saload (pc := 481) hX dL_law_481 (vinb_in hv481) ?_
        refine aw_sload_n (pc := 482) hX 0 dL_law_482 rfl rfl ?_
        refine aw_iload_n (pc := 483) hX 3 dL_law_483 rfl rfl ?_
        refine aw_iconst (pc := 484) hX (3 : Int32) dL_law_484 (by decide) ?_
        refine aw_iadd (pc := 485) hX dL_law_485 ?_
        obtain ⟨hv486, h⟩ := ite_g h
        refine aw_saload (pc := 486) hX dL_law_486 (vinb_in hv486) ?_
        obtain ⟨r487, hq487, h⟩ := bind_s h
        refine aw_V3i (pc := 487) hX h_X6_sees l_L_68 dL_law_487 (by rfl) (by decide) (by rfl) rfl rfl rfl (Nat.le_of_ble_eq_true rfl) (s_X6_sees hc hd hq487) ?_
        refine aw_aload_n (pc := 490) hX 2 dL_law_490 rfl rfl ?_
        refine aw_sload_n (pc := 491) hX 0 dL_law_491 rfl rfl ?_
        refine aw_iload_n (pc := 492) hX 3 dL_law_492 rfl rfl ?_
        refine aw_iconst (pc := 493) hX (1 : Int32) dL_law_493 (by decide) ?_
        refine aw_iadd (pc := 494) hX dL_law_494 ?_
        obtain ⟨hv495, h⟩ := ite_g h
        refine aw_saload (pc := 495) hX dL_law_495 (vinb_in hv495) ?_
        refine aw_sload_n (pc := 496) hX 0 dL_law_496 rfl rfl ?_
        refine aw_iload_n (pc := 497) hX 3 dL_law_497 rfl rfl ?_
        refine aw_iconst (pc := 498) hX (2 : Int32) dL_law_498 (by decide) ?_
        refine aw_iadd (pc := 499) hX dL_law_499 ?_
        obtain ⟨hv500, h⟩ := ite_g h
        refine aw_saload (pc := 500) hX dL_law_500 (vinb_in hv500) ?_
        refine aw_sload_n (pc := 501) hX 0 dL_law_501 rfl rfl ?_
        refine aw_iload_n (pc := 502) hX 3 dL_law_502 rfl rfl ?_
        refine aw_iconst (pc := 503) hX (3 : Int32) dL_law_503 (by decide) ?_
        refine aw_iadd (pc := 504) hX dL_law_504 ?_
        obtain ⟨hv505, h⟩ := ite_g h
        refine aw_saload (pc := 505) hX dL_law_505 (vinb_in hv505) ?_
        obtain ⟨r506, hq506, h⟩ := bind_s h
        refine aw_V3i (pc := 506) hX h_X7_sees l_L_72 dL_law_506 (by rfl) (by decide) (by rfl) rfl rfl rfl (Nat.le_of_ble_eq_true rfl) (s_X7_sees  hq506) ?_
        refine aw_icmp_eq (pc := 509) hX 831 dL_law_509 rfl (fun hc509 => ?_) (fun hc509 => ?_)
        · have h := ite_t h hc509
          exact AW.lo (t_L_law_831 hX hZ (ih) c d r506.2 L x3 hc hd h) (And.intro (Or.inr rfl) (And.intro (Or.inr rfl) (And.intro (Or.inr rfl) (And.intro (Or.inr rfl) trivial))))
        · have h := ite_f h hc509
          refine aw_iconst (pc := 512) hX (0 : Int32) dL_law_512 (by decide) ?_
          cases h
      have h := ite_f h hs32_13
      by_cases hs32_14 : (((gX G) (x3).toNatClampNeg) &&& (31 : Int32)) = (14 : Int32)
      · have h := ite_t h hs32_14
        refine aw_tcase (pc := 32) (off := 482) hX (14 : Int32) 514 dL_law_32 hs32_14 (by decide) (by decide) (by decide) rfl ?_
        refine aw_aload_n (pc := 514) hX 1 dL_law_514 rfl rfl ?_
        obtain ⟨r515, hq515, h⟩ := bind_s h
        refine aw_V0i (pc := 515) hX h_X6_forget l_L_73 dL_law_515 (by rfl) (by decide) (by rfl) rfl rfl rfl (Nat.le_of_ble_eq_true rfl) (s_X6_forget  hq515) ?_
        refine aw_aload_n (pc := 518) hX 2 dL_law_518 rfl rfl ?_
        obtain ⟨r519, hq519, h⟩ := bind_s h
        refine aw_V0i (pc := 519) hX h_X7_forget l_L_76 dL_law_519 (by rfl) (by decide) (by rfl) rfl rfl rfl (Nat.le_of_ble_eq_true rfl) (s_X7_forget  hq519) ?_
        refine aw_icmp_eq (pc := 522) hX 831 dL_law_522 rfl (fun hc522 => ?_) (fun hc522 => ?_)
        · have h := ite_t h hc522
          exact AW.lo (t_L_law_831 hX hZ (ih) c d r519.2 L x3 hc hd h) (And.intro (Or.inr rfl) (And.intro (Or.inr rfl) (And.intro (Or.inr rfl) (And.intro (Or.inr rfl) trivial))))
        · have h := ite_f h hc522
          refine aw_iconst (pc := 525) hX (0 : Int32) dL_law_525 (by decide) ?_
          cases h
      have h := ite_f h hs32_14
      by_cases hs32_15 : (((gX G) (x3).toNatClampNeg) &&& (31 : Int32)) = (15 : Int32)
      · have h := ite_t h hs32_15
        refine aw_tcase (pc := 32) (off := 495) hX (15 : Int32) 527 dL_law_32 hs32_15 (by decide) (by decide) (by decide) rfl ?_
        refine aw_aload_n (pc := 527) hX 1 dL_law_527 rfl rfl ?_
        refine aw_sload_n (pc := 528) hX 0 dL_law_528 rfl rfl ?_
        refine aw_iload_n (pc := 529) hX 3 dL_law_529 rfl rfl ?_
        refine aw_iconst (pc := 530) hX (1 : Int32) dL_law_530 (by decide) ?_
        refine aw_iadd (pc := 531) hX dL_law_531 ?_
        obtain ⟨hv532, h⟩ := ite_g h
        refine aw_saload (pc := 532) hX dL_law_532 (vinb_in hv532) ?_
        obtain ⟨r533, hq533, h⟩ := bind_s h
        refine aw_V1i (pc := 533) hX h_X6_had l_L_77 dL_law_533 (by rfl) (by decide) (by rfl) rfl rfl rfl (Nat.le_of_ble_eq_true rfl) (s_X6_had hc hd hq533) ?_
        refine aw_aload_n (pc := 536) hX 2 dL_law_536 rfl rfl ?_
        refine aw_sload_n (pc := 537) hX 0 dL_law_537 rfl rfl ?_
        refine aw_iload_n (pc := 538) hX 3 dL_law_538 rfl rfl ?_
        refine aw_iconst (pc := 539) hX (1 : Int32) dL_law_539 (by decide) ?_
        refine aw_iadd (pc := 540) hX dL_law_540 ?_
        obtain ⟨hv541, h⟩ := ite_g h
        refine aw_saload (pc := 541) hX dL_law_541 (vinb_in hv541) ?_
        obtain ⟨r542, hq542, h⟩ := bind_s h
        refine aw_V1i (pc := 542) hX h_X7_had l_L_80 dL_law_542 (by rfl) (by decide) (by rfl) rfl rfl rfl (Nat.le_of_ble_eq_true rfl) (s_X7_had  hq542) ?_
        refine aw_icmp_eq (pc := 545) hX 831 dL_law_545 rfl (fun hc545 => ?_) (fun hc545 => ?_)
        · have h := ite_t h hc545
          exact AW.lo (t_L_law_831 hX hZ (ih) c d I L x3 hc hd h) (And.intro (Or.inr rfl) (And.intro (Or.inr rfl) (And.intro (Or.inr rfl) (And.intro (Or.inr rfl) trivial))))
        · have h := ite_f h hc545
          refine aw_iconst (pc := 548) hX (0 : Int32) dL_law_548 (by decide) ?_
          cases h
      have h := ite_f h hs32_15
      by_cases hs32_16 : (((gX G) (x3).toNatClampNeg) &&& (31 : Int32)) = (16 : Int32)
      · have h := ite_t h hs32_16
        refine aw_tcase (pc := 32) (off := 518) hX (16 : Int32) 550 dL_law_32 hs32_16 (by decide) (by decide) (by decide) rfl ?_
        refine aw_aload_n (pc := 550) hX 1 dL_law_550 rfl rfl ?_
        refine aw_sload_n (pc := 551) hX 0 dL_law_551 rfl rfl ?_
        refine aw_iload_n (pc := 552) hX 3 dL_law_552 rfl rfl ?_
        refine aw_iconst (pc := 553) hX (1 : Int32) dL_law_553 (by decide) ?_
        refine aw_iadd (pc := 554) hX dL_law_554 ?_
        obtain ⟨hv555, h⟩ := ite_g h
        refine aw_saload (pc := 555) hX dL_law_555 (vinb_in hv555) ?_
        obtain ⟨r556, hq556, h⟩ := bind_s h
        refine aw_V1i (pc := 556) hX h_X6_ask l_L_81 dL_law_556 (by rfl) (by decide) (by rfl) rfl rfl rfl (Nat.le_of_ble_eq_true rfl) (s_X6_ask hc hd hq556) ?_
        refine aw_aload_n (pc := 559) hX 2 dL_law_559 rfl rfl ?_
        refine aw_sload_n (pc := 560) hX 0 dL_law_560 rfl rfl ?_
        refine aw_iload_n (pc := 561) hX 3 dL_law_561 rfl rfl ?_
        refine aw_iconst (pc := 562) hX (1 : Int32) dL_law_562 (by decide) ?_
        refine aw_iadd (pc := 563) hX dL_law_563 ?_
        obtain ⟨hv564, h⟩ := ite_g h
        refine aw_saload (pc := 564) hX dL_law_564 (vinb_in hv564) ?_
        obtain ⟨r565, hq565, h⟩ := bind_s h
        refine aw_V1i (pc := 565) hX h_X7_ask l_L_84 dL_law_565 (by rfl) (by decide) (by rfl) rfl rfl rfl (Nat.le_of_ble_eq_true rfl) (s_X7_ask  hq565) ?_
        refine aw_icmp_eq (pc := 568) hX 831 dL_law_568 rfl (fun hc568 => ?_) (fun hc568 => ?_)
        · have h := ite_t h hc568
          exact AW.lo (t_L_law_831 hX hZ (ih) c d I L x3 hc hd h) (And.intro (Or.inr rfl) (And.intro (Or.inr rfl) (And.intro (Or.inr rfl) (And.intro (Or.inr rfl) trivial))))
        · have h := ite_f h hc568
          refine aw_iconst (pc := 571) hX (0 : Int32) dL_law_571 (by decide) ?_
          cases h
      have h := ite_f h hs32_16
      by_cases hs32_17 : (((gX G) (x3).toNatClampNeg) &&& (31 : Int32)) = (17 : Int32)
      · have h := ite_t h hs32_17
        refine aw_tcase (pc := 32) (off := 541) hX (17 : Int32) 573 dL_law_32 hs32_17 (by decide) (by decide) (by decide) rfl ?_
        refine aw_aload_n (pc := 573) hX 1 dL_law_573 rfl rfl ?_
        refine aw_sload_n (pc := 574) hX 0 dL_law_574 rfl rfl ?_
        refine aw_iload_n (pc := 575) hX 3 dL_law_575 rfl rfl ?_
        refine aw_iconst (pc := 576) hX (1 : Int32) dL_law_576 (by decide) ?_
        refine aw_iadd (pc := 577) hX dL_law_577 ?_
        obtain ⟨hv578, h⟩ := ite_g h
        refine aw_saload (pc := 578) hX dL_law_578 (vinb_in hv578) ?_
        refine aw_sload_n (pc := 579) hX 0 dL_law_579 rfl rfl ?_
        refine aw_iload_n (pc := 580) hX 3 dL_law_580 rfl rfl ?_
        refine aw_iconst (pc := 581) hX (2 : Int32) dL_law_581 (by decide) ?_
        refine aw_iadd (pc := 582) hX dL_law_582 ?_
        obtain ⟨hv583, h⟩ := ite_g h
        refine aw_saload (pc := 583) hX dL_law_583 (vinb_in hv583) ?_
        obtain ⟨r584, hq584, h⟩ := bind_s h
        refine aw_V2i (pc := 584) hX h_X6_tale l_L_85 dL_law_584 (by rfl) (by decide) (by rfl) rfl rfl rfl (Nat.le_of_ble_eq_true rfl) (s_X6_tale hc hd hq584) ?_
        refine aw_aload_n (pc := 587) hX 2 dL_law_587 rfl rfl ?_
        refine aw_sload_n (pc := 588) hX 0 dL_law_588 rfl rfl ?_
        refine aw_iload_n (pc := 589) hX 3 dL_law_589 rfl rfl ?_
        refine aw_iconst (pc := 590) hX (1 : Int32) dL_law_590 (by decide) ?_
        refine aw_iadd (pc := 591) hX dL_law_591 ?_
        obtain ⟨hv592, h⟩ := ite_g h
        refine aw_saload (pc := 592) hX dL_law_592 (vinb_in hv592) ?_
        refine aw_sload_n (pc := 593) hX 0 dL_law_593 rfl rfl ?_
        refine aw_iload_n (pc := 594) hX 3 dL_law_594 rfl rfl ?_
        refine aw_iconst (pc := 595) hX (2 : Int32) dL_law_595 (by decide) ?_
        refine aw_iadd (pc := 596) hX dL_law_596 ?_
        obtain ⟨hv597, h⟩ := ite_g h
        refine aw_saload (pc := 597) hX dL_law_597 (vinb_in hv597) ?_
        obtain ⟨r598, hq598, h⟩ := bind_s h
        refine aw_V2i (pc := 598) hX h_X7_tale l_L_88 dL_law_598 (by rfl) (by decide) (by rfl) rfl rfl rfl (Nat.le_of_ble_eq_true rfl) (s_X7_tale  hq598) ?_
        refine aw_icmp_eq (pc := 601) hX 831 dL_law_601 rfl (fun hc601 => ?_) (fun hc601 => ?_)
        · have h := ite_t h hc601
          exact AW.lo (t_L_law_831 hX hZ (ih) c d I L x3 hc hd h) (And.intro (Or.inr rfl) (And.intro (Or.inr rfl) (And.intro (Or.inr rfl) (And.intro (Or.inr rfl) trivial))))
        · have h := ite_f h hc601
          refine aw_iconst (pc := 604) hX (0 : Int32) dL_law_604 (by decide) ?_
          cases h
      have h := ite_f h hs32_17
      by_cases hs32_18 : (((gX G) (x3).toNatClampNeg) &&& (31 : Int32)) = (18 : Int32)
      · have h := ite_t h hs32_18
        refine aw_tcase (pc := 32) (off := 574) hX (18 : Int32) 606 dL_law_32 hs32_18 (by decide) (by decide) (by decide) rfl ?_
        refine aw_aload_n (pc := 606) hX 1 dL_law_606 rfl rfl ?_
        refine aw_sload_n (pc := 607) hX 0 dL_law_607 rfl rfl ?_
        refine aw_iload_n (pc := 608) hX 3 dL_law_608 rfl rfl ?_
        refine aw_iconst (pc := 609) hX (1 : Int32) dL_law_609 (by decide) ?_
        refine aw_iadd (pc := 610) hX dL_law_610 ?_
        obtain ⟨hv611, h⟩ := ite_g h
        refine aw_saload (pc := 611) hX dL_law_611 (vinb_in hv611) ?_
        refine aw_sload_n (pc := 612) hX 0 dL_law_612 rfl rfl ?_
        refine aw_iload_n (pc := 613) hX 3 dL_law_613 rfl rfl ?_
        refine aw_iconst (pc := 614) hX (2 : Int32) dL_law_614 (by decide) ?_
        refine aw_iadd (pc := 615) hX dL_law_615 ?_
        obtain ⟨hv616, h⟩ := ite_g h
        refine aw_saload (pc := 616) hX dL_law_616 (vinb_in hv616) ?_
        obtain ⟨r617, hq617, h⟩ := bind_s h
        refine aw_V2i (pc := 617) hX h_X6_first l_L_89 dL_law_617 (by rfl) (by decide) (by rfl) rfl rfl rfl (Nat.le_of_ble_eq_true rfl) (s_X6_first hc hd hq617) ?_
        refine aw_aload_n (pc := 620) hX 2 dL_law_620 rfl rfl ?_
        refine aw_sload_n (pc := 621) hX 0 dL_law_621 rfl rfl ?_
        refine aw_iload_n (pc := 622) hX 3 dL_law_622 rfl rfl ?_
        refine aw_iconst (pc := 623) hX (1 : Int32) dL_law_623 (by decide) ?_
        refine aw_iadd (pc := 624) hX dL_law_624 ?_
        obtain ⟨hv625, h⟩ := ite_g h
        refine aw_saload (pc := 625) hX dL_law_625 (vinb_in hv625) ?_
        refine aw_sload_n (pc := 626) hX 0 dL_law_626 rfl rfl ?_
        refine aw_iload_n (pc := 627) hX 3 dL_law_627 rfl rfl ?_
        refine aw_iconst (pc := 628) hX (2 : Int32) dL_law_628 (by decide) ?_
        refine aw_iadd (pc := 629) hX dL_law_629 ?_
        obtain ⟨hv630, h⟩ := ite_g h
        refine aw_saload (pc := 630) hX dL_law_630 (vinb_in hv630) ?_
        obtain ⟨r631, hq631, h⟩ := bind_s h
        refine aw_V2i (pc := 631) hX h_X7_first l_L_92 dL_law_631 (by rfl) (by decide) (by rfl) rfl rfl rfl (Nat.le_of_ble_eq_true rfl) (s_X7_first  hq631) ?_
        refine aw_icmp_eq (pc := 634) hX 831 dL_law_634 rfl (fun hc634 => ?_) (fun hc634 => ?_)
        · have h := ite_t h hc634
          exact AW.lo (t_L_law_831 hX hZ (ih) c d I L x3 hc hd h) (And.intro (Or.inr rfl) (And.intro (Or.inr rfl) (And.intro (Or.inr rfl) (And.intro (Or.inr rfl) trivial))))
        · have h := ite_f h hc634
          refine aw_iconst (pc := 637) hX (0 : Int32) dL_law_637 (by decide) ?_
          cases h
      have h := ite_f h hs32_18
      by_cases hs32_19 : (((gX G) (x3).toNatClampNeg) &&& (31 : Int32)) = (19 : Int32)
      · have h := ite_t h hs32_19
        refine aw_tcase (pc := 32) (off := 607) hX (19 : Int32) 639 dL_law_32 hs32_19 (by decide) (by decide) (by decide) rfl ?_
        refine aw_aload_n (pc := 639) hX 1 dL_law_639 rfl rfl ?_
        refine aw_sload_n (pc := 640) hX 0 dL_law_640 rfl rfl ?_
        refine aw_iload_n (pc := 641) hX 3 dL_law_641 rfl rfl ?_
        refine aw_iconst (pc := 642) hX (1 : Int32) dL_law_642 (by decide) ?_
        refine aw_iadd (pc := 643) hX dL_law_643 ?_
        obtain ⟨hv644, h⟩ := ite_g h
        refine aw_saload (pc := 644) hX dL_law_644 (vinb_in hv644) ?_
        obtain ⟨r645, hq645, h⟩ := bind_s h
        refine aw_V1i (pc := 645) hX h_X6_when l_L_93 dL_law_645 (by rfl) (by decide) (by rfl) rfl rfl rfl (Nat.le_of_ble_eq_true rfl) (s_X6_when hc hd hq645) ?_
        refine aw_aload_n (pc := 648) hX 2 dL_law_648 rfl rfl ?_
        refine aw_sload_n (pc := 649) hX 0 dL_law_649 rfl rfl ?_
        refine aw_iload_n (pc := 650) hX 3 dL_law_650 rfl rfl ?_
        refine aw_iconst (pc := 651) hX (1 : Int32) dL_law_651 (by decide) ?_
        refine aw_iadd (pc := 652) hX dL_law_652 ?_
        obtain ⟨hv653, h⟩ := ite_g h
        refine aw_saload (pc := 653) hX dL_law_653 (vinb_in hv653) ?_
        obtain ⟨r654, hq654, h⟩ := bind_s h
        refine aw_V1i (pc := 654) hX h_X7_when l_L_96 dL_law_654 (by rfl) (by decide) (by rfl) rfl rfl rfl (Nat.le_of_ble_eq_true rfl) (s_X7_when  hq654) ?_
        refine aw_icmp_eq (pc := 657) hX 831 dL_law_657 rfl (fun hc657 => ?_) (fun hc657 => ?_)
        · have h := ite_t h hc657
          exact AW.lo (t_L_law_831 hX hZ (ih) c d I L x3 hc hd h) (And.intro (Or.inr rfl) (And.intro (Or.inr rfl) (And.intro (Or.inr rfl) (And.intro (Or.inr rfl) trivial))))
        · have h := ite_f h hc657
          refine aw_iconst (pc := 660) hX (0 : Int32) dL_law_660 (by decide) ?_
          cases h
      have h := ite_f h hs32_19
      by_cases hs32_20 : (((gX G) (x3).toNatClampNeg) &&& (31 : Int32)) = (20 : Int32)
      · have h := ite_t h hs32_20
        refine aw_tcase (pc := 32) (off := 630) hX (20 : Int32) 662 dL_law_32 hs32_20 (by decide) (by decide) (by decide) rfl ?_
        refine aw_aload_n (pc := 662) hX 1 dL_law_662 rfl rfl ?_
        refine aw_sload_n (pc := 663) hX 0 dL_law_663 rfl rfl ?_
        refine aw_iload_n (pc := 664) hX 3 dL_law_664 rfl rfl ?_
        refine aw_iconst (pc := 665) hX (1 : Int32) dL_law_665 (by decide) ?_
        refine aw_iadd (pc := 666) hX dL_law_666 ?_
        obtain ⟨hv667, h⟩ := ite_g h
        refine aw_saload (pc := 667) hX dL_law_667 (vinb_in hv667) ?_
        refine aw_sload_n (pc := 668) hX 0 dL_law_668 rfl rfl ?_
        refine aw_iload_n (pc := 669) hX 3 dL_law_669 rfl rfl ?_
        refine aw_iconst (pc := 670) hX (2 : Int32) dL_law_670 (by decide) ?_
        refine aw_iadd (pc := 671) hX dL_law_671 ?_
        obtain ⟨hv672, h⟩ := ite_g h
        refine aw_saload (pc := 672) hX dL_law_672 (vinb_in hv672) ?_
        refine aw_sload_n (pc := 673) hX 0 dL_law_673 rfl rfl ?_
        refine aw_iload_n (pc := 674) hX 3 dL_law_674 rfl rfl ?_
        refine aw_iconst (pc := 675) hX (3 : Int32) dL_law_675 (by decide) ?_
        refine aw_iadd (pc := 676) hX dL_law_676 ?_
        obtain ⟨hv677, h⟩ := ite_g h
        refine aw_saload (pc := 677) hX dL_law_677 (vinb_in hv677) ?_
        refine aw_sload_n (pc := 678) hX 0 dL_law_678 rfl rfl ?_
        refine aw_iload_n (pc := 679) hX 3 dL_law_679 rfl rfl ?_
        refine aw_iconst (pc := 680) hX (4 : Int32) dL_law_680 (by decide) ?_
        refine aw_iadd (pc := 681) hX dL_law_681 ?_
        obtain ⟨hv682, h⟩ := ite_g h
        refine aw_saload (pc := 682) hX dL_law_682 (vinb_in hv682) ?_
        obtain ⟨r683, hq683, h⟩ := bind_s h
        refine aw_V4i (pc := 683) hX h_X6_odds l_L_97 dL_law_683 (by rfl) (by decide) (by rfl) rfl rfl rfl (Nat.le_of_ble_eq_true rfl) (s_X6_odds  hq683) ?_
        refine aw_aload_n (pc := 686) hX 2 dL_law_686 rfl rfl ?_
        refine aw_sload_n (pc := 687) hX 0 dL_law_687 rfl rfl ?_
        refine aw_iload_n (pc := 688) hX 3 dL_law_688 rfl rfl ?_
        refine aw_iconst (pc := 689) hX (1 : Int32) dL_law_689 (by decide) ?_
        refine aw_iadd (pc := 690) hX dL_law_690 ?_
        obtain ⟨hv691, h⟩ := ite_g h
        refine aw_saload (pc := 691) hX dL_law_691 (vinb_in hv691) ?_
        refine aw_sload_n (pc := 692) hX 0 dL_law_692 rfl rfl ?_
        refine aw_iload_n (pc := 693) hX 3 dL_law_693 rfl rfl ?_
        refine aw_iconst (pc := 694) hX (2 : Int32) dL_law_694 (by decide) ?_
        refine aw_iadd (pc := 695) hX dL_law_695 ?_
        obtain ⟨hv696, h⟩ := ite_g h
        refine aw_saload (pc := 696) hX dL_law_696 (vinb_in hv696) ?_
        refine aw_sload_n (pc := 697) hX 0 dL_law_697 rfl rfl ?_
        refine aw_iload_n (pc := 698) hX 3 dL_law_698 rfl rfl ?_
        refine aw_iconst (pc := 699) hX (3 : Int32) dL_law_699 (by decide) ?_
        refine aw_iadd (pc := 700) hX dL_law_700 ?_
        obtain ⟨hv701, h⟩ := ite_g h
        refine aw_saload (pc := 701) hX dL_law_701 (vinb_in hv701) ?_
        refine aw_sload_n (pc := 702) hX 0 dL_law_702 rfl rfl ?_
        refine aw_iload_n (pc := 703) hX 3 dL_law_703 rfl rfl ?_
        refine aw_iconst (pc := 704) hX (4 : Int32) dL_law_704 (by decide) ?_
        refine aw_iadd (pc := 705) hX dL_law_705 ?_
        obtain ⟨hv706, h⟩ := ite_g h
        refine aw_saload (pc := 706) hX dL_law_706 (vinb_in hv706) ?_
        obtain ⟨r707, hq707, h⟩ := bind_s h
        refine aw_V4i (pc := 707) hX h_X7_odds l_L_101 dL_law_707 (by rfl) (by decide) (by rfl) rfl rfl rfl (Nat.le_of_ble_eq_true rfl) (s_X7_odds  hq707) ?_
        refine aw_icmp_eq (pc := 710) hX 831 dL_law_710 rfl (fun hc710 => ?_) (fun hc710 => ?_)
        · have h := ite_t h hc710
          exact AW.lo (t_L_law_831 hX hZ (ih) c d I L x3 hc hd h) (And.intro (Or.inr rfl) (And.intro (Or.inr rfl) (And.intro (Or.inr rfl) (And.intro (Or.inr rfl) trivial))))
        · have h := ite_f h hc710
          refine aw_iconst (pc := 713) hX (0 : Int32) dL_law_713 (by decide) ?_
          cases h
      have h := ite_f h hs32_20
      by_cases hs32_21 : (((gX G) (x3).toNatClampNeg) &&& (31 : Int32)) = (21 : Int32)
      · have h := ite_t h hs32_21
        refine aw_tcase (pc := 32) (off := 683) hX (21 : Int32) 715 dL_law_32 hs32_21 (by decide) (by decide) (by decide) rfl ?_
        refine aw_aload_n (pc := 715) hX 1 dL_law_715 rfl rfl ?_
        refine aw_sload_n (pc := 716) hX 0 dL_law_716 rfl rfl ?_
        refine aw_iload_n (pc := 717) hX 3 dL_law_717 rfl rfl ?_
        refine aw_iconst (pc := 718) hX (1 : Int32) dL_law_718 (by decide) ?_
        refine aw_iadd (pc := 719) hX dL_law_719 ?_
        obtain ⟨hv720, h⟩ := ite_g h
        refine aw_saload (pc := 720) hX dL_law_720 (vinb_in hv720) ?_
        refine aw_sload_n (pc := 721) hX 0 dL_law_721 rfl rfl ?_
        refine aw_iload_n (pc := 722) hX 3 dL_law_722 rfl rfl ?_
        refine aw_iconst (pc := 723) hX (2 : Int32) dL_law_723 (by decide) ?_
        refine aw_iadd (pc := 724) hX dL_law_724 ?_
        obtain ⟨hv725, h⟩ := ite_g h
        refine aw_saload (pc := 725) hX dL_law_725 (vinb_in hv725) ?_
        obtain ⟨r726, hq726, h⟩ := bind_s h
        refine aw_V2i (pc := 726) hX h_X6_rate l_L_102 dL_law_726 (by rfl) (by decide) (by rfl) rfl rfl rfl (Nat.le_of_ble_eq_true rfl) (s_X6_rate hc hd hq726) ?_
        refine aw_aload_n (pc := 729) hX 2 dL_law_729 rfl rfl ?_
        refine aw_sload_n (pc := 730) hX 0 dL_law_730 rfl rfl ?_
        refine aw_iload_n (pc := 731) hX 3 dL_law_731 rfl rfl ?_
        refine aw_iconst (pc := 732) hX (1 : Int32) dL_law_732 (by decide) ?_
        refine aw_iadd (pc := 733) hX dL_law_733 ?_
        obtain ⟨hv734, h⟩ := ite_g h
        refine aw_saload (pc := 734) hX dL_law_734 (vinb_in hv734) ?_
        refine aw_sload_n (pc := 735) hX 0 dL_law_735 rfl rfl ?_
        refine aw_iload_n (pc := 736) hX 3 dL_law_736 rfl rfl ?_
        refine aw_iconst (pc := 737) hX (2 : Int32) dL_law_737 (by decide) ?_
        refine aw_iadd (pc := 738) hX dL_law_738 ?_
        obtain ⟨hv739, h⟩ := ite_g h
        refine aw_saload (pc := 739) hX dL_law_739 (vinb_in hv739) ?_
        obtain ⟨r740, hq740, h⟩ := bind_s h
        refine aw_V2i (pc := 740) hX h_X7_rate l_L_105 dL_law_740 (by rfl) (by decide) (by rfl) rfl rfl rfl (Nat.le_of_ble_eq_true rfl) (s_X7_rate  hq740) ?_
        refine aw_icmp_eq (pc := 743) hX 831 dL_law_743 rfl (fun hc743 => ?_) (fun hc743 => ?_)
        · have h := ite_t h hc743
          exact AW.lo (t_L_law_831 hX hZ (ih) c d I r740.2 x3 hc hd h) (And.intro (Or.inr rfl) (And.intro (Or.inr rfl) (And.intro (Or.inr rfl) (And.intro (Or.inr rfl) trivial))))
        · have h := ite_f h hc743
          refine aw_iconst (pc := 746) hX (0 : Int32) dL_law_746 (by decide) ?_
          cases h
      have h := ite_f h hs32_21
      by_cases hs32_22 : (((gX G) (x3).toNatClampNeg) &&& (31 : Int32)) = (22 : Int32)
      · have h := ite_t h hs32_22
        refine aw_tcase (pc := 32) (off := 716) hX (22 : Int32) 748 dL_law_32 hs32_22 (by decide) (by decide) (by decide) rfl ?_
        refine aw_aload_n (pc := 748) hX 1 dL_law_748 rfl rfl ?_
        refine aw_sload_n (pc := 749) hX 0 dL_law_749 rfl rfl ?_
        refine aw_iload_n (pc := 750) hX 3 dL_law_750 rfl rfl ?_
        refine aw_iconst (pc := 751) hX (1 : Int32) dL_law_751 (by decide) ?_
        refine aw_iadd (pc := 752) hX dL_law_752 ?_
        obtain ⟨hv753, h⟩ := ite_g h
        refine aw_saload (pc := 753) hX dL_law_753 (vinb_in hv753) ?_
        obtain ⟨r754, hq754, h⟩ := bind_s h
        refine aw_V1i (pc := 754) hX h_X6_keep l_L_106 dL_law_754 (by rfl) (by decide) (by rfl) rfl rfl rfl (Nat.le_of_ble_eq_true rfl) (s_X6_keep  hq754) ?_
        refine aw_aload_n (pc := 757) hX 2 dL_law_757 rfl rfl ?_
        refine aw_sload_n (pc := 758) hX 0 dL_law_758 rfl rfl ?_
        refine aw_iload_n (pc := 759) hX 3 dL_law_759 rfl rfl ?_
        refine aw_iconst (pc := 760) hX (1 : Int32) dL_law_760 (by decide) ?_
        refine aw_iadd (pc := 761) hX dL_law_761 ?_
        obtain ⟨hv762, h⟩ := ite_g h
        refine aw_saload (pc := 762) hX dL_law_762 (vinb_in hv762) ?_
        obtain ⟨r763, hq763, h⟩ := bind_s h
        refine aw_V1i (pc := 763) hX h_X7_keep l_L_109 dL_law_763 (by rfl) (by decide) (by rfl) rfl rfl rfl (Nat.le_of_ble_eq_true rfl) (s_X7_keep  hq763) ?_
        refine aw_icmp_eq (pc := 766) hX 831 dL_law_766 rfl (fun hc766 => ?_) (fun hc766 => ?_)
        · have h := ite_t h hc766
          exact AW.lo (t_L_law_831 hX hZ (ih) c d r763.2 L x3 hc hd h) (And.intro (Or.inr rfl) (And.intro (Or.inr rfl) (And.intro (Or.inr rfl) (And.intro (Or.inr rfl) trivial))))
        · have h := ite_f h hc766
          refine aw_iconst (pc := 769) hX (0 : Int32) dL_law_769 (by decide) ?_
          cases h
      have h := ite_f h hs32_22
      by_cases hs32_23 : (((gX G) (x3).toNatClampNeg) &&& (31 : Int32)) = (23 : Int32)
      · have h := ite_t h hs32_23
        refine aw_tcase (pc := 32) (off := 739) hX (23 : Int32) 771 dL_law_32 hs32_23 (by decide) (by decide) (by decide) rfl ?_
        refine aw_aload_n (pc := 771) hX 1 dL_law_771 rfl rfl ?_
        refine aw_sload_n (pc := 772) hX 0 dL_law_772 rfl rfl ?_
        refine aw_iload_n (pc := 773) hX 3 dL_law_773 rfl rfl ?_
        refine aw_iconst (pc := 774) hX (1 : Int32) dL_law_774 (by decide) ?_
        refine aw_iadd (pc := 775) hX dL_law_775 ?_
        obtain ⟨hv776, h⟩ := ite_g h
        refine aw_saload (pc := 776) hX dL_law_776 (vinb_in hv776) ?_
        obtain ⟨r777, hq777, h⟩ := bind_s h
        refine aw_V1i (pc := 777) hX h_X6_back l_L_110 dL_law_777 (by rfl) (by decide) (by rfl) rfl rfl rfl (Nat.le_of_ble_eq_true rfl) (s_X6_back  hq777) ?_
        refine aw_aload_n (pc := 780) hX 2 dL_law_780 rfl rfl ?_
        refine aw_sload_n (pc := 781) hX 0 dL_law_781 rfl rfl ?_
        refine aw_iload_n (pc := 782) hX 3 dL_law_782 rfl rfl ?_
        refine aw_iconst (pc := 783) hX (1 : Int32) dL_law_783 (by decide) ?_
        refine aw_iadd (pc := 784) hX dL_law_784 ?_
        obtain ⟨hv785, h⟩ := ite_g h
        refine aw_saload (pc := 785) hX dL_law_785 (vinb_in hv785) ?_
        obtain ⟨r786, hq786, h⟩ := bind_s h
        refine aw_V1i (pc := 786) hX h_X7_back l_L_113 dL_law_786 (by rfl) (by decide) (by rfl) rfl rfl rfl (Nat.le_of_ble_eq_true rfl) (s_X7_back  hq786) ?_
        refine aw_icmp_eq (pc := 789) hX 831 dL_law_789 rfl (fun hc789 => ?_) (fun hc789 => ?_)
        · have h := ite_t h hc789
          exact AW.lo (t_L_law_831 hX hZ (ih) c d r786.2 L x3 hc hd h) (And.intro (Or.inr rfl) (And.intro (Or.inr rfl) (And.intro (Or.inr rfl) (And.intro (Or.inr rfl) trivial))))
        · have h := ite_f h hc789
          refine aw_iconst (pc := 792) hX (0 : Int32) dL_law_792 (by decide) ?_
          cases h
      have h := ite_f h hs32_23
      by_cases hs32_24 : (((gX G) (x3).toNatClampNeg) &&& (31 : Int32)) = (24 : Int32)
      · have h := ite_t h hs32_24
        refine aw_tcase (pc := 32) (off := 762) hX (24 : Int32) 794 dL_law_32 hs32_24 (by decide) (by decide) (by decide) rfl ?_
        refine aw_aload_n (pc := 794) hX 1 dL_law_794 rfl rfl ?_
        refine aw_sload_n (pc := 795) hX 0 dL_law_795 rfl rfl ?_
        refine aw_iload_n (pc := 796) hX 3 dL_law_796 rfl rfl ?_
        refine aw_iconst (pc := 797) hX (1 : Int32) dL_law_797 (by decide) ?_
        refine aw_iadd (pc := 798) hX dL_law_798 ?_
        obtain ⟨hv799, h⟩ := ite_g h
        refine aw_saload (pc := 799) hX dL_law_799 (vinb_in hv799) ?_
        obtain ⟨r800, hq800, h⟩ := bind_s h
        refine aw_V1i (pc := 800) hX h_X6_count l_L_114 dL_law_800 (by rfl) (by decide) (by rfl) rfl rfl rfl (Nat.le_of_ble_eq_true rfl) (s_X6_count hc hd hq800) ?_
        refine aw_aload_n (pc := 803) hX 2 dL_law_803 rfl rfl ?_
        refine aw_sload_n (pc := 804) hX 0 dL_law_804 rfl rfl ?_
        refine aw_iload_n (pc := 805) hX 3 dL_law_805 rfl rfl ?_
        refine aw_iconst (pc := 806) hX (1 : Int32) dL_law_806 (by decide) ?_
        refine aw_iadd (pc := 807) hX dL_law_807 ?_
        obtain ⟨hv808, h⟩ := ite_g h
        refine aw_saload (pc := 808) hX dL_law_808 (vinb_in hv808) ?_
        obtain ⟨r809, hq809, h⟩ := bind_s h
        refine aw_V1i (pc := 809) hX h_X7_count l_L_117 dL_law_809 (by rfl) (by decide) (by rfl) rfl rfl rfl (Nat.le_of_ble_eq_true rfl) (s_X7_count  hq809) ?_
        refine aw_icmp_eq (pc := 812) hX 831 dL_law_812 rfl (fun hc812 => ?_) (fun hc812 => ?_)
        · have h := ite_t h hc812
          exact AW.lo (t_L_law_831 hX hZ (ih) c d I L x3 hc hd h) (And.intro (Or.inr rfl) (And.intro (Or.inr rfl) (And.intro (Or.inr rfl) (And.intro (Or.inr rfl) trivial))))
        · have h := ite_f h hc812
          refine aw_iconst (pc := 815) hX (0 : Int32) dL_law_815 (by decide) ?_
          cases h
      have h := ite_f h hs32_24
      by_cases hs32_25 : (((gX G) (x3).toNatClampNeg) &&& (31 : Int32)) = (25 : Int32)
      · have h := ite_t h hs32_25
        refine aw_tcase (pc := 32) (off := 785) hX (25 : Int32) 817 dL_law_32 hs32_25 (by decide) (by decide) (by decide) rfl ?_
        refine aw_aload_n (pc := 817) hX 1 dL_law_817 rfl rfl ?_
        obtain ⟨r818, hq818, h⟩ := bind_s h
        refine aw_V0l (pc := 818) hX h_X6_trace l_L_118 dL_law_818 (by rfl) (by decide) (by rfl) rfl rfl rfl (Nat.le_of_ble_eq_true rfl) (s_X6_trace  hq818) ?_
        refine aw_aload_n (pc := 821) hX 2 dL_law_821 rfl rfl ?_
        obtain ⟨r822, hq822, h⟩ := bind_s h
        refine aw_V0l (pc := 822) hX h_X7_trace l_L_122 dL_law_822 (by rfl) (by decide) (by rfl) rfl rfl rfl (Nat.le_of_ble_eq_true rfl) (s_X7_trace  hq822) ?_
        refine aw_lcmp (pc := 825) hX dL_law_825 ?_
        refine aw_if_eq (pc := 826) hX 831 dL_law_826 rfl (fun hc826 => ?_) (fun hc826 => ?_)
        · have h := ite_t h hc826
          exact AW.lo (t_L_law_831 hX hZ (ih) c d I L x3 hc hd h) (And.intro (Or.inr rfl) (And.intro (Or.inr rfl) (And.intro (Or.inr rfl) (And.intro (Or.inr rfl) trivial))))
        · have h := ite_f h hc826
          refine aw_iconst (pc := 829) hX (0 : Int32) dL_law_829 (by decide) ?_
          cases h
      have h := ite_f h hs32_25
      refine aw_tableOut (pc := 32) hX 831 dL_law_32 (by have g0 := lv_neT hs32_0 (show ((0 : Int32)).toInt = 0 by decide); have g1 := lv_neT hs32_1 (show ((1 : Int32)).toInt = 1 by decide); have g2 := lv_neT hs32_2 (show ((2 : Int32)).toInt = 2 by decide); have g3 := lv_neT hs32_3 (show ((3 : Int32)).toInt = 3 by decide); have g4 := lv_neT hs32_4 (show ((4 : Int32)).toInt = 4 by decide); have g5 := lv_neT hs32_5 (show ((5 : Int32)).toInt = 5 by decide); have g6 := lv_neT hs32_6 (show ((6 : Int32)).toInt = 6 by decide); have g7 := lv_neT hs32_7 (show ((7 : Int32)).toInt = 7 by decide); have g8 := lv_neT hs32_8 (show ((8 : Int32)).toInt = 8 by decide); have g9 := lv_neT hs32_9 (show ((9 : Int32)).toInt = 9 by decide); have g10 := lv_neT hs32_10 (show ((10 : Int32)).toInt = 10 by decide); have g11 := lv_neT hs32_11 (show ((11 : Int32)).toInt = 11 by decide); have g12 := lv_neT hs32_12 (show ((12 : Int32)).toInt = 12 by decide); have g13 := lv_neT hs32_13 (show ((13 : Int32)).toInt = 13 by decide); have g14 := lv_neT hs32_14 (show ((14 : Int32)).toInt = 14 by decide); have g15 := lv_neT hs32_15 (show ((15 : Int32)).toInt = 15 by decide); have g16 := lv_neT hs32_16 (show ((16 : Int32)).toInt = 16 by decide); have g17 := lv_neT hs32_17 (show ((17 : Int32)).toInt = 17 by decide); have g18 := lv_neT hs32_18 (show ((18 : Int32)).toInt = 18 by decide); have g19 := lv_neT hs32_19 (show ((19 : Int32)).toInt = 19 by decide); have g20 := lv_neT hs32_20 (show ((20 : Int32)).toInt = 20 by decide); have g21 := lv_neT hs32_21 (show ((21 : Int32)).toInt = 21 by decide); have g22 := lv_neT hs32_22 (show ((22 : Int32)).toInt = 22 by decide); have g23 := lv_neT hs32_23 (show ((23 : Int32)).toInt = 23 by decide); have g24 := lv_neT hs32_24 (show ((24 : Int32)).toInt = 24 by decide); have g25 := lv_neT hs32_25 (show ((25 : Int32)).toInt = 25 by decide); omega) rfl ?_
      exact AW.lo (t_L_law_831 hX hZ (ih) c d I L x3 hc hd h) (And.intro (Or.inr rfl) (And.intro (Or.inr rfl) (And.intro (Or.inr rfl) (And.intro (Or.inr rfl) trivial))))
