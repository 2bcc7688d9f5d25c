def b_X7_ask_140 (I : Hi) (k26 : Int32 → Int32 → Int32 → Int32 → Int32 → Option (Int32)) (x1 : Int32) (x2 : Int32) (x4 : Int32) (x5 : Int32) (xs0 : Int32) : Option (Int32) := k26 x1 x2 xs0 x4 (x5 + 1)
set_option maxRecDepth 100000 in
set_option maxHeartbeats 4000000 in
theorem t_X7_ask_140 {G : GP} {X : CX} (hX : XOK G X mi_X7_ask) {c d : Nat} {I : Hi} {L : Hl} {p : Int32} (hZ : XZ G X mi_X7_ask (some (.int p)) S0 I (R0 c d) L) {k26 : Int32 → Int32 → Int32 → Int32 → Int32 → Option (Int32)} (hk26 : ∀ (x1 : Int32) (x2 : Int32) (x3 : Int32) (x4 : Int32) (x5 : Int32), k26 x1 x2 x3 x4 x5 = some p → AW G X 0 0 S0 I (R0 c d) L 26 [.ref 77, .int x1, .int x2, .int x3, .int x4, .int x5, .null, .null] []) (x1 : Int32) (x2 : Int32) (x4 : Int32) (x5 : Int32) (xs0 : Int32) (h : b_X7_ask_140 I k26 x1 x2 x4 x5 xs0 = some p) : AW G X 0 0 S0 I (R0 c d) L 140 [.ref 77, .int x1, .int x2, .null, .int x4, .int x5, .null, .null] [.int xs0] := by
  rw [b_X7_ask_140] at h
  refine aw_istore_nE (pc := 140) hX 3 [.ref 77, .int x1, .int x2, .int xs0, .int x4, .int x5, .null, .null] dX7_ask_140 rfl (by decide) rfl rfl ?_
  refine aw_iincE (pc := 141) hX (x5 + 1) [.ref 77, .int x1, .int x2, .int xs0, .int x4, .int (x5 + 1), .null, .null] dX7_ask_141 rfl rfl (by decide) rfl rfl ?_
  refine aw_goto (pc := 144) hX 26 dX7_ask_144 rfl ?_
  exact AW.lo (hk26 x1 x2 xs0 x4 (x5 + 1)  h) (And.intro (Or.inr rfl) (And.intro (Or.inr rfl) (And.intro (Or.inr rfl) (And.intro (Or.inr rfl) (And.intro (Or.inr rfl) (And.intro (Or.inr rfl) (And.intro (Or.inl rfl) (And.intro (Or.inl rfl) trivial))))))))
def b_X7_ask_126 (I : Hi) (k26 : Int32 → Int32 → Int32 → Int32 → Int32 → Option (Int32)) (x1 : Int32) (x2 : Int32) (x3 : Int32) (x5 : Int32) (x7 : Int32) (xs0 : Int32) : Option (Int32) := if x3 ≤ x7 then (b_X7_ask_140 I (k26) x1 x2 xs0 x5 x3) else (b_X7_ask_140 I (k26) x1 x2 xs0 x5 x7)
set_option maxRecDepth 100000 in
set_option maxHeartbeats 4000000 in
theorem t_X7_ask_126 {G : GP} {X : CX} (hX : XOK G X mi_X7_ask) {c d : Nat} {I : Hi} {L : Hl} {p : Int32} (hZ : XZ G X mi_X7_ask (some (.int p)) S0 I (R0 c d) L) {k26 : Int32 → Int32 → Int32 → Int32 → Int32 → Option (Int32)} (hk26 : ∀ (x1 : Int32) (x2 : Int32) (x3 : Int32) (x4 : Int32) (x5 : Int32), k26 x1 x2 x3 x4 x5 = some p → AW G X 0 0 S0 I (R0 c d) L 26 [.ref 77, .int x1, .int x2, .int x3, .int x4, .int x5, .null, .null] []) (x1 : Int32) (x2 : Int32) (x3 : Int32) (x5 : Int32) (x7 : Int32) (xs0 : Int32) (h : b_X7_ask_126 I k26 x1 x2 x3 x5 x7 xs0 = some p) : AW G X 0 0 S0 I (R0 c d) L 126 [.ref 77, .int x1, .int x2, .int x3, .null, .int x5, .null, .int x7] [.int xs0] := by
  rw [b_X7_ask_126] at h
  refine aw_istoreE (pc := 126) hX [.ref 77, .int x1, .int x2, .int x3, .int xs0, .int x5, .null, .int x7] dX7_ask_126 (by decide) rfl rfl ?_
  refine aw_iload (pc := 128) hX dX7_ask_128 rfl ?_
  refine aw_iload_n (pc := 130) hX 3 dX7_ask_130 rfl rfl ?_
  refine aw_icmp_ge (pc := 131) hX 139 dX7_ask_131 rfl (fun hc131 => ?_) (fun hc131 => ?_)
  · have h := ite_t h hc131
    refine aw_iload_n (pc := 139) hX 3 dX7_ask_139 rfl rfl ?_
    exact AW.lo (t_X7_ask_140 hX hZ (hk26) x1 x2 xs0 x5 x3 h) (And.intro (Or.inr rfl) (And.intro (Or.inr rfl) (And.intro (Or.inr rfl) (And.intro (Or.inl rfl) (And.intro (Or.inr rfl) (And.intro (Or.inr rfl) (And.intro (Or.inl rfl) (And.intro (Or.inl rfl) trivial))))))))
  · have h := ite_f h hc131
    refine aw_iload (pc := 134) hX dX7_ask_134 rfl ?_
    refine aw_goto (pc := 136) hX 140 dX7_ask_136 rfl ?_
    exact AW.lo (t_X7_ask_140 hX hZ (hk26) x1 x2 xs0 x5 x7 h) (And.intro (Or.inr rfl) (And.intro (Or.inr rfl) (And.intro (Or.inr rfl) (And.intro (Or.inl rfl) (And.intro (Or.inr rfl) (And.intro (Or.inr rfl) (And.intro (Or.inl rfl) (And.intro (Or.inl rfl) trivial))))))))
def b_X7_ask_111 (I : Hi) (k26 : Int32 → Int32 → Int32 → Int32 → Int32 → Option (Int32)) (x1 : Int32) (x2 : Int32) (x3 : Int32) (x4 : Int32) (x5 : Int32) (xs0 : Int32) : Option (Int32) := if x3 ≤ xs0 then (b_X7_ask_126 I (k26) x1 x2 x3 x5 xs0 x4) else (b_X7_ask_126 I (k26) x1 x2 x3 x5 xs0 x5)
set_option maxRecDepth 100000 in
set_option maxHeartbeats 4000000 in
theorem t_X7_ask_111 {G : GP} {X : CX} (hX : XOK G X mi_X7_ask) {c d : Nat} {I : Hi} {L : Hl} {p : Int32} (hZ : XZ G X mi_X7_ask (some (.int p)) S0 I (R0 c d) L) {k26 : Int32 → Int32 → Int32 → Int32 → Int32 → Option (Int32)} (hk26 : ∀ (x1 : Int32) (x2 : Int32) (x3 : Int32) (x4 : Int32) (x5 : Int32), k26 x1 x2 x3 x4 x5 = some p → AW G X 0 0 S0 I (R0 c d) L 26 [.ref 77, .int x1, .int x2, .int x3, .int x4, .int x5, .null, .null] []) (x1 : Int32) (x2 : Int32) (x3 : Int32) (x4 : Int32) (x5 : Int32) (xs0 : Int32) (h : b_X7_ask_111 I k26 x1 x2 x3 x4 x5 xs0 = some p) : AW G X 0 0 S0 I (R0 c d) L 111 [.ref 77, .int x1, .int x2, .int x3, .int x4, .int x5, .null, .null] [.int xs0] := by
  rw [b_X7_ask_111] at h
  refine aw_istoreE (pc := 111) hX [.ref 77, .int x1, .int x2, .int x3, .int x4, .int x5, .null, .int xs0] dX7_ask_111 (by decide) rfl rfl ?_
  refine aw_iload (pc := 113) hX dX7_ask_113 rfl ?_
  refine aw_iload_n (pc := 115) hX 3 dX7_ask_115 rfl rfl ?_
  refine aw_icmp_ge (pc := 116) hX 124 dX7_ask_116 rfl (fun hc116 => ?_) (fun hc116 => ?_)
  · have h := ite_t h hc116
    refine aw_iload (pc := 124) hX dX7_ask_124 rfl ?_
    exact AW.lo (t_X7_ask_126 hX hZ (hk26) x1 x2 x3 x5 xs0 x4 h) (And.intro (Or.inr rfl) (And.intro (Or.inr rfl) (And.intro (Or.inr rfl) (And.intro (Or.inr rfl) (And.intro (Or.inl rfl) (And.intro (Or.inr rfl) (And.intro (Or.inl rfl) (And.intro (Or.inr rfl) trivial))))))))
  · have h := ite_f h hc116
    refine aw_iload (pc := 119) hX dX7_ask_119 rfl ?_
    refine aw_goto (pc := 121) hX 126 dX7_ask_121 rfl ?_
    exact AW.lo (t_X7_ask_126 hX hZ (hk26) x1 x2 x3 x5 xs0 x5 h) (And.intro (Or.inr rfl) (And.intro (Or.inr rfl) (And.intro (Or.inr rfl) (And.intro (Or.inr rfl) (And.intro (Or.inl rfl) (And.intro (Or.inr rfl) (And.intro (Or.inl rfl) (And.intro (Or.inr rfl) trivial))))))))
def b_X7_ask_93 (I : Hi) (k26 : Int32 → Int32 → Int32 → Int32 → Int32 → Option (Int32)) (x1 : Int32) (x2 : Int32) (x3 : Int32) (x4 : Int32) (x5 : Int32) (x6 : Int32) : Option (Int32) := if x6 ≤ (x2 - x6) then (b_X7_ask_111 I (k26) x1 x2 x3 x4 x5 (x2 - x6)) else (b_X7_ask_111 I (k26) x1 x2 x3 x4 x5 x6)
set_option maxRecDepth 100000 in
set_option maxHeartbeats 4000000 in
theorem t_X7_ask_93 {G : GP} {X : CX} (hX : XOK G X mi_X7_ask) {c d : Nat} {I : Hi} {L : Hl} {p : Int32} (hZ : XZ G X mi_X7_ask (some (.int p)) S0 I (R0 c d) L) {k26 : Int32 → Int32 → Int32 → Int32 → Int32 → Option (Int32)} (hk26 : ∀ (x1 : Int32) (x2 : Int32) (x3 : Int32) (x4 : Int32) (x5 : Int32), k26 x1 x2 x3 x4 x5 = some p → AW G X 0 0 S0 I (R0 c d) L 26 [.ref 77, .int x1, .int x2, .int x3, .int x4, .int x5, .null, .null] []) (x1 : Int32) (x2 : Int32) (x3 : Int32) (x4 : Int32) (x5 : Int32) (x6 : Int32) (h : b_X7_ask_93 I k26 x1 x2 x3 x4 x5 x6 = some p) : AW G X 0 0 S0 I (R0 c d) L 93 [.ref 77, .int x1, .int x2, .int x3, .int x4, .int x5, .int x6, .null] [] := by
  rw [b_X7_ask_93] at h
  refine aw_iload (pc := 93) hX dX7_ask_93 rfl ?_
  refine aw_iload_n (pc := 95) hX 2 dX7_ask_95 rfl rfl ?_
  refine aw_iload (pc := 96) hX dX7_ask_96 rfl ?_
  refine aw_isub (pc := 98) hX dX7_ask_98 ?_
  refine aw_icmp_le (pc := 99) hX 107 dX7_ask_99 rfl (fun hc99 => ?_) (fun hc99 => ?_)
  · have h := ite_t h hc99
    refine aw_iload_n (pc := 107) hX 2 dX7_ask_107 rfl rfl ?_
    refine aw_iload (pc := 108) hX dX7_ask_108 rfl ?_
    refine aw_isub (pc := 110) hX dX7_ask_110 ?_
    exact AW.lo (t_X7_ask_111 hX hZ (hk26) x1 x2 x3 x4 x5 (x2 - x6) h) (And.intro (Or.inr rfl) (And.intro (Or.inr rfl) (And.intro (Or.inr rfl) (And.intro (Or.inr rfl) (And.intro (Or.inr rfl) (And.intro (Or.inr rfl) (And.intro (Or.inl rfl) (And.intro (Or.inl rfl) trivial))))))))
  · have h := ite_f h hc99
    refine aw_iload (pc := 102) hX dX7_ask_102 rfl ?_
    refine aw_goto (pc := 104) hX 111 dX7_ask_104 rfl ?_
    exact AW.lo (t_X7_ask_111 hX hZ (hk26) x1 x2 x3 x4 x5 x6 h) (And.intro (Or.inr rfl) (And.intro (Or.inr rfl) (And.intro (Or.inr rfl) (And.intro (Or.inr rfl) (And.intro (Or.inr rfl) (And.intro (Or.inr rfl) (And.intro (Or.inl rfl) (And.intro (Or.inl rfl) trivial))))))))
def b_X7_ask_84 (I : Hi) (k26 : Int32 → Int32 → Int32 → Int32 → Int32 → Option (Int32)) (k44 : Int32 → Int32 → Int32 → Int32 → Int32 → Int32 → Int32 → Option (Int32)) (x1 : Int32) (x2 : Int32) (x3 : Int32) (x4 : Int32) (x5 : Int32) (x7 : Int32) (bs0 : Bool) (xs1 : Int32) : Option (Int32) := k44 x1 x2 x3 x4 x5 (xs1 + (bI bs0)) (x7 + 1)
set_option maxRecDepth 100000 in
set_option maxHeartbeats 4000000 in
theorem t_X7_ask_84 {G : GP} {X : CX} (hX : XOK G X mi_X7_ask) {c d : Nat} {I : Hi} {L : Hl} {p : Int32} (hZ : XZ G X mi_X7_ask (some (.int p)) S0 I (R0 c d) L) {k26 : Int32 → Int32 → Int32 → Int32 → Int32 → Option (Int32)} (hk26 : ∀ (x1 : Int32) (x2 : Int32) (x3 : Int32) (x4 : Int32) (x5 : Int32), k26 x1 x2 x3 x4 x5 = some p → AW G X 0 0 S0 I (R0 c d) L 26 [.ref 77, .int x1, .int x2, .int x3, .int x4, .int x5, .null, .null] []) {k44 : Int32 → Int32 → Int32 → Int32 → Int32 → Int32 → Int32 → Option (Int32)} (hk44 : ∀ (x1 : Int32) (x2 : Int32) (x3 : Int32) (x4 : Int32) (x5 : Int32) (x6 : Int32) (x7 : Int32), k44 x1 x2 x3 x4 x5 x6 x7 = some p → AW G X 0 0 S0 I (R0 c d) L 44 [.ref 77, .int x1, .int x2, .int x3, .int x4, .int x5, .int x6, .int x7] []) (x1 : Int32) (x2 : Int32) (x3 : Int32) (x4 : Int32) (x5 : Int32) (x7 : Int32) (bs0 : Bool) (xs1 : Int32) (h : b_X7_ask_84 I k26 k44 x1 x2 x3 x4 x5 x7 bs0 xs1 = some p) : AW G X 0 0 S0 I (R0 c d) L 84 [.ref 77, .int x1, .int x2, .int x3, .int x4, .int x5, .null, .int x7] [.int (bI bs0), .int xs1] := by
  rw [b_X7_ask_84] at h
  refine aw_iadd (pc := 84) hX dX7_ask_84 ?_
  refine aw_istoreE (pc := 85) hX [.ref 77, .int x1, .int x2, .int x3, .int x4, .int x5, .int (xs1 + (bI bs0)), .int x7] dX7_ask_85 (by decide) rfl rfl ?_
  refine aw_iincE (pc := 87) hX (x7 + 1) [.ref 77, .int x1, .int x2, .int x3, .int x4, .int x5, .int (xs1 + (bI bs0)), .int (x7 + 1)] dX7_ask_87 rfl rfl (by decide) rfl rfl ?_
  refine aw_goto (pc := 90) hX 44 dX7_ask_90 rfl ?_
  exact AW.lo (hk44 x1 x2 x3 x4 x5 (xs1 + (bI bs0)) (x7 + 1)  h) (And.intro (Or.inr rfl) (And.intro (Or.inr rfl) (And.intro (Or.inr rfl) (And.intro (Or.inr rfl) (And.intro (Or.inr rfl) (And.intro (Or.inr rfl) (And.intro (Or.inr rfl) (And.intro (Or.inr rfl) trivial))))))))
def b_X7_ask_83 (I : Hi) (k26 : Int32 → Int32 → Int32 → Int32 → Int32 → Option (Int32)) (k44 : Int32 → Int32 → Int32 → Int32 → Int32 → Int32 → Int32 → Option (Int32)) (x1 : Int32) (x2 : Int32) (x3 : Int32) (x4 : Int32) (x5 : Int32) (x7 : Int32) (xs0 : Int32) : Option (Int32) := b_X7_ask_84 I (k26) (k44) x1 x2 x3 x4 x5 x7 false xs0
set_option maxRecDepth 100000 in
set_option maxHeartbeats 4000000 in
theorem t_X7_ask_83 {G : GP} {X : CX} (hX : XOK G X mi_X7_ask) {c d : Nat} {I : Hi} {L : Hl} {p : Int32} (hZ : XZ G X mi_X7_ask (some (.int p)) S0 I (R0 c d) L) {k26 : Int32 → Int32 → Int32 → Int32 → Int32 → Option (Int32)} (hk26 : ∀ (x1 : Int32) (x2 : Int32) (x3 : Int32) (x4 : Int32) (x5 : Int32), k26 x1 x2 x3 x4 x5 = some p → AW G X 0 0 S0 I (R0 c d) L 26 [.ref 77, .int x1, .int x2, .int x3, .int x4, .int x5, .null, .null] []) {k44 : Int32 → Int32 → Int32 → Int32 → Int32 → Int32 → Int32 → Option (Int32)} (hk44 : ∀ (x1 : Int32) (x2 : Int32) (x3 : Int32) (x4 : Int32) (x5 : Int32) (x6 : Int32) (x7 : Int32), k44 x1 x2 x3 x4 x5 x6 x7 = some p → AW G X 0 0 S0 I (R0 c d) L 44 [.ref 77, .int x1, .int x2, .int x3, .int x4, .int x5, .int x6, .int x7] []) (x1 : Int32) (x2 : Int32) (x3 : Int32) (x4 : Int32) (x5 : Int32) (x7 : Int32) (xs0 : Int32) (h : b_X7_ask_83 I k26 k44 x1 x2 x3 x4 x5 x7 xs0 = some p) : AW G X 0 0 S0 I (R0 c d) L 83 [.ref 77, .int x1, .int x2, .int x3, .int x4, .int x5, .null, .int x7] [.int xs0] := by
  rw [b_X7_ask_83] at h
  refine aw_iconst (pc := 83) hX (0 : Int32) dX7_ask_83 (by decide) ?_
  exact AW.lo (t_X7_ask_84 hX hZ (hk26) (hk44) x1 x2 x3 x4 x5 x7 false xs0 h) (And.intro (Or.inr rfl) (And.intro (Or.inr rfl) (And.intro (Or.inr rfl) (And.intro (Or.inr rfl) (And.intro (Or.inr rfl) (And.intro (Or.inr rfl) (And.intro (Or.inl rfl) (And.intro (Or.inr rfl) trivial))))))))
def b_X7_ask_44 (I : Hi) (k26 : Int32 → Int32 → Int32 → Int32 → Int32 → Option (Int32)) : Nat → Int32 → Int32 → Int32 → Int32 → Int32 → Int32 → Int32 → Option (Int32)
  | 0, _, _, _, _, _, _, _ => none
  | n + 1, x1, x2, x3, x4, x5, x6, x7 => if (64 : Int32) ≤ x7 then (b_X7_ask_93 I (k26) x1 x2 x3 x4 x5 x6) else ((f_X7_canHave I x7).bind fun r56 => if r56 = true then (if vinb x1 5 then (f_X7_has (x7 &&& (I (78) (x1).toNatClampNeg)) x5).bind fun r73 => if r73 = true then (b_X7_ask_84 I (k26) (b_X7_ask_44 I k26 n) x1 x2 x3 x4 x5 x7 true x6) else (b_X7_ask_83 I (k26) (b_X7_ask_44 I k26 n) x1 x2 x3 x4 x5 x7 x6) else none) else (b_X7_ask_83 I (k26) (b_X7_ask_44 I k26 n) x1 x2 x3 x4 x5 x7 x6))
set_option maxRecDepth 100000 in
set_option maxHeartbeats 4000000 in
theorem t_X7_ask_44 {G : GP} {X : CX} (hX : XOK G X mi_X7_ask) {c d : Nat} {I : Hi} {L : Hl} {p : Int32} (hZ : XZ G X mi_X7_ask (some (.int p)) S0 I (R0 c d) L) {k26 : Int32 → Int32 → Int32 → Int32 → Int32 → Option (Int32)} (hk26 : ∀ (x1 : Int32) (x2 : Int32) (x3 : Int32) (x4 : Int32) (x5 : Int32), k26 x1 x2 x3 x4 x5 = some p → AW G X 0 0 S0 I (R0 c d) L 26 [.ref 77, .int x1, .int x2, .int x3, .int x4, .int x5, .null, .null] []) : ∀ (n : Nat) (x1 : Int32) (x2 : Int32) (x3 : Int32) (x4 : Int32) (x5 : Int32) (x6 : Int32) (x7 : Int32), b_X7_ask_44 I k26 n x1 x2 x3 x4 x5 x6 x7 = some p → AW G X 0 0 S0 I (R0 c d) L 44 [.ref 77, .int x1, .int x2, .int x3, .int x4, .int x5, .int x6, .int x7] [] := by
  intro n
  induction n with
  | zero => intro x1 x2 x3 x4 x5 x6 x7 h; cases h
  | succ n ih =>
    intro x1 x2 x3 x4 x5 x6 x7 h
    rw [b_X7_ask_44] at h
    refine aw_iload (pc := 44) hX dX7_ask_44 rfl ?_
    refine aw_bipush (pc := 46) hX (64 : Int32) dX7_ask_46 (by decide) ?_
    refine aw_icmp_ge (pc := 48) hX 93 dX7_ask_48 rfl (fun hc48 => ?_) (fun hc48 => ?_)
    · have h := ite_t h hc48
      exact AW.lo (t_X7_ask_93 hX hZ (hk26) x1 x2 x3 x4 x5 x6 h) (And.intro (Or.inr rfl) (And.intro (Or.inr rfl) (And.intro (Or.inr rfl) (And.intro (Or.inr rfl) (And.intro (Or.inr rfl) (And.intro (Or.inr rfl) (And.intro (Or.inr rfl) (And.intro (Or.inl rfl) trivial))))))))
    · have h := ite_f h hc48
      refine aw_iload (pc := 51) hX dX7_ask_51 rfl ?_
      refine aw_aload_n (pc := 53) hX 0 dX7_ask_53 rfl rfl ?_
      refine aw_iload (pc := 54) hX dX7_ask_54 rfl ?_
      obtain ⟨r56, hq56, h⟩ := bind_s h
      refine aw_V1i (pc := 56) hX h_X7_canHave l_X7_235 dX7_ask_56 (by rfl) (by decide) (by rfl) rfl rfl rfl (Nat.le_of_ble_eq_true rfl) (s_X7_canHave  hq56) ?_
      refine aw_if_eq (pc := 59) hX 83 dX7_ask_59 rfl (fun hc59 => ?_) (fun hc59 => ?_)
      · have h := ite_f h (bI0 hc59)
        exact AW.lo (t_X7_ask_83 hX hZ (hk26) (ih) x1 x2 x3 x4 x5 x7 x6 h) (And.intro (Or.inr rfl) (And.intro (Or.inr rfl) (And.intro (Or.inr rfl) (And.intro (Or.inr rfl) (And.intro (Or.inr rfl) (And.intro (Or.inr rfl) (And.intro (Or.inl rfl) (And.intro (Or.inr rfl) trivial))))))))
      · have h := ite_t h (bI1 hc59)
        refine aw_iload (pc := 62) hX dX7_ask_62 rfl ?_
        refine aw_aload_n (pc := 64) hX 0 dX7_ask_64 rfl rfl ?_
        refine aw_getR (pc := 65) hX dX7_ask_65 f_X7_7 rfl (by rfl) (q := 78) (by rfl) ?_
        refine aw_iload_n (pc := 68) hX 1 dX7_ask_68 rfl rfl ?_
        obtain ⟨hv69, h⟩ := ite_g h
        refine aw_iaload (pc := 69) hX dX7_ask_69 (by rfl) (vinb_in hv69) ?_
        refine aw_iand (pc := 70) hX dX7_ask_70 ?_
        refine aw_iload (pc := 71) hX dX7_ask_71 rfl ?_
        obtain ⟨r73, hq73, h⟩ := bind_s h
        refine aw_S2i (pc := 73) hX h_X7_has l_X7_69 dX7_ask_73 rfl rfl rfl (Nat.le_of_ble_eq_true rfl) (s_X7_has  hq73) ?_
        refine aw_if_eq (pc := 76) hX 83 dX7_ask_76 rfl (fun hc76 => ?_) (fun hc76 => ?_)
        · have h := ite_f h (bI0 hc76)
          exact AW.lo (t_X7_ask_83 hX hZ (hk26) (ih) x1 x2 x3 x4 x5 x7 x6 h) (And.intro (Or.inr rfl) (And.intro (Or.inr rfl) (And.intro (Or.inr rfl) (And.intro (Or.inr rfl) (And.intro (Or.inr rfl) (And.intro (Or.inr rfl) (And.intro (Or.inl rfl) (And.intro (Or.inr rfl) trivial))))))))
        · have h := ite_t h (bI1 hc76)
          refine aw_iconst (pc := 79) hX (1 : Int32) dX7_ask_79 (by decide) ?_
          refine aw_goto (pc := 80) hX 84 dX7_ask_80 rfl ?_
          exact AW.lo (t_X7_ask_84 hX hZ (hk26) (ih) x1 x2 x3 x4 x5 x7 true x6 h) (And.intro (Or.inr rfl) (And.intro (Or.inr rfl) (And.intro (Or.inr rfl) (And.intro (Or.inr rfl) (And.intro (Or.inr rfl) (And.intro (Or.inr rfl) (And.intro (Or.inl rfl) (And.intro (Or.inr rfl) trivial))))))))
def b_X7_ask_26 (I : Hi)  : Nat → Int32 → Int32 → Int32 → Int32 → Int32 → Option (Int32)
  | 0, _, _, _, _, _ => none
  | n + 1, x1, x2, x3, x4, x5 => if (6 : Int32) ≤ x5 then (some (x4)) else (if x2 ≤ (1 : Int32) then (some (x4)) else (b_X7_ask_44 I (b_X7_ask_26 I n) 2000 x1 x2 x3 x4 x5 (0 : Int32) (0 : Int32)))
set_option maxRecDepth 100000 in
set_option maxHeartbeats 4000000 in
theorem t_X7_ask_26 {G : GP} {X : CX} (hX : XOK G X mi_X7_ask) {c d : Nat} {I : Hi} {L : Hl} {p : Int32} (hZ : XZ G X mi_X7_ask (some (.int p)) S0 I (R0 c d) L) : ∀ (n : Nat) (x1 : Int32) (x2 : Int32) (x3 : Int32) (x4 : Int32) (x5 : Int32), b_X7_ask_26 I n x1 x2 x3 x4 x5 = some p → AW G X 0 0 S0 I (R0 c d) L 26 [.ref 77, .int x1, .int x2, .int x3, .int x4, .int x5, .null, .null] [] := by
  intro n
  induction n with
  | zero => intro x1 x2 x3 x4 x5 h; cases h
  | succ n ih =>
    intro x1 x2 x3 x4 x5 h
    rw [b_X7_ask_26] at h
    refine aw_iload (pc := 26) hX dX7_ask_26 rfl ?_
    refine aw_bipush (pc := 28) hX (6 : Int32) dX7_ask_28 (by decide) ?_
    refine aw_icmp_ge (pc := 30) hX 147 dX7_ask_30 rfl (fun hc30 => ?_) (fun hc30 => ?_)
    · have h := ite_t h hc30
      refine aw_iload (pc := 147) hX dX7_ask_147 rfl ?_
      have e := Option.some.inj h
      subst e
      exact aw_iret hX hZ dX7_ask_149 rfl rfl rfl rfl rfl rfl rfl (Nat.le_refl _)
    · have h := ite_f h hc30
      refine aw_iload_n (pc := 33) hX 2 dX7_ask_33 rfl rfl ?_
      refine aw_iconst (pc := 34) hX (1 : Int32) dX7_ask_34 (by decide) ?_
      refine aw_icmp_le (pc := 35) hX 147 dX7_ask_35 rfl (fun hc35 => ?_) (fun hc35 => ?_)
      · have h := ite_t h hc35
        refine aw_iload (pc := 147) hX dX7_ask_147 rfl ?_
        have e := Option.some.inj h
        subst e
        exact aw_iret hX hZ dX7_ask_149 rfl rfl rfl rfl rfl rfl rfl (Nat.le_refl _)
      · have h := ite_f h hc35
        refine aw_iconst (pc := 38) hX (0 : Int32) dX7_ask_38 (by decide) ?_
        refine aw_istoreE (pc := 39) hX [.ref 77, .int x1, .int x2, .int x3, .int x4, .int x5, .int (0 : Int32), .null] dX7_ask_39 (by decide) rfl rfl ?_
        refine aw_iconst (pc := 41) hX (0 : Int32) dX7_ask_41 (by decide) ?_
        refine aw_istoreE (pc := 42) hX [.ref 77, .int x1, .int x2, .int x3, .int x4, .int x5, .int (0 : Int32), .int (0 : Int32)] dX7_ask_42 (by decide) rfl rfl ?_
        exact AW.lo (t_X7_ask_44 hX hZ (ih) 2000 x1 x2 x3 x4 x5 (0 : Int32) (0 : Int32) h) (And.intro (Or.inr rfl) (And.intro (Or.inr rfl) (And.intro (Or.inr rfl) (And.intro (Or.inr rfl) (And.intro (Or.inr rfl) (And.intro (Or.inr rfl) (And.intro (Or.inr rfl) (And.intro (Or.inr rfl) trivial))))))))
def f_X7_ask (I : Hi) (x1 : Int32) : Option (Int32) := (f_X7_isTheLeaf I x1).bind fun r2 => if r2 = true then ((f_X7_had I (0 : Int32)).bind fun r12 => b_X7_ask_26 I 2000 x1 r12 (65 : Int32) (-9 : Int32) (0 : Int32)) else (some ((-1 : Int32)))
set_option maxRecDepth 100000 in
set_option maxHeartbeats 4000000 in
theorem s_X7_ask {G : GP} {c d : Nat} {I : Hi} {L : Hl} {x1 : Int32} {p : Int32} (h : f_X7_ask I x1 = some p) : CD G mi_X7_ask [.ref 77, .int x1] S0 I (R0 c d) L (some (.int p)) S0 I (R0 c d) L := by
  refine CD.intro 6 rfl (by decide) rfl fun X hX hZ => ?_
  rw [f_X7_ask] at h
  show AW G X 0 0 S0 I (R0 c d) L 0 [.ref 77, .int x1, .null, .null, .null, .null, .null, .null] []
  refine aw_aload_n (pc := 0) hX 0 dX7_ask_0 rfl rfl ?_
  refine aw_iload_n (pc := 1) hX 1 dX7_ask_1 rfl rfl ?_
  obtain ⟨r2, hq2, h⟩ := bind_s h
  refine aw_V1i (pc := 2) hX h_X7_isTheLeaf l_X7_198 dX7_ask_2 (by rfl) (by decide) (by rfl) rfl rfl rfl (Nat.le_of_ble_eq_true rfl) (s_X7_isTheLeaf  hq2) ?_
  refine aw_if_ne (pc := 5) hX 10 dX7_ask_5 rfl (fun hc5 => ?_) (fun hc5 => ?_)
  · have h := ite_t h (bI1 hc5)
    refine aw_aload_n (pc := 10) hX 0 dX7_ask_10 rfl rfl ?_
    refine aw_iconst (pc := 11) hX (0 : Int32) dX7_ask_11 (by decide) ?_
    obtain ⟨r12, hq12, h⟩ := bind_s h
    refine aw_V1i (pc := 12) hX h_X7_had l_X7_238 dX7_ask_12 (by rfl) (by decide) (by rfl) rfl rfl rfl (Nat.le_of_ble_eq_true rfl) (s_X7_had  hq12) ?_
    refine aw_istore_nE (pc := 15) hX 2 [.ref 77, .int x1, .int r12, .null, .null, .null, .null, .null] dX7_ask_15 rfl (by decide) rfl rfl ?_
    refine aw_bipush (pc := 16) hX (65 : Int32) dX7_ask_16 (by decide) ?_
    refine aw_istore_nE (pc := 18) hX 3 [.ref 77, .int x1, .int r12, .int (65 : Int32), .null, .null, .null, .null] dX7_ask_18 rfl (by decide) rfl rfl ?_
    refine aw_bipush (pc := 19) hX (-9 : Int32) dX7_ask_19 (by decide) ?_
    refine aw_istoreE (pc := 21) hX [.ref 77, .int x1, .int r12, .int (65 : Int32), .int (-9 : Int32), .null, .null, .null] dX7_ask_21 (by decide) rfl rfl ?_
    refine aw_iconst (pc := 23) hX (0 : Int32) dX7_ask_23 (by decide) ?_
    refine aw_istoreE (pc := 24) hX [.ref 77, .int x1, .int r12, .int (65 : Int32), .int (-9 : Int32), .int (0 : Int32), .null, .null] dX7_ask_24 (by decide) rfl rfl ?_
    exact AW.lo (t_X7_ask_26 hX hZ 2000 x1 r12 (65 : Int32) (-9 : Int32) (0 : Int32) h) (And.intro (Or.inr rfl) (And.intro (Or.inr rfl) (And.intro (Or.inr rfl) (And.intro (Or.inr rfl) (And.intro (Or.inr rfl) (And.intro (Or.inr rfl) (And.intro (Or.inl rfl) (And.intro (Or.inl rfl) trivial))))))))
  · have h := ite_f h (bI0 hc5)
    refine aw_iconst (pc := 8) hX (-1 : Int32) dX7_ask_8 (by decide) ?_
    have e := Option.some.inj h
    subst e
    exact aw_iret hX hZ dX7_ask_9 rfl rfl rfl rfl rfl rfl rfl (Nat.le_refl _)
def b_X7_taleOf_5 (I : Hi)  : Nat → Int32 → Int32 → Int32 → Option (Int32)
  | 0, _, _, _ => none
  | n + 1, x2, x3, x4 => if x2 ≤ x4 then (some (x3)) else (if (I (77) 4) = (0 : Int32) then none else if vinb (((6 : Int32) * (x4 - x4 / (I (77) 4) * (I (77) 4))) + x3) 24 then b_X7_taleOf_5 I n x2 (I (80) ((((6 : Int32) * (x4 - x4 / (I (77) 4) * (I (77) 4))) + x3)).toNatClampNeg) (x4 + 1) else none)
set_option maxRecDepth 100000 in
set_option maxHeartbeats 4000000 in
theorem t_X7_taleOf_5 {G : GP} {X : CX} (hX : XOK G X mi_X7_taleOf) {c d : Nat} {I : Hi} {L : Hl} {p : Int32} (hZ : XZ G X mi_X7_taleOf (some (.int p)) S0 I (R0 c d) L) : ∀ (n : Nat) (x2 : Int32) (x3 : Int32) (x4 : Int32), b_X7_taleOf_5 I n x2 x3 x4 = some p → AW G X 0 0 S0 I (R0 c d) L 5 [.ref 77, .null, .int x2, .int x3, .int x4] [] := by
  intro n
  induction n with
  | zero => intro x2 x3 x4 h; cases h
  | succ n ih =>
    intro x2 x3 x4 h
    rw [b_X7_taleOf_5] at h
    refine aw_iload (pc := 5) hX dX7_taleOf_5 rfl ?_
    refine aw_iload_n (pc := 7) hX 2 dX7_taleOf_7 rfl rfl ?_
    refine aw_icmp_ge (pc := 8) hX 35 dX7_taleOf_8 rfl (fun hc8 => ?_) (fun hc8 => ?_)
    · have h := ite_t h hc8
      refine aw_iload_n (pc := 35) hX 3 dX7_taleOf_35 rfl rfl ?_
      have e := Option.some.inj h
      subst e
      exact aw_iret hX hZ dX7_taleOf_36 rfl rfl rfl rfl rfl rfl rfl (Nat.le_refl _)
    · have h := ite_f h hc8
      refine aw_aload_n (pc := 11) hX 0 dX7_taleOf_11 rfl rfl ?_
      refine aw_getR (pc := 12) hX dX7_taleOf_12 f_X7_16 rfl (by rfl) (q := 80) (by rfl) ?_
      refine aw_bipush (pc := 15) hX (6 : Int32) dX7_taleOf_15 (by decide) ?_
      refine aw_iload (pc := 17) hX dX7_taleOf_17 rfl ?_
      refine aw_aload_n (pc := 19) hX 0 dX7_taleOf_19 rfl rfl ?_
      refine aw_getI (pc := 20) hX dX7_taleOf_20 f_X7_170 rfl (by rfl) ?_
      obtain ⟨hne23, h⟩ := ite_n h
      refine aw_irem (pc := 23) hX dX7_taleOf_23 hne23 ?_
      refine aw_imul (pc := 24) hX dX7_taleOf_24 ?_
      refine aw_iload_n (pc := 25) hX 3 dX7_taleOf_25 rfl rfl ?_
      refine aw_iadd (pc := 26) hX dX7_taleOf_26 ?_
      obtain ⟨hv27, h⟩ := ite_g h
      refine aw_iaload (pc := 27) hX dX7_taleOf_27 (by rfl) (vinb_in hv27) ?_
      refine aw_istore_nE (pc := 28) hX 3 [.ref 77, .null, .int x2, .int (I (80) ((((6 : Int32) * (x4 - x4 / (I (77) 4) * (I (77) 4))) + x3)).toNatClampNeg), .int x4] dX7_taleOf_28 rfl (by decide) rfl rfl ?_
      refine aw_iincE (pc := 29) hX (x4 + 1) [.ref 77, .null, .int x2, .int (I (80) ((((6 : Int32) * (x4 - x4 / (I (77) 4) * (I (77) 4))) + x3)).toNatClampNeg), .int (x4 + 1)] dX7_taleOf_29 rfl rfl (by decide) rfl rfl ?_
      refine aw_goto (pc := 32) hX 5 dX7_taleOf_32 rfl ?_
      exact AW.lo (ih x2 (I (80) ((((6 : Int32) * (x4 - x4 / (I (77) 4) * (I (77) 4))) + x3)).toNatClampNeg) (x4 + 1)  h) (And.intro (Or.inr rfl) (And.intro (Or.inl rfl) (And.intro (Or.inr rfl) (And.intro (Or.inr rfl) (And.intro (Or.inr rfl) trivial)))))
def f_X7_taleOf (I : Hi) (x1 : Int32) (x2 : Int32) : Option (Int32) := b_X7_taleOf_5 I 2000 x2 x1 (0 : Int32)
set_option maxRecDepth 100000 in
set_option maxHeartbeats 4000000 in
theorem s_X7_taleOf {G : GP} {c d : Nat} {I : Hi} {L : Hl} {x1 : Int32} {x2 : Int32} {p : Int32} (h : f_X7_taleOf I x1 x2 = some p) : CD G mi_X7_taleOf [.ref 77, .int x1, .int x2] S0 I (R0 c d) L (some (.int p)) S0 I (R0 c d) L := by
  refine CD.intro 2 rfl (by decide) rfl fun X hX hZ => ?_
  rw [f_X7_taleOf] at h
  show AW G X 0 0 S0 I (R0 c d) L 0 [.ref 77, .int x1, .int x2, .null, .null] []
  refine aw_iload_n (pc := 0) hX 1 dX7_taleOf_0 rfl rfl ?_
  refine aw_istore_nE (pc := 1) hX 3 [.ref 77, .int x1, .int x2, .int x1, .null] dX7_taleOf_1 rfl (by decide) rfl rfl ?_
  refine aw_iconst (pc := 2) hX (0 : Int32) dX7_taleOf_2 (by decide) ?_
  refine aw_istoreE (pc := 3) hX [.ref 77, .int x1, .int x2, .int x1, .int (0 : Int32)] dX7_taleOf_3 (by decide) rfl rfl ?_
  exact AW.lo (t_X7_taleOf_5 hX hZ 2000 x2 x1 (0 : Int32) h) (And.intro (Or.inr rfl) (And.intro (Or.inl rfl) (And.intro (Or.inr rfl) (And.intro (Or.inr rfl) (And.intro (Or.inr rfl) trivial)))))
def b_X7_isTold_11 (I : Hi)   : Option (Bool) := some (true)
set_option maxRecDepth 100000 in
set_option maxHeartbeats 4000000 in
theorem t_X7_isTold_11 {G : GP} {X : CX} (hX : XOK G X mi_X7_isTold) {c d : Nat} {I : Hi} {L : Hl} {p : Bool} (hZ : XZ G X mi_X7_isTold (some (.int (bI p))) S0 I (R0 c d) L)  (h : b_X7_isTold_11 I  = some p) : AW G X 0 0 S0 I (R0 c d) L 11 [.null, .null] [] := by
  rw [b_X7_isTold_11] at h
  refine aw_iconst (pc := 11) hX (1 : Int32) dX7_isTold_11 (by decide) ?_
  refine aw_goto (pc := 12) hX 16 dX7_isTold_12 rfl ?_
  have e := Option.some.inj h
  subst e
  exact aw_zret hX hZ dX7_isTold_16 rfl (bI01 _) rfl rfl rfl rfl rfl rfl (Nat.le_refl _)
def f_X7_isTold (I : Hi) (x1 : Int32) : Option (Bool) := if x1 = (0 : Int32) then (b_X7_isTold_11 I) else (if (I (77) 4) ≤ (0 : Int32) then (some (false)) else (b_X7_isTold_11 I))
set_option maxRecDepth 100000 in
set_option maxHeartbeats 4000000 in
theorem s_X7_isTold {G : GP} {c d : Nat} {I : Hi} {L : Hl} {x1 : Int32} {p : Bool} (h : f_X7_isTold I x1 = some p) : CD G mi_X7_isTold [.ref 77, .int x1] S0 I (R0 c d) L (some (.int (bI p))) S0 I (R0 c d) L := by
  refine CD.intro 0 rfl (by decide) rfl fun X hX hZ => ?_
  rw [f_X7_isTold] at h
  show AW G X 0 0 S0 I (R0 c d) L 0 [.ref 77, .int x1] []
  refine aw_iload_n (pc := 0) hX 1 dX7_isTold_0 rfl rfl ?_
  refine aw_if_eq (pc := 1) hX 11 dX7_isTold_1 rfl (fun hc1 => ?_) (fun hc1 => ?_)
  · have h := ite_t h hc1
    exact AW.lo (t_X7_isTold_11 hX hZ h) (And.intro (Or.inl rfl) (And.intro (Or.inl rfl) trivial))
  · have h := ite_f h hc1
    refine aw_aload_n (pc := 4) hX 0 dX7_isTold_4 rfl rfl ?_
    refine aw_getI (pc := 5) hX dX7_isTold_5 f_X7_170 rfl (by rfl) ?_
    refine aw_if_le (pc := 8) hX 15 dX7_isTold_8 rfl (fun hc8 => ?_) (fun hc8 => ?_)
    · have h := ite_t h hc8
      refine aw_iconst (pc := 15) hX (0 : Int32) dX7_isTold_15 (by decide) ?_
      have e := Option.some.inj h
      subst e
      exact aw_zret hX hZ dX7_isTold_16 rfl (bI01 _) rfl rfl rfl rfl rfl rfl (Nat.le_refl _)
    · have h := ite_f h hc8
      exact AW.lo (t_X7_isTold_11 hX hZ h) (And.intro (Or.inl rfl) (And.intro (Or.inl rfl) trivial))
def f_X7_tale (I : Hi) (x1 : Int32) (x2 : Int32) : Option (Int32) := (f_X7_isTaste x1).bind fun r1 => if r1 = true then ((f_X7_in (x2).toInt64 (0 : Int64) (99 : Int64)).bind fun r13 => if r13 = true then ((f_X7_isTold I x2).bind fun r23 => if r23 = true then ((f_X7_taleOf I x1 x2).bind fun r32 => some (r32)) else (some ((-9 : Int32)))) else (some ((-1 : Int32)))) else (some ((-1 : Int32)))
set_option maxRecDepth 100000 in
set_option maxHeartbeats 4000000 in
theorem s_X7_tale {G : GP} {c d : Nat} {I : Hi} {L : Hl} {x1 : Int32} {x2 : Int32} {p : Int32} (h : f_X7_tale I x1 x2 = some p) : CD G mi_X7_tale [.ref 77, .int x1, .int x2] S0 I (R0 c d) L (some (.int p)) S0 I (R0 c d) L := by
  refine CD.intro 0 rfl (by decide) rfl fun X hX hZ => ?_
  rw [f_X7_tale] at h
  show AW G X 0 0 S0 I (R0 c d) L 0 [.ref 77, .int x1, .int x2] []
  refine aw_iload_n (pc := 0) hX 1 dX7_tale_0 rfl rfl ?_
  obtain ⟨r1, hq1, h⟩ := bind_s h
  refine aw_S1i (pc := 1) hX h_X7_isTaste l_X7_211 dX7_tale_1 rfl rfl rfl (Nat.le_of_ble_eq_true rfl) (s_X7_isTaste  hq1) ?_
  refine aw_if_eq (pc := 4) hX 19 dX7_tale_4 rfl (fun hc4 => ?_) (fun hc4 => ?_)
  · have h := ite_f h (bI0 hc4)
    refine aw_iconst (pc := 19) hX (-1 : Int32) dX7_tale_19 (by decide) ?_
    have e := Option.some.inj h
    subst e
    exact aw_iret hX hZ dX7_tale_20 rfl rfl rfl rfl rfl rfl rfl (Nat.le_refl _)
  · have h := ite_t h (bI1 hc4)
    refine aw_iload_n (pc := 7) hX 2 dX7_tale_7 rfl rfl ?_
    refine aw_i2l (pc := 8) hX dX7_tale_8 ?_
    refine aw_lconst (pc := 9) hX (0 : Int64) dX7_tale_9 (by decide) ?_
    refine aw_ldc2 (pc := 10) hX dX7_tale_10 v_X7_241 ?_
    obtain ⟨r13, hq13, h⟩ := bind_s h
    refine aw_S3i (pc := 13) hX h_X7_in l_X7_75 dX7_tale_13 rfl rfl rfl (Nat.le_of_ble_eq_true rfl) (s_X7_in  hq13) ?_
    refine aw_if_ne (pc := 16) hX 21 dX7_tale_16 rfl (fun hc16 => ?_) (fun hc16 => ?_)
    · have h := ite_t h (bI1 hc16)
      refine aw_aload_n (pc := 21) hX 0 dX7_tale_21 rfl rfl ?_
      refine aw_iload_n (pc := 22) hX 2 dX7_tale_22 rfl rfl ?_
      obtain ⟨r23, hq23, h⟩ := bind_s h
      refine aw_V1i (pc := 23) hX h_X7_isTold l_X7_243 dX7_tale_23 (by rfl) (by decide) (by rfl) rfl rfl rfl (Nat.le_of_ble_eq_true rfl) (s_X7_isTold  hq23) ?_
      refine aw_if_eq (pc := 26) hX 38 dX7_tale_26 rfl (fun hc26 => ?_) (fun hc26 => ?_)
      · have h := ite_f h (bI0 hc26)
        refine aw_bipush (pc := 38) hX (-9 : Int32) dX7_tale_38 (by decide) ?_
        have e := Option.some.inj h
        subst e
        exact aw_iret hX hZ dX7_tale_40 rfl rfl rfl rfl rfl rfl rfl (Nat.le_refl _)
      · have h := ite_t h (bI1 hc26)
        refine aw_aload_n (pc := 29) hX 0 dX7_tale_29 rfl rfl ?_
        refine aw_iload_n (pc := 30) hX 1 dX7_tale_30 rfl rfl ?_
        refine aw_iload_n (pc := 31) hX 2 dX7_tale_31 rfl rfl ?_
        obtain ⟨r32, hq32, h⟩ := bind_s h
        refine aw_V2i (pc := 32) hX h_X7_taleOf l_X7_246 dX7_tale_32 (by rfl) (by decide) (by rfl) rfl rfl rfl (Nat.le_of_ble_eq_true rfl) (s_X7_taleOf  hq32) ?_
        refine aw_goto (pc := 35) hX 40 dX7_tale_35 rfl ?_
        have e := Option.some.inj h
        subst e
        exact aw_iret hX hZ dX7_tale_40 rfl rfl rfl rfl rfl rfl rfl (Nat.le_refl _)
    · have h := ite_f h (bI0 hc16)
      refine aw_iconst (pc := 19) hX (-1 : Int32) dX7_tale_19 (by decide) ?_
      have e := Option.some.inj h
      subst e
      exact aw_iret hX hZ dX7_tale_20 rfl rfl rfl rfl rfl rfl rfl (Nat.le_refl _)
def b_X7_first_61 (I : Hi) (k26 : Int32 → Int32 → Int32 → Int32 → Option (Int32)) (x1 : Int32) (x2 : Int32) (x4 : Int32) (xs0 : Int32) (xs1 : Int32) : Option (Int32) := k26 x1 x2 (xs1 ||| xs0) (x4 + 1)
set_option maxRecDepth 100000 in
set_option maxHeartbeats 4000000 in
theorem t_X7_first_61 {G : GP} {X : CX} (hX : XOK G X mi_X7_first) {c d : Nat} {I : Hi} {L : Hl} {p : Int32} (hZ : XZ G X mi_X7_first (some (.int p)) S0 I (R0 c d) L) {k26 : Int32 → Int32 → Int32 → Int32 → Option (Int32)} (hk26 : ∀ (x1 : Int32) (x2 : Int32) (x3 : Int32) (x4 : Int32), k26 x1 x2 x3 x4 = some p → AW G X 0 0 S0 I (R0 c d) L 26 [.ref 77, .int x1, .int x2, .int x3, .int x4] []) (x1 : Int32) (x2 : Int32) (x4 : Int32) (xs0 : Int32) (xs1 : Int32) (h : b_X7_first_61 I k26 x1 x2 x4 xs0 xs1 = some p) : AW G X 0 0 S0 I (R0 c d) L 61 [.ref 77, .int x1, .int x2, .null, .int x4] [.int xs0, .int xs1] := by
  rw [b_X7_first_61] at h
  refine aw_ior (pc := 61) hX dX7_first_61 ?_
  refine aw_istore_nE (pc := 62) hX 3 [.ref 77, .int x1, .int x2, .int (xs1 ||| xs0), .int x4] dX7_first_62 rfl (by decide) rfl rfl ?_
  refine aw_iincE (pc := 63) hX (x4 + 1) [.ref 77, .int x1, .int x2, .int (xs1 ||| xs0), .int (x4 + 1)] dX7_first_63 rfl rfl (by decide) rfl rfl ?_
  refine aw_goto (pc := 66) hX 26 dX7_first_66 rfl ?_
  exact AW.lo (hk26 x1 x2 (xs1 ||| xs0) (x4 + 1)  h) (And.intro (Or.inr rfl) (And.intro (Or.inr rfl) (And.intro (Or.inr rfl) (And.intro (Or.inr rfl) (And.intro (Or.inr rfl) trivial)))))
def b_X7_first_26 (I : Hi)  : Nat → Int32 → Int32 → Int32 → Int32 → Option (Int32)
  | 0, _, _, _, _ => none
  | n + 1, x1, x2, x3, x4 => if (6 : Int32) ≤ x4 then (some (x3)) else ((f_X7_isTold I x2).bind fun r35 => if r35 = true then ((f_X7_taleOf I x4 x2).bind fun r46 => if r46 = x1 then (b_X7_first_61 I (b_X7_first_26 I n) x1 x2 x4 ((1 : Int32) <<< (x4 &&& 31)) x3) else (b_X7_first_61 I (b_X7_first_26 I n) x1 x2 x4 (0 : Int32) x3)) else (some (x3)))
set_option maxRecDepth 100000 in
set_option maxHeartbeats 4000000 in
theorem t_X7_first_26 {G : GP} {X : CX} (hX : XOK G X mi_X7_first) {c d : Nat} {I : Hi} {L : Hl} {p : Int32} (hZ : XZ G X mi_X7_first (some (.int p)) S0 I (R0 c d) L) : ∀ (n : Nat) (x1 : Int32) (x2 : Int32) (x3 : Int32) (x4 : Int32), b_X7_first_26 I n x1 x2 x3 x4 = some p → AW G X 0 0 S0 I (R0 c d) L 26 [.ref 77, .int x1, .int x2, .int x3, .int x4] [] := by
  intro n
  induction n with
  | zero => intro x1 x2 x3 x4 h; cases h
  | succ n ih =>
    intro x1 x2 x3 x4 h
    rw [b_X7_first_26] at h
    refine aw_iload (pc := 26) hX dX7_first_26 rfl ?_
    refine aw_bipush (pc := 28) hX (6 : Int32) dX7_first_28 (by decide) ?_
    refine aw_icmp_ge (pc := 30) hX 69 dX7_first_30 rfl (fun hc30 => ?_) (fun hc30 => ?_)
    · have h := ite_t h hc30
      refine aw_iload_n (pc := 69) hX 3 dX7_first_69 rfl rfl ?_
      have e := Option.some.inj h
      subst e
      exact aw_iret hX hZ dX7_first_70 rfl rfl rfl rfl rfl rfl rfl (Nat.le_refl _)
    · have h := ite_f h hc30
      refine aw_aload_n (pc := 33) hX 0 dX7_first_33 rfl rfl ?_
      refine aw_iload_n (pc := 34) hX 2 dX7_first_34 rfl rfl ?_
      obtain ⟨r35, hq35, h⟩ := bind_s h
      refine aw_V1i (pc := 35) hX h_X7_isTold l_X7_243 dX7_first_35 (by rfl) (by decide) (by rfl) rfl rfl rfl (Nat.le_of_ble_eq_true rfl) (s_X7_isTold  hq35) ?_
      refine aw_if_eq (pc := 38) hX 69 dX7_first_38 rfl (fun hc38 => ?_) (fun hc38 => ?_)
      · have h := ite_f h (bI0 hc38)
        refine aw_iload_n (pc := 69) hX 3 dX7_first_69 rfl rfl ?_
        have e := Option.some.inj h
        subst e
        exact aw_iret hX hZ dX7_first_70 rfl rfl rfl rfl rfl rfl rfl (Nat.le_refl _)
      · have h := ite_t h (bI1 hc38)
        refine aw_iload_n (pc := 41) hX 3 dX7_first_41 rfl rfl ?_
        refine aw_aload_n (pc := 42) hX 0 dX7_first_42 rfl rfl ?_
        refine aw_iload (pc := 43) hX dX7_first_43 rfl ?_
        refine aw_iload_n (pc := 45) hX 2 dX7_first_45 rfl rfl ?_
        obtain ⟨r46, hq46, h⟩ := bind_s h
        refine aw_V2i (pc := 46) hX h_X7_taleOf l_X7_246 dX7_first_46 (by rfl) (by decide) (by rfl) rfl rfl rfl (Nat.le_of_ble_eq_true rfl) (s_X7_taleOf  hq46) ?_
        refine aw_iload_n (pc := 49) hX 1 dX7_first_49 rfl rfl ?_
        refine aw_icmp_ne (pc := 50) hX 60 dX7_first_50 rfl (fun hc50 => ?_) (fun hc50 => ?_)
        · have h := ite_f h hc50
          refine aw_iconst (pc := 60) hX (0 : Int32) dX7_first_60 (by decide) ?_
          exact AW.lo (t_X7_first_61 hX hZ (ih) x1 x2 x4 (0 : Int32) x3 h) (And.intro (Or.inr rfl) (And.intro (Or.inr rfl) (And.intro (Or.inr rfl) (And.intro (Or.inl rfl) (And.intro (Or.inr rfl) trivial)))))
        · have h := ite_t h hc50
          refine aw_iconst (pc := 53) hX (1 : Int32) dX7_first_53 (by decide) ?_
          refine aw_iload (pc := 54) hX dX7_first_54 rfl ?_
          refine aw_ishl (pc := 56) hX dX7_first_56 ?_
          refine aw_goto (pc := 57) hX 61 dX7_first_57 rfl ?_
          exact AW.lo (t_X7_first_61 hX hZ (ih) x1 x2 x4 ((1 : Int32) <<< (x4 &&& 31)) x3 h) (And.intro (Or.inr rfl) (And.intro (Or.inr rfl) (And.intro (Or.inr rfl) (And.intro (Or.inl rfl) (And.intro (Or.inr rfl) trivial)))))
def f_X7_first (I : Hi) (x1 : Int32) (x2 : Int32) : Option (Int32) := (f_X7_isTaste x1).bind fun r1 => if r1 = true then ((f_X7_in (x2).toInt64 (0 : Int64) (99 : Int64)).bind fun r13 => if r13 = true then (b_X7_first_26 I 2000 x1 x2 (0 : Int32) (0 : Int32)) else (some ((-1 : Int32)))) else (some ((-1 : Int32)))
set_option maxRecDepth 100000 in
set_option maxHeartbeats 4000000 in
theorem s_X7_first {G : GP} {c d : Nat} {I : Hi} {L : Hl} {x1 : Int32} {x2 : Int32} {p : Int32} (h : f_X7_first I x1 x2 = some p) : CD G mi_X7_first [.ref 77, .int x1, .int x2] S0 I (R0 c d) L (some (.int p)) S0 I (R0 c d) L := by
  refine CD.intro 2 rfl (by decide) rfl fun X hX hZ => ?_
  rw [f_X7_first] at h
  show AW G X 0 0 S0 I (R0 c d) L 0 [.ref 77, .int x1, .int x2, .null, .null] []
  refine aw_iload_n (pc := 0) hX 1 dX7_first_0 rfl rfl ?_
  obtain ⟨r1, hq1, h⟩ := bind_s h
  refine aw_S1i (pc := 1) hX h_X7_isTaste l_X7_211 dX7_first_1 rfl rfl rfl (Nat.le_of_ble_eq_true rfl) (s_X7_isTaste  hq1) ?_
  refine aw_if_eq (pc := 4) hX 19 dX7_first_4 rfl (fun hc4 => ?_) (fun hc4 => ?_)
  · have h := ite_f h (bI0 hc4)
    refine aw_iconst (pc := 19) hX (-1 : Int32) dX7_first_19 (by decide) ?_
    have e := Option.some.inj h
    subst e
    exact aw_iret hX hZ dX7_first_20 rfl rfl rfl rfl rfl rfl rfl (Nat.le_refl _)
  · have h := ite_t h (bI1 hc4)
    refine aw_iload_n (pc := 7) hX 2 dX7_first_7 rfl rfl ?_
    refine aw_i2l (pc := 8) hX dX7_first_8 ?_
    refine aw_lconst (pc := 9) hX (0 : Int64) dX7_first_9 (by decide) ?_
    refine aw_ldc2 (pc := 10) hX dX7_first_10 v_X7_241 ?_
    obtain ⟨r13, hq13, h⟩ := bind_s h
    refine aw_S3i (pc := 13) hX h_X7_in l_X7_75 dX7_first_13 rfl rfl rfl (Nat.le_of_ble_eq_true rfl) (s_X7_in  hq13) ?_
    refine aw_if_ne (pc := 16) hX 21 dX7_first_16 rfl (fun hc16 => ?_) (fun hc16 => ?_)
    · have h := ite_t h (bI1 hc16)
      refine aw_iconst (pc := 21) hX (0 : Int32) dX7_first_21 (by decide) ?_
      refine aw_istore_nE (pc := 22) hX 3 [.ref 77, .int x1, .int x2, .int (0 : Int32), .null] dX7_first_22 rfl (by decide) rfl rfl ?_
      refine aw_iconst (pc := 23) hX (0 : Int32) dX7_first_23 (by decide) ?_
      refine aw_istoreE (pc := 24) hX [.ref 77, .int x1, .int x2, .int (0 : Int32), .int (0 : Int32)] dX7_first_24 (by decide) rfl rfl ?_
      exact AW.lo (t_X7_first_26 hX hZ 2000 x1 x2 (0 : Int32) (0 : Int32) h) (And.intro (Or.inr rfl) (And.intro (Or.inr rfl) (And.intro (Or.inr rfl) (And.intro (Or.inr rfl) (And.intro (Or.inr rfl) trivial)))))
    · have h := ite_f h (bI0 hc16)
      refine aw_iconst (pc := 19) hX (-1 : Int32) dX7_first_19 (by decide) ?_
      have e := Option.some.inj h
      subst e
      exact aw_iret hX hZ dX7_first_20 rfl rfl rfl rfl rfl rfl rfl (Nat.le_refl _)
def b_X7_when_74 (I : Hi) (k16 : Int32 → Int32 → Option (Int32)) (x1 : Int32) (x2 : Int32) (b3 : Bool) : Option (Int32) := if b3 = true then (some (x2)) else (k16 x1 (x2 + 1))
set_option maxRecDepth 100000 in
set_option maxHeartbeats 4000000 in
theorem t_X7_when_74 {G : GP} {X : CX} (hX : XOK G X mi_X7_when) {c d : Nat} {I : Hi} {L : Hl} {p : Int32} (hZ : XZ G X mi_X7_when (some (.int p)) S0 I (R0 c d) L) {k16 : Int32 → Int32 → Option (Int32)} (hk16 : ∀ (x1 : Int32) (x2 : Int32), k16 x1 x2 = some p → AW G X 0 0 S0 I (R0 c d) L 16 [.ref 77, .int x1, .int x2, .null, .null] []) (x1 : Int32) (x2 : Int32) (b3 : Bool) (h : b_X7_when_74 I k16 x1 x2 b3 = some p) : AW G X 0 0 S0 I (R0 c d) L 74 [.ref 77, .int x1, .int x2, .int (bI b3), .null] [] := by
  rw [b_X7_when_74] at h
  refine aw_iload_n (pc := 74) hX 3 dX7_when_74 rfl rfl ?_
  refine aw_if_eq (pc := 75) hX 80 dX7_when_75 rfl (fun hc75 => ?_) (fun hc75 => ?_)
  · have h := ite_f h (bI0 hc75)
    refine aw_iincE (pc := 80) hX (x2 + 1) [.ref 77, .int x1, .int (x2 + 1), .int (bI b3), .null] dX7_when_80 rfl rfl (by decide) rfl rfl ?_
    refine aw_goto (pc := 83) hX 16 dX7_when_83 rfl ?_
    exact AW.lo (hk16 x1 (x2 + 1)  h) (And.intro (Or.inr rfl) (And.intro (Or.inr rfl) (And.intro (Or.inr rfl) (And.intro (Or.inl rfl) (And.intro (Or.inl rfl) trivial)))))
  · have h := ite_t h (bI1 hc75)
    refine aw_iload_n (pc := 78) hX 2 dX7_when_78 rfl rfl ?_
    have e := Option.some.inj h
    subst e
    exact aw_iret hX hZ dX7_when_79 rfl rfl rfl rfl rfl rfl rfl (Nat.le_refl _)
def b_X7_when_67 (I : Hi) (k16 : Int32 → Int32 → Option (Int32)) (k30 : Int32 → Int32 → Bool → Int32 → Option (Int32)) (x1 : Int32) (x2 : Int32) (x4 : Int32) (bs0 : Bool) : Option (Int32) := k30 x1 x2 bs0 (x4 + 1)
set_option maxRecDepth 100000 in
set_option maxHeartbeats 4000000 in
theorem t_X7_when_67 {G : GP} {X : CX} (hX : XOK G X mi_X7_when) {c d : Nat} {I : Hi} {L : Hl} {p : Int32} (hZ : XZ G X mi_X7_when (some (.int p)) S0 I (R0 c d) L) {k16 : Int32 → Int32 → Option (Int32)} (hk16 : ∀ (x1 : Int32) (x2 : Int32), k16 x1 x2 = some p → AW G X 0 0 S0 I (R0 c d) L 16 [.ref 77, .int x1, .int x2, .null, .null] []) {k30 : Int32 → Int32 → Bool → Int32 → Option (Int32)} (hk30 : ∀ (x1 : Int32) (x2 : Int32) (b3 : Bool) (x4 : Int32), k30 x1 x2 b3 x4 = some p → AW G X 0 0 S0 I (R0 c d) L 30 [.ref 77, .int x1, .int x2, .int (bI b3), .int x4] []) (x1 : Int32) (x2 : Int32) (x4 : Int32) (bs0 : Bool) (h : b_X7_when_67 I k16 k30 x1 x2 x4 bs0 = some p) : AW G X 0 0 S0 I (R0 c d) L 67 [.ref 77, .int x1, .int x2, .null, .int x4] [.int (bI bs0)] := by
  rw [b_X7_when_67] at h
  refine aw_istore_nE (pc := 67) hX 3 [.ref 77, .int x1, .int x2, .int (bI bs0), .int x4] dX7_when_67 rfl (by decide) rfl rfl ?_
  refine aw_iincE (pc := 68) hX (x4 + 1) [.ref 77, .int x1, .int x2, .int (bI bs0), .int (x4 + 1)] dX7_when_68 rfl rfl (by decide) rfl rfl ?_
  refine aw_goto (pc := 71) hX 30 dX7_when_71 rfl ?_
  exact AW.lo (hk30 x1 x2 bs0 (x4 + 1)  h) (And.intro (Or.inr rfl) (And.intro (Or.inr rfl) (And.intro (Or.inr rfl) (And.intro (Or.inr rfl) (And.intro (Or.inr rfl) trivial)))))
def b_X7_when_66 (I : Hi) (k16 : Int32 → Int32 → Option (Int32)) (k30 : Int32 → Int32 → Bool → Int32 → Option (Int32)) (x1 : Int32) (x2 : Int32) (x4 : Int32) : Option (Int32) := b_X7_when_67 I (k16) (k30) x1 x2 x4 false
set_option maxRecDepth 100000 in
set_option maxHeartbeats 4000000 in
theorem t_X7_when_66 {G : GP} {X : CX} (hX : XOK G X mi_X7_when) {c d : Nat} {I : Hi} {L : Hl} {p : Int32} (hZ : XZ G X mi_X7_when (some (.int p)) S0 I (R0 c d) L) {k16 : Int32 → Int32 → Option (Int32)} (hk16 : ∀ (x1 : Int32) (x2 : Int32), k16 x1 x2 = some p → AW G X 0 0 S0 I (R0 c d) L 16 [.ref 77, .int x1, .int x2, .null, .null] []) {k30 : Int32 → Int32 → Bool → Int32 → Option (Int32)} (hk30 : ∀ (x1 : Int32) (x2 : Int32) (b3 : Bool) (x4 : Int32), k30 x1 x2 b3 x4 = some p → AW G X 0 0 S0 I (R0 c d) L 30 [.ref 77, .int x1, .int x2, .int (bI b3), .int x4] []) (x1 : Int32) (x2 : Int32) (x4 : Int32) (h : b_X7_when_66 I k16 k30 x1 x2 x4 = some p) : AW G X 0 0 S0 I (R0 c d) L 66 [.ref 77, .int x1, .int x2, .null, .int x4] [] := by
  rw [b_X7_when_66] at h
  refine aw_iconst (pc := 66) hX (0 : Int32) dX7_when_66 (by decide) ?_
  exact AW.lo (t_X7_when_67 hX hZ (hk16) (hk30) x1 x2 x4 false h) (And.intro (Or.inr rfl) (And.intro (Or.inr rfl) (And.intro (Or.inr rfl) (And.intro (Or.inl rfl) (And.intro (Or.inr rfl) trivial)))))
def b_X7_when_30 (I : Hi) (k16 : Int32 → Int32 → Option (Int32)) : Nat → Int32 → Int32 → Bool → Int32 → Option (Int32)
  | 0, _, _, _, _ => none
  | n + 1, x1, x2, b3, x4 => if (I (77) 6) ≤ x4 then (b_X7_when_74 I (k16) x1 x2 b3) else (if b3 = true then (if vinb x4 3 then if (I (81) (x4).toNatClampNeg) = (0 : Int32) then none else if vinb x4 3 then if (x2 - x2 / (I (81) (x4).toNatClampNeg) * (I (81) (x4).toNatClampNeg)) = (I (82) (x4).toNatClampNeg) then (b_X7_when_67 I (k16) (b_X7_when_30 I k16 n) x1 x2 x4 true) else (b_X7_when_66 I (k16) (b_X7_when_30 I k16 n) x1 x2 x4) else none else none) else (b_X7_when_66 I (k16) (b_X7_when_30 I k16 n) x1 x2 x4))
set_option maxRecDepth 100000 in
set_option maxHeartbeats 4000000 in
theorem t_X7_when_30 {G : GP} {X : CX} (hX : XOK G X mi_X7_when) {c d : Nat} {I : Hi} {L : Hl} {p : Int32} (hZ : XZ G X mi_X7_when (some (.int p)) S0 I (R0 c d) L) {k16 : Int32 → Int32 → Option (Int32)} (hk16 : ∀ (x1 : Int32) (x2 : Int32), k16 x1 x2 = some p → AW G X 0 0 S0 I (R0 c d) L 16 [.ref 77, .int x1, .int x2, .null, .null] []) : ∀ (n : Nat) (x1 : Int32) (x2 : Int32) (b3 : Bool) (x4 : Int32), b_X7_when_30 I k16 n x1 x2 b3 x4 = some p → AW G X 0 0 S0 I (R0 c d) L 30 [.ref 77, .int x1, .int x2, .int (bI b3), .int x4] [] := by
  intro n
  induction n with
  | zero => intro x1 x2 b3 x4 h; cases h
  | succ n ih =>
    intro x1 x2 b3 x4 h
    rw [b_X7_when_30] at h
    refine aw_iload (pc := 30) hX dX7_when_30 rfl ?_
    refine aw_aload_n (pc := 32) hX 0 dX7_when_32 rfl rfl ?_
    refine aw_getI (pc := 33) hX dX7_when_33 f_X7_173 rfl (by rfl) ?_
    refine aw_icmp_ge (pc := 36) hX 74 dX7_when_36 rfl (fun hc36 => ?_) (fun hc36 => ?_)
    · have h := ite_t h hc36
      exact AW.lo (t_X7_when_74 hX hZ (hk16) x1 x2 b3 h) (And.intro (Or.inr rfl) (And.intro (Or.inr rfl) (And.intro (Or.inr rfl) (And.intro (Or.inr rfl) (And.intro (Or.inl rfl) trivial)))))
    · have h := ite_f h hc36
      refine aw_iload_n (pc := 39) hX 3 dX7_when_39 rfl rfl ?_
      refine aw_if_eq (pc := 40) hX 66 dX7_when_40 rfl (fun hc40 => ?_) (fun hc40 => ?_)
      · have h := ite_f h (bI0 hc40)
        exact AW.lo (t_X7_when_66 hX hZ (hk16) (ih) x1 x2 x4 h) (And.intro (Or.inr rfl) (And.intro (Or.inr rfl) (And.intro (Or.inr rfl) (And.intro (Or.inl rfl) (And.intro (Or.inr rfl) trivial)))))
      · have h := ite_t h (bI1 hc40)
        refine aw_iload_n (pc := 43) hX 2 dX7_when_43 rfl rfl ?_
        refine aw_aload_n (pc := 44) hX 0 dX7_when_44 rfl rfl ?_
        refine aw_getR (pc := 45) hX dX7_when_45 f_X7_19 rfl (by rfl) (q := 81) (by rfl) ?_
        refine aw_iload (pc := 48) hX dX7_when_48 rfl ?_
        obtain ⟨hv50, h⟩ := ite_g h
        refine aw_iaload (pc := 50) hX dX7_when_50 (by rfl) (vinb_in hv50) ?_
        obtain ⟨hne51, h⟩ := ite_n h
        refine aw_irem (pc := 51) hX dX7_when_51 hne51 ?_
        refine aw_aload_n (pc := 52) hX 0 dX7_when_52 rfl rfl ?_
        refine aw_getR (pc := 53) hX dX7_when_53 f_X7_22 rfl (by rfl) (q := 82) (by rfl) ?_
        refine aw_iload (pc := 56) hX dX7_when_56 rfl ?_
        obtain ⟨hv58, h⟩ := ite_g h
        refine aw_iaload (pc := 58) hX dX7_when_58 (by rfl) (vinb_in hv58) ?_
        refine aw_icmp_ne (pc := 59) hX 66 dX7_when_59 rfl (fun hc59 => ?_) (fun hc59 => ?_)
        · have h := ite_f h hc59
          exact AW.lo (t_X7_when_66 hX hZ (hk16) (ih) x1 x2 x4 h) (And.intro (Or.inr rfl) (And.intro (Or.inr rfl) (And.intro (Or.inr rfl) (And.intro (Or.inl rfl) (And.intro (Or.inr rfl) trivial)))))
        · have h := ite_t h hc59
          refine aw_iconst (pc := 62) hX (1 : Int32) dX7_when_62 (by decide) ?_
          refine aw_goto (pc := 63) hX 67 dX7_when_63 rfl ?_
          exact AW.lo (t_X7_when_67 hX hZ (hk16) (ih) x1 x2 x4 true h) (And.intro (Or.inr rfl) (And.intro (Or.inr rfl) (And.intro (Or.inr rfl) (And.intro (Or.inl rfl) (And.intro (Or.inr rfl) trivial)))))
def b_X7_when_16 (I : Hi)  : Nat → Int32 → Int32 → Option (Int32)
  | 0, _, _ => none
  | n + 1, x1, x2 => if (x1 + (1728 : Int32)) ≤ x2 then (some ((-9 : Int32))) else (b_X7_when_30 I (b_X7_when_16 I n) 2000 x1 x2 true (0 : Int32))
set_option maxRecDepth 100000 in
set_option maxHeartbeats 4000000 in
theorem t_X7_when_16 {G : GP} {X : CX} (hX : XOK G X mi_X7_when) {c d : Nat} {I : Hi} {L : Hl} {p : Int32} (hZ : XZ G X mi_X7_when (some (.int p)) S0 I (R0 c d) L) : ∀ (n : Nat) (x1 : Int32) (x2 : Int32), b_X7_when_16 I n x1 x2 = some p → AW G X 0 0 S0 I (R0 c d) L 16 [.ref 77, .int x1, .int x2, .null, .null] [] := by
  intro n
  induction n with
  | zero => intro x1 x2 h; cases h
  | succ n ih =>
    intro x1 x2 h
    rw [b_X7_when_16] at h
    refine aw_iload_n (pc := 16) hX 2 dX7_when_16 rfl rfl ?_
    refine aw_iload_n (pc := 17) hX 1 dX7_when_17 rfl rfl ?_
    refine aw_sipush (pc := 18) hX (1728 : Int32) dX7_when_18 (by decide) ?_
    refine aw_iadd (pc := 21) hX dX7_when_21 ?_
    refine aw_icmp_ge (pc := 22) hX 86 dX7_when_22 rfl (fun hc22 => ?_) (fun hc22 => ?_)
    · have h := ite_t h hc22
      refine aw_bipush (pc := 86) hX (-9 : Int32) dX7_when_86 (by decide) ?_
      have e := Option.some.inj h
      subst e
      exact aw_iret hX hZ dX7_when_88 rfl rfl rfl rfl rfl rfl rfl (Nat.le_refl _)
    · have h := ite_f h hc22
      refine aw_iconst (pc := 25) hX (1 : Int32) dX7_when_25 (by decide) ?_
      refine aw_istore_nE (pc := 26) hX 3 [.ref 77, .int x1, .int x2, .int (1 : Int32), .null] dX7_when_26 rfl (by decide) rfl rfl ?_
      refine aw_iconst (pc := 27) hX (0 : Int32) dX7_when_27 (by decide) ?_
      refine aw_istoreE (pc := 28) hX [.ref 77, .int x1, .int x2, .int (1 : Int32), .int (0 : Int32)] dX7_when_28 (by decide) rfl rfl ?_
      exact AW.lo (t_X7_when_30 hX hZ (ih) 2000 x1 x2 true (0 : Int32) h) (And.intro (Or.inr rfl) (And.intro (Or.inr rfl) (And.intro (Or.inr rfl) (And.intro (Or.inr rfl) (And.intro (Or.inr rfl) trivial)))))
def f_X7_when (I : Hi) (x1 : Int32) : Option (Int32) := (f_X7_in (x1).toInt64 (0 : Int64) (30000 : Int64)).bind fun r6 => if r6 = true then (b_X7_when_16 I 2000 x1 x1) else (some ((-1 : Int32)))
set_option maxRecDepth 100000 in
set_option maxHeartbeats 4000000 in
theorem s_X7_when {G : GP} {c d : Nat} {I : Hi} {L : Hl} {x1 : Int32} {p : Int32} (h : f_X7_when I x1 = some p) : CD G mi_X7_when [.ref 77, .int x1] S0 I (R0 c d) L (some (.int p)) S0 I (R0 c d) L := by
  refine CD.intro 3 rfl (by decide) rfl fun X hX hZ => ?_
  rw [f_X7_when] at h
  show AW G X 0 0 S0 I (R0 c d) L 0 [.ref 77, .int x1, .null, .null, .null] []
  refine aw_iload_n (pc := 0) hX 1 dX7_when_0 rfl rfl ?_
  refine aw_i2l (pc := 1) hX dX7_when_1 ?_
  refine aw_lconst (pc := 2) hX (0 : Int64) dX7_when_2 (by decide) ?_
  refine aw_ldc2 (pc := 3) hX dX7_when_3 v_X7_249 ?_
  obtain ⟨r6, hq6, h⟩ := bind_s h
  refine aw_S3i (pc := 6) hX h_X7_in l_X7_75 dX7_when_6 rfl rfl rfl (Nat.le_of_ble_eq_true rfl) (s_X7_in  hq6) ?_
  refine aw_if_ne (pc := 9) hX 14 dX7_when_9 rfl (fun hc9 => ?_) (fun hc9 => ?_)
  · have h := ite_t h (bI1 hc9)
    refine aw_iload_n (pc := 14) hX 1 dX7_when_14 rfl rfl ?_
    refine aw_istore_nE (pc := 15) hX 2 [.ref 77, .int x1, .int x1, .null, .null] dX7_when_15 rfl (by decide) rfl rfl ?_
    exact AW.lo (t_X7_when_16 hX hZ 2000 x1 x1 h) (And.intro (Or.inr rfl) (And.intro (Or.inr rfl) (And.intro (Or.inr rfl) (And.intro (Or.inl rfl) (And.intro (Or.inl rfl) trivial)))))
  · have h := ite_f h (bI0 hc9)
    refine aw_iconst (pc := 12) hX (-1 : Int32) dX7_when_12 (by decide) ?_
    have e := Option.some.inj h
    subst e
    exact aw_iret hX hZ dX7_when_13 rfl rfl rfl rfl rfl rfl rfl (Nat.le_refl _)
def b_X7_power_5   : Nat → Int64 → Int32 → Int64 → Int32 → Option (Int64)
  | 0, _, _, _, _ => none
  | n + 1, y0, x2, y3, x5 => if x2 ≤ x5 then (some (y3)) else (b_X7_power_5 n y0 x2 (y3 * y0) (x5 + 1))
set_option maxRecDepth 100000 in
set_option maxHeartbeats 4000000 in
theorem t_X7_power_5 {G : GP} {X : CX} (hX : XOK G X mi_X7_power) {c d : Nat} {I : Hi} {L : Hl} {p : Int64} (hZ : XZ G X mi_X7_power (some (.long p)) S0 I (R0 c d) L) : ∀ (n : Nat) (y0 : Int64) (x2 : Int32) (y3 : Int64) (x5 : Int32), b_X7_power_5 n y0 x2 y3 x5 = some p → AW G X 0 0 S0 I (R0 c d) L 5 [.long y0, .null, .int x2, .long y3, .null, .int x5] [] := by
  intro n
  induction n with
  | zero => intro y0 x2 y3 x5 h; cases h
  | succ n ih =>
    intro y0 x2 y3 x5 h
    rw [b_X7_power_5] at h
    refine aw_iload (pc := 5) hX dX7_power_5 rfl ?_
    refine aw_iload_n (pc := 7) hX 2 dX7_power_7 rfl rfl ?_
    refine aw_icmp_ge (pc := 8) hX 21 dX7_power_8 rfl (fun hc8 => ?_) (fun hc8 => ?_)
    · have h := ite_t h hc8
      refine aw_lload_n (pc := 21) hX 3 dX7_power_21 rfl rfl ?_
      have e := Option.some.inj h
      subst e
      exact aw_lret hX hZ dX7_power_22 rfl rfl rfl rfl rfl rfl rfl (Nat.le_refl _)
    · have h := ite_f h hc8
      refine aw_lload_n (pc := 11) hX 3 dX7_power_11 rfl rfl ?_
      refine aw_lload_n (pc := 12) hX 0 dX7_power_12 rfl rfl ?_
      refine aw_lmul (pc := 13) hX dX7_power_13 ?_
      refine aw_lstore_nE (pc := 14) hX 3 [.long y0, .null, .int x2, .long (y3 * y0), .null, .int x5] dX7_power_14 rfl (by decide) rfl rfl ?_
      refine aw_iincE (pc := 15) hX (x5 + 1) [.long y0, .null, .int x2, .long (y3 * y0), .null, .int (x5 + 1)] dX7_power_15 rfl rfl (by decide) rfl rfl ?_
      refine aw_goto (pc := 18) hX 5 dX7_power_18 rfl ?_
      exact AW.lo (ih y0 x2 (y3 * y0) (x5 + 1)  h) (And.intro (Or.inr rfl) (And.intro (Or.inl rfl) (And.intro (Or.inr rfl) (And.intro (Or.inr rfl) (And.intro (Or.inl rfl) (And.intro (Or.inr rfl) trivial))))))
def f_X7_power  (y0 : Int64) (x2 : Int32) : Option (Int64) := b_X7_power_5 2000 y0 x2 (1 : Int64) (0 : Int32)
set_option maxRecDepth 100000 in
set_option maxHeartbeats 4000000 in
theorem s_X7_power {G : GP} {c d : Nat} {I : Hi} {L : Hl} {y0 : Int64} {x2 : Int32} {p : Int64} (h : f_X7_power y0 x2 = some p) : CD G mi_X7_power [.long y0, .int x2] S0 I (R0 c d) L (some (.long p)) S0 I (R0 c d) L := by
  refine CD.intro 3 rfl (by decide) rfl fun X hX hZ => ?_
  rw [f_X7_power] at h
  show AW G X 0 0 S0 I (R0 c d) L 0 [.long y0, .null, .int x2, .null, .null, .null] []
  refine aw_lconst (pc := 0) hX (1 : Int64) dX7_power_0 (by decide) ?_
  refine aw_lstore_nE (pc := 1) hX 3 [.long y0, .null, .int x2, .long (1 : Int64), .null, .null] dX7_power_1 rfl (by decide) rfl rfl ?_
  refine aw_iconst (pc := 2) hX (0 : Int32) dX7_power_2 (by decide) ?_
  refine aw_istoreE (pc := 3) hX [.long y0, .null, .int x2, .long (1 : Int64), .null, .int (0 : Int32)] dX7_power_3 (by decide) rfl rfl ?_
  exact AW.lo (t_X7_power_5 hX hZ 2000 y0 x2 (1 : Int64) (0 : Int32) h) (And.intro (Or.inr rfl) (And.intro (Or.inl rfl) (And.intro (Or.inr rfl) (And.intro (Or.inr rfl) (And.intro (Or.inl rfl) (And.intro (Or.inr rfl) trivial))))))
def b_X7_odds_162   (y9 : Int64) (ys0 : Int64) : Option (Int32) := if y9 = (0 : Int64) then none else some (((ys0 / y9)).toInt32)
set_option maxRecDepth 100000 in
set_option maxHeartbeats 4000000 in
theorem t_X7_odds_162 {G : GP} {X : CX} (hX : XOK G X mi_X7_odds) {c d : Nat} {I : Hi} {L : Hl} {p : Int32} (hZ : XZ G X mi_X7_odds (some (.int p)) S0 I (R0 c d) L) (y9 : Int64) (ys0 : Int64) (h : b_X7_odds_162 y9 ys0 = some p) : AW G X 0 0 S0 I (R0 c d) L 162 [.null, .null, .null, .null, .null, .null, .null, .null, .null, .long y9, .null, .null, .null, .null, .null] [.long ys0] := by
  rw [b_X7_odds_162] at h
  refine aw_lload (pc := 162) hX dX7_odds_162 rfl ?_
  obtain ⟨hne164, h⟩ := ite_n h
  refine aw_ldiv (pc := 164) hX dX7_odds_164 hne164 ?_
  refine aw_l2i (pc := 165) hX dX7_odds_165 ?_
  have e := Option.some.inj h
  subst e
  exact aw_iret hX hZ dX7_odds_166 rfl rfl rfl rfl rfl rfl rfl (Nat.le_refl _)
def b_X7_odds_150   (x4 : Int32) (y5 : Int64) (y7 : Int64) (y9 : Int64) : Option (Int32) := if x4 = (0 : Int32) then (b_X7_odds_162 y9 y5) else (b_X7_odds_162 y9 y7)
set_option maxRecDepth 100000 in
set_option maxHeartbeats 4000000 in
theorem t_X7_odds_150 {G : GP} {X : CX} (hX : XOK G X mi_X7_odds) {c d : Nat} {I : Hi} {L : Hl} {p : Int32} (hZ : XZ G X mi_X7_odds (some (.int p)) S0 I (R0 c d) L) (x4 : Int32) (y5 : Int64) (y7 : Int64) (y9 : Int64) (h : b_X7_odds_150 x4 y5 y7 y9 = some p) : AW G X 0 0 S0 I (R0 c d) L 150 [.null, .null, .null, .null, .int x4, .long y5, .null, .long y7, .null, .long y9, .null, .null, .null, .null, .null] [] := by
  rw [b_X7_odds_150] at h
  refine aw_iload (pc := 150) hX dX7_odds_150 rfl ?_
  refine aw_if_ne (pc := 152) hX 160 dX7_odds_152 rfl (fun hc152 => ?_) (fun hc152 => ?_)
  · have h := ite_f h hc152
    refine aw_lload (pc := 160) hX dX7_odds_160 rfl ?_
    exact AW.lo (t_X7_odds_162 hX hZ y9 y7 h) (And.intro (Or.inl rfl) (And.intro (Or.inl rfl) (And.intro (Or.inl rfl) (And.intro (Or.inl rfl) (And.intro (Or.inl rfl) (And.intro (Or.inl rfl) (And.intro (Or.inl rfl) (And.intro (Or.inl rfl) (And.intro (Or.inl rfl) (And.intro (Or.inr rfl) (And.intro (Or.inl rfl) (And.intro (Or.inl rfl) (And.intro (Or.inl rfl) (And.intro (Or.inl rfl) (And.intro (Or.inl rfl) trivial)))))))))))))))
  · have h := ite_t h hc152
    refine aw_lload (pc := 155) hX dX7_odds_155 rfl ?_
    refine aw_goto (pc := 157) hX 162 dX7_odds_157 rfl ?_
    exact AW.lo (t_X7_odds_162 hX hZ y9 y5 h) (And.intro (Or.inl rfl) (And.intro (Or.inl rfl) (And.intro (Or.inl rfl) (And.intro (Or.inl rfl) (And.intro (Or.inl rfl) (And.intro (Or.inl rfl) (And.intro (Or.inl rfl) (And.intro (Or.inl rfl) (And.intro (Or.inl rfl) (And.intro (Or.inr rfl) (And.intro (Or.inl rfl) (And.intro (Or.inl rfl) (And.intro (Or.inl rfl) (And.intro (Or.inl rfl) (And.intro (Or.inl rfl) trivial)))))))))))))))
def b_X7_odds_125   : Nat → Int32 → Int64 → Int64 → Int64 → Int64 → Option (Int32)
  | 0, _, _, _, _, _ => none
  | n + 1, x4, y5, y7, y9, y11 => if (lg_cmp y11 (0 : Int64)) = (0 : Int32) then (b_X7_odds_150 x4 y5 y7 y9) else (if y11 = (0 : Int64) then none else b_X7_odds_125 n x4 y5 y7 y11 (y9 - y9 / y11 * y11))
set_option maxRecDepth 100000 in
set_option maxHeartbeats 4000000 in
theorem t_X7_odds_125 {G : GP} {X : CX} (hX : XOK G X mi_X7_odds) {c d : Nat} {I : Hi} {L : Hl} {p : Int32} (hZ : XZ G X mi_X7_odds (some (.int p)) S0 I (R0 c d) L) : ∀ (n : Nat) (x4 : Int32) (y5 : Int64) (y7 : Int64) (y9 : Int64) (y11 : Int64), b_X7_odds_125 n x4 y5 y7 y9 y11 = some p → AW G X 0 0 S0 I (R0 c d) L 125 [.null, .null, .null, .null, .int x4, .long y5, .null, .long y7, .null, .long y9, .null, .long y11, .null, .null, .null] [] := by
  intro n
  induction n with
  | zero => intro x4 y5 y7 y9 y11 h; cases h
  | succ n ih =>
    intro x4 y5 y7 y9 y11 h
    rw [b_X7_odds_125] at h
    refine aw_lload (pc := 125) hX dX7_odds_125 rfl ?_
    refine aw_lconst (pc := 127) hX (0 : Int64) dX7_odds_127 (by decide) ?_
    refine aw_lcmp (pc := 128) hX dX7_odds_128 ?_
    refine aw_if_eq (pc := 129) hX 150 dX7_odds_129 rfl (fun hc129 => ?_) (fun hc129 => ?_)
    · have h := ite_t h hc129
      exact AW.lo (t_X7_odds_150 hX hZ x4 y5 y7 y9 h) (And.intro (Or.inl rfl) (And.intro (Or.inl rfl) (And.intro (Or.inl rfl) (And.intro (Or.inl rfl) (And.intro (Or.inr rfl) (And.intro (Or.inr rfl) (And.intro (Or.inl rfl) (And.intro (Or.inr rfl) (And.intro (Or.inl rfl) (And.intro (Or.inr rfl) (And.intro (Or.inl rfl) (And.intro (Or.inl rfl) (And.intro (Or.inl rfl) (And.intro (Or.inl rfl) (And.intro (Or.inl rfl) trivial)))))))))))))))
    · have h := ite_f h hc129
      refine aw_lload (pc := 132) hX dX7_odds_132 rfl ?_
      refine aw_lload (pc := 134) hX dX7_odds_134 rfl ?_
      obtain ⟨hne136, h⟩ := ite_n h
      refine aw_lrem (pc := 136) hX dX7_odds_136 hne136 ?_
      refine aw_lstoreE (pc := 137) hX [.null, .null, .null, .null, .int x4, .long y5, .null, .long y7, .null, .long y9, .null, .long y11, .null, .long (y9 - y9 / y11 * y11), .null] dX7_odds_137 (by decide) rfl rfl ?_
      refine aw_lload (pc := 139) hX dX7_odds_139 rfl ?_
      refine aw_lstoreE (pc := 141) hX [.null, .null, .null, .null, .int x4, .long y5, .null, .long y7, .null, .long y11, .null, .long y11, .null, .long (y9 - y9 / y11 * y11), .null] dX7_odds_141 (by decide) rfl rfl ?_
      refine aw_lload (pc := 143) hX dX7_odds_143 rfl ?_
      refine aw_lstoreE (pc := 145) hX [.null, .null, .null, .null, .int x4, .long y5, .null, .long y7, .null, .long y11, .null, .long (y9 - y9 / y11 * y11), .null, .long (y9 - y9 / y11 * y11), .null] dX7_odds_145 (by decide) rfl rfl ?_
      refine aw_goto (pc := 147) hX 125 dX7_odds_147 rfl ?_
      exact AW.lo (ih x4 y5 y7 y11 (y9 - y9 / y11 * y11)  h) (And.intro (Or.inl rfl) (And.intro (Or.inl rfl) (And.intro (Or.inl rfl) (And.intro (Or.inl rfl) (And.intro (Or.inr rfl) (And.intro (Or.inr rfl) (And.intro (Or.inl rfl) (And.intro (Or.inr rfl) (And.intro (Or.inl rfl) (And.intro (Or.inr rfl) (And.intro (Or.inl rfl) (And.intro (Or.inr rfl) (And.intro (Or.inl rfl) (And.intro (Or.inl rfl) (And.intro (Or.inl rfl) trivial)))))))))))))))
def b_X7_odds_108   (x2 : Int32) (x4 : Int32) (y5 : Int64) : Option (Int32) := (f_X7_power (10 : Int64) x2).bind fun r112 => b_X7_odds_125 2000 x4 y5 r112 y5 r112
set_option maxRecDepth 100000 in
set_option maxHeartbeats 4000000 in
theorem t_X7_odds_108 {G : GP} {X : CX} (hX : XOK G X mi_X7_odds) {c d : Nat} {I : Hi} {L : Hl} {p : Int32} (hZ : XZ G X mi_X7_odds (some (.int p)) S0 I (R0 c d) L) (x2 : Int32) (x4 : Int32) (y5 : Int64) (h : b_X7_odds_108 x2 x4 y5 = some p) : AW G X 0 0 S0 I (R0 c d) L 108 [.null, .null, .int x2, .null, .int x4, .long y5, .null, .null, .null, .null, .null, .null, .null, .null, .null] [] := by
  rw [b_X7_odds_108] at h
  refine aw_ldc2 (pc := 108) hX dX7_odds_108 v_X7_251 ?_
  refine aw_iload_n (pc := 111) hX 2 dX7_odds_111 rfl rfl ?_
  obtain ⟨r112, hq112, h⟩ := bind_s h
  refine aw_S2l (pc := 112) hX h_X7_power l_X7_255 dX7_odds_112 rfl rfl rfl (Nat.le_of_ble_eq_true rfl) (s_X7_power  hq112) ?_
  refine aw_lstoreE (pc := 115) hX [.null, .null, .int x2, .null, .int x4, .long y5, .null, .long r112, .null, .null, .null, .null, .null, .null, .null] dX7_odds_115 (by decide) rfl rfl ?_
  refine aw_lload (pc := 117) hX dX7_odds_117 rfl ?_
  refine aw_lstoreE (pc := 119) hX [.null, .null, .int x2, .null, .int x4, .long y5, .null, .long r112, .null, .long y5, .null, .null, .null, .null, .null] dX7_odds_119 (by decide) rfl rfl ?_
  refine aw_lload (pc := 121) hX dX7_odds_121 rfl ?_
  refine aw_lstoreE (pc := 123) hX [.null, .null, .int x2, .null, .int x4, .long y5, .null, .long r112, .null, .long y5, .null, .long r112, .null, .null, .null] dX7_odds_123 (by decide) rfl rfl ?_
  exact AW.lo (t_X7_odds_125 hX hZ 2000 x4 y5 r112 y5 r112 h) (And.intro (Or.inl rfl) (And.intro (Or.inl rfl) (And.intro (Or.inl rfl) (And.intro (Or.inl rfl) (And.intro (Or.inr rfl) (And.intro (Or.inr rfl) (And.intro (Or.inl rfl) (And.intro (Or.inr rfl) (And.intro (Or.inl rfl) (And.intro (Or.inr rfl) (And.intro (Or.inl rfl) (And.intro (Or.inr rfl) (And.intro (Or.inl rfl) (And.intro (Or.inl rfl) (And.intro (Or.inl rfl) trivial)))))))))))))))
def b_X7_odds_99  (k52 : Int32 → Int32 → Int32 → Int32 → Int64 → Int32 → Option (Int32)) (x1 : Int32) (x2 : Int32) (x3 : Int32) (x4 : Int32) (x7 : Int32) (ys0 : Int64) (ys1 : Int64) : Option (Int32) := k52 x1 x2 x3 x4 (ys1 + ys0) (x7 + 1)
set_option maxRecDepth 100000 in
set_option maxHeartbeats 4000000 in
theorem t_X7_odds_99 {G : GP} {X : CX} (hX : XOK G X mi_X7_odds) {c d : Nat} {I : Hi} {L : Hl} {p : Int32} (hZ : XZ G X mi_X7_odds (some (.int p)) S0 I (R0 c d) L) {k52 : Int32 → Int32 → Int32 → Int32 → Int64 → Int32 → Option (Int32)} (hk52 : ∀ (x1 : Int32) (x2 : Int32) (x3 : Int32) (x4 : Int32) (y5 : Int64) (x7 : Int32), k52 x1 x2 x3 x4 y5 x7 = some p → AW G X 0 0 S0 I (R0 c d) L 52 [.null, .int x1, .int x2, .int x3, .int x4, .long y5, .null, .int x7, .null, .null, .null, .null, .null, .null, .null] []) (x1 : Int32) (x2 : Int32) (x3 : Int32) (x4 : Int32) (x7 : Int32) (ys0 : Int64) (ys1 : Int64) (h : b_X7_odds_99 k52 x1 x2 x3 x4 x7 ys0 ys1 = some p) : AW G X 0 0 S0 I (R0 c d) L 99 [.null, .int x1, .int x2, .int x3, .int x4, .null, .null, .int x7, .null, .null, .null, .null, .null, .null, .null] [.long ys0, .long ys1] := by
  rw [b_X7_odds_99] at h
  refine aw_ladd (pc := 99) hX dX7_odds_99 ?_
  refine aw_lstoreE (pc := 100) hX [.null, .int x1, .int x2, .int x3, .int x4, .long (ys1 + ys0), .null, .int x7, .null, .null, .null, .null, .null, .null, .null] dX7_odds_100 (by decide) rfl rfl ?_
  refine aw_iincE (pc := 102) hX (x7 + 1) [.null, .int x1, .int x2, .int x3, .int x4, .long (ys1 + ys0), .null, .int (x7 + 1), .null, .null, .null, .null, .null, .null, .null] dX7_odds_102 rfl rfl (by decide) rfl rfl ?_
  refine aw_goto (pc := 105) hX 52 dX7_odds_105 rfl ?_
  exact AW.lo (hk52 x1 x2 x3 x4 (ys1 + ys0) (x7 + 1)  h) (And.intro (Or.inl rfl) (And.intro (Or.inr rfl) (And.intro (Or.inr rfl) (And.intro (Or.inr rfl) (And.intro (Or.inr rfl) (And.intro (Or.inr rfl) (And.intro (Or.inl rfl) (And.intro (Or.inr rfl) (And.intro (Or.inl rfl) (And.intro (Or.inl rfl) (And.intro (Or.inl rfl) (And.intro (Or.inl rfl) (And.intro (Or.inl rfl) (And.intro (Or.inl rfl) (And.intro (Or.inl rfl) trivial)))))))))))))))
def b_X7_odds_52   : Nat → Int32 → Int32 → Int32 → Int32 → Int64 → Int32 → Option (Int32)
  | 0, _, _, _, _, _, _ => none
  | n + 1, x1, x2, x3, x4, y5, x7 => if ((1 : Int32) <<< (x2 &&& 31)) ≤ x7 then (b_X7_odds_108 x2 x4 y5) else ((f_X7_bits x7).bind fun r62 => if r62 < x3 then (b_X7_odds_99 (b_X7_odds_52 n) x1 x2 x3 x4 x7 (0 : Int64) y5) else ((f_X7_power (x1).toInt64 r62).bind fun r79 => (f_X7_power (((10 : Int32) - x1)).toInt64 (x2 - r62)).bind fun r91 => b_X7_odds_99 (b_X7_odds_52 n) x1 x2 x3 x4 x7 (r79 * r91) y5))
set_option maxRecDepth 100000 in
set_option maxHeartbeats 4000000 in
theorem t_X7_odds_52 {G : GP} {X : CX} (hX : XOK G X mi_X7_odds) {c d : Nat} {I : Hi} {L : Hl} {p : Int32} (hZ : XZ G X mi_X7_odds (some (.int p)) S0 I (R0 c d) L) : ∀ (n : Nat) (x1 : Int32) (x2 : Int32) (x3 : Int32) (x4 : Int32) (y5 : Int64) (x7 : Int32), b_X7_odds_52 n x1 x2 x3 x4 y5 x7 = some p → AW G X 0 0 S0 I (R0 c d) L 52 [.null, .int x1, .int x2, .int x3, .int x4, .long y5, .null, .int x7, .null, .null, .null, .null, .null, .null, .null] [] := by
  intro n
  induction n with
  | zero => intro x1 x2 x3 x4 y5 x7 h; cases h
  | succ n ih =>
    intro x1 x2 x3 x4 y5 x7 h
    rw [b_X7_odds_52] at h
    refine aw_iload (pc := 52) hX dX7_odds_52 rfl ?_
    refine aw_iconst (pc := 54) hX (1 : Int32) dX7_odds_54 (by decide) ?_
    refine aw_iload_n (pc := 55) hX 2 dX7_odds_55 rfl rfl ?_
    refine aw_ishl (pc := 56) hX dX7_odds_56 ?_
    refine aw_icmp_ge (pc := 57) hX 108 dX7_odds_57 rfl (fun hc57 => ?_) (fun hc57 => ?_)
    · have h := ite_t h hc57
      exact AW.lo (t_X7_odds_108 hX hZ x2 x4 y5 h) (And.intro (Or.inl rfl) (And.intro (Or.inl rfl) (And.intro (Or.inr rfl) (And.intro (Or.inl rfl) (And.intro (Or.inr rfl) (And.intro (Or.inr rfl) (And.intro (Or.inl rfl) (And.intro (Or.inl rfl) (And.intro (Or.inl rfl) (And.intro (Or.inl rfl) (And.intro (Or.inl rfl) (And.intro (Or.inl rfl) (And.intro (Or.inl rfl) (And.intro (Or.inl rfl) (And.intro (Or.inl rfl) trivial)))))))))))))))
    · have h := ite_f h hc57
      refine aw_iload (pc := 60) hX dX7_odds_60 rfl ?_
      obtain ⟨r62, hq62, h⟩ := bind_s h
      refine aw_S1i (pc := 62) hX h_X7_bits l_X7_195 dX7_odds_62 rfl rfl rfl (Nat.le_of_ble_eq_true rfl) (s_X7_bits  hq62) ?_
      refine aw_istoreE (pc := 65) hX [.null, .int x1, .int x2, .int x3, .int x4, .long y5, .null, .int x7, .int r62, .null, .null, .null, .null, .null, .null] dX7_odds_65 (by decide) rfl rfl ?_
      refine aw_lload (pc := 67) hX dX7_odds_67 rfl ?_
      refine aw_iload (pc := 69) hX dX7_odds_69 rfl ?_
      refine aw_iload_n (pc := 71) hX 3 dX7_odds_71 rfl rfl ?_
      refine aw_icmp_lt (pc := 72) hX 98 dX7_odds_72 rfl (fun hc72 => ?_) (fun hc72 => ?_)
      · have h := ite_t h hc72
        refine aw_lconst (pc := 98) hX (0 : Int64) dX7_odds_98 (by decide) ?_
        exact AW.lo (t_X7_odds_99 hX hZ (ih) x1 x2 x3 x4 x7 (0 : Int64) y5 h) (And.intro (Or.inl rfl) (And.intro (Or.inr rfl) (And.intro (Or.inr rfl) (And.intro (Or.inr rfl) (And.intro (Or.inr rfl) (And.intro (Or.inl rfl) (And.intro (Or.inl rfl) (And.intro (Or.inr rfl) (And.intro (Or.inl rfl) (And.intro (Or.inl rfl) (And.intro (Or.inl rfl) (And.intro (Or.inl rfl) (And.intro (Or.inl rfl) (And.intro (Or.inl rfl) (And.intro (Or.inl rfl) trivial)))))))))))))))
      · have h := ite_f h hc72
        refine aw_iload_n (pc := 75) hX 1 dX7_odds_75 rfl rfl ?_
        refine aw_i2l (pc := 76) hX dX7_odds_76 ?_
        refine aw_iload (pc := 77) hX dX7_odds_77 rfl ?_
        obtain ⟨r79, hq79, h⟩ := bind_s h
        refine aw_S2l (pc := 79) hX h_X7_power l_X7_255 dX7_odds_79 rfl rfl rfl (Nat.le_of_ble_eq_true rfl) (s_X7_power  hq79) ?_
        refine aw_bipush (pc := 82) hX (10 : Int32) dX7_odds_82 (by decide) ?_
        refine aw_iload_n (pc := 84) hX 1 dX7_odds_84 rfl rfl ?_
        refine aw_isub (pc := 85) hX dX7_odds_85 ?_
        refine aw_i2l (pc := 86) hX dX7_odds_86 ?_
        refine aw_iload_n (pc := 87) hX 2 dX7_odds_87 rfl rfl ?_
        refine aw_iload (pc := 88) hX dX7_odds_88 rfl ?_
        refine aw_isub (pc := 90) hX dX7_odds_90 ?_
        obtain ⟨r91, hq91, h⟩ := bind_s h
        refine aw_S2l (pc := 91) hX h_X7_power l_X7_255 dX7_odds_91 rfl rfl rfl (Nat.le_of_ble_eq_true rfl) (s_X7_power  hq91) ?_
        refine aw_lmul (pc := 94) hX dX7_odds_94 ?_
        refine aw_goto (pc := 95) hX 99 dX7_odds_95 rfl ?_
        exact AW.lo (t_X7_odds_99 hX hZ (ih) x1 x2 x3 x4 x7 (r79 * r91) y5 h) (And.intro (Or.inl rfl) (And.intro (Or.inr rfl) (And.intro (Or.inr rfl) (And.intro (Or.inr rfl) (And.intro (Or.inr rfl) (And.intro (Or.inl rfl) (And.intro (Or.inl rfl) (And.intro (Or.inr rfl) (And.intro (Or.inl rfl) (And.intro (Or.inl rfl) (And.intro (Or.inl rfl) (And.intro (Or.inl rfl) (And.intro (Or.inl rfl) (And.intro (Or.inl rfl) (And.intro (Or.inl rfl) trivial)))))))))))))))
def f_X7_odds  (x1 : Int32) (x2 : Int32) (x3 : Int32) (x4 : Int32) : Option (Int32) := (f_X7_in (x1).toInt64 (0 : Int64) (10 : Int64)).bind fun r6 => if r6 = true then ((f_X7_in (x2).toInt64 (0 : Int64) (6 : Int64)).bind fun r18 => if r18 = true then ((f_X7_in (x3).toInt64 (0 : Int64) (6 : Int64)).bind fun r30 => if r30 = true then ((f_X7_isBit x4).bind fun r38 => if r38 = true then (b_X7_odds_52 2000 x1 x2 x3 x4 (0 : Int64) (0 : Int32)) else (some ((-1 : Int32)))) else (some ((-1 : Int32)))) else (some ((-1 : Int32)))) else (some ((-1 : Int32)))
set_option maxRecDepth 100000 in
set_option maxHeartbeats 4000000 in
theorem s_X7_odds {G : GP} {c d : Nat} {I : Hi} {L : Hl} {x1 : Int32} {x2 : Int32} {x3 : Int32} {x4 : Int32} {p : Int32} (h : f_X7_odds x1 x2 x3 x4 = some p) : CD G mi_X7_odds [.ref 77, .int x1, .int x2, .int x3, .int x4] S0 I (R0 c d) L (some (.int p)) S0 I (R0 c d) L := by
  refine CD.intro 10 rfl (by decide) rfl fun X hX hZ => ?_
  rw [f_X7_odds] at h
  show AW G X 0 0 S0 I (R0 c d) L 0 [.ref 77, .int x1, .int x2, .int x3, .int x4, .null, .null, .null, .null, .null, .null, .null, .null, .null, .null] []
  refine aw_iload_n (pc := 0) hX 1 dX7_odds_0 rfl rfl ?_
  refine aw_i2l (pc := 1) hX dX7_odds_1 ?_
  refine aw_lconst (pc := 2) hX (0 : Int64) dX7_odds_2 (by decide) ?_
  refine aw_ldc2 (pc := 3) hX dX7_odds_3 v_X7_251 ?_
  obtain ⟨r6, hq6, h⟩ := bind_s h
  refine aw_S3i (pc := 6) hX h_X7_in l_X7_75 dX7_odds_6 rfl rfl rfl (Nat.le_of_ble_eq_true rfl) (s_X7_in  hq6) ?_
  refine aw_if_eq (pc := 9) hX 44 dX7_odds_9 rfl (fun hc9 => ?_) (fun hc9 => ?_)
  · have h := ite_f h (bI0 hc9)
    refine aw_iconst (pc := 44) hX (-1 : Int32) dX7_odds_44 (by decide) ?_
    have e := Option.some.inj h
    subst e
    exact aw_iret hX hZ dX7_odds_45 rfl rfl rfl rfl rfl rfl rfl (Nat.le_refl _)
  · have h := ite_t h (bI1 hc9)
    refine aw_iload_n (pc := 12) hX 2 dX7_odds_12 rfl rfl ?_
    refine aw_i2l (pc := 13) hX dX7_odds_13 ?_
    refine aw_lconst (pc := 14) hX (0 : Int64) dX7_odds_14 (by decide) ?_
    refine aw_ldc2 (pc := 15) hX dX7_odds_15 v_X7_253 ?_
    obtain ⟨r18, hq18, h⟩ := bind_s h
    refine aw_S3i (pc := 18) hX h_X7_in l_X7_75 dX7_odds_18 rfl rfl rfl (Nat.le_of_ble_eq_true rfl) (s_X7_in  hq18) ?_
    refine aw_if_eq (pc := 21) hX 44 dX7_odds_21 rfl (fun hc21 => ?_) (fun hc21 => ?_)
    · have h := ite_f h (bI0 hc21)
      refine aw_iconst (pc := 44) hX (-1 : Int32) dX7_odds_44 (by decide) ?_
      have e := Option.some.inj h
      subst e
      exact aw_iret hX hZ dX7_odds_45 rfl rfl rfl rfl rfl rfl rfl (Nat.le_refl _)
    · have h := ite_t h (bI1 hc21)
      refine aw_iload_n (pc := 24) hX 3 dX7_odds_24 rfl rfl ?_
      refine aw_i2l (pc := 25) hX dX7_odds_25 ?_
      refine aw_lconst (pc := 26) hX (0 : Int64) dX7_odds_26 (by decide) ?_
      refine aw_ldc2 (pc := 27) hX dX7_odds_27 v_X7_253 ?_
      obtain ⟨r30, hq30, h⟩ := bind_s h
      refine aw_S3i (pc := 30) hX h_X7_in l_X7_75 dX7_odds_30 rfl rfl rfl (Nat.le_of_ble_eq_true rfl) (s_X7_in  hq30) ?_
      refine aw_if_eq (pc := 33) hX 44 dX7_odds_33 rfl (fun hc33 => ?_) (fun hc33 => ?_)
      · have h := ite_f h (bI0 hc33)
        refine aw_iconst (pc := 44) hX (-1 : Int32) dX7_odds_44 (by decide) ?_
        have e := Option.some.inj h
        subst e
        exact aw_iret hX hZ dX7_odds_45 rfl rfl rfl rfl rfl rfl rfl (Nat.le_refl _)
      · have h := ite_t h (bI1 hc33)
        refine aw_iload (pc := 36) hX dX7_odds_36 rfl ?_
        obtain ⟨r38, hq38, h⟩ := bind_s h
        refine aw_S1i (pc := 38) hX h_X7_isBit l_X7_202 dX7_odds_38 rfl rfl rfl (Nat.le_of_ble_eq_true rfl) (s_X7_isBit  hq38) ?_
        refine aw_if_ne (pc := 41) hX 46 dX7_odds_41 rfl (fun hc41 => ?_) (fun hc41 => ?_)
        · have h := ite_t h (bI1 hc41)
          refine aw_lconst (pc := 46) hX (0 : Int64) dX7_odds_46 (by decide) ?_
          refine aw_lstoreE (pc := 47) hX [.ref 77, .int x1, .int x2, .int x3, .int x4, .long (0 : Int64), .null, .null, .null, .null, .null, .null, .null, .null, .null] dX7_odds_47 (by decide) rfl rfl ?_
          refine aw_iconst (pc := 49) hX (0 : Int32) dX7_odds_49 (by decide) ?_
          refine aw_istoreE (pc := 50) hX [.ref 77, .int x1, .int x2, .int x3, .int x4, .long (0 : Int64), .null, .int (0 : Int32), .null, .null, .null, .null, .null, .null, .null] dX7_odds_50 (by decide) rfl rfl ?_
          exact AW.lo (t_X7_odds_52 hX hZ 2000 x1 x2 x3 x4 (0 : Int64) (0 : Int32) h) (And.intro (Or.inl rfl) (And.intro (Or.inr rfl) (And.intro (Or.inr rfl) (And.intro (Or.inr rfl) (And.intro (Or.inr rfl) (And.intro (Or.inr rfl) (And.intro (Or.inl rfl) (And.intro (Or.inr rfl) (And.intro (Or.inl rfl) (And.intro (Or.inl rfl) (And.intro (Or.inl rfl) (And.intro (Or.inl rfl) (And.intro (Or.inl rfl) (And.intro (Or.inl rfl) (And.intro (Or.inl rfl) trivial)))))))))))))))
        · have h := ite_f h (bI0 hc41)
          refine aw_iconst (pc := 44) hX (-1 : Int32) dX7_odds_44 (by decide) ?_
          have e := Option.some.inj h
          subst e
          exact aw_iret hX hZ dX7_odds_45 rfl rfl rfl rfl rfl rfl rfl (Nat.le_refl _)
def f_X7_asGoer (I : Hi) (L : Hl) (x1 : Int32) : Option (Int32 × Hl) := (some (u2 L (77) 17 ((L (77) 17) + (1 : Int64)))).bind fun L7 => if vinb x1 6 then (f_X7_bits (I (79) (x1).toNatClampNeg)).bind fun r16 => some (r16, L7) else none
set_option maxRecDepth 100000 in
set_option maxHeartbeats 4000000 in
theorem s_X7_asGoer {G : GP} {c d : Nat} {I : Hi} {L : Hl} {x1 : Int32} {p : Int32 × Hl} (h : f_X7_asGoer I L x1 = some p) : CD G mi_X7_asGoer [.ref 77, .int x1] S0 I (R0 c d) L (some (.int p.1)) S0 I (R0 c d) p.2 := by
  refine CD.intro 0 rfl (by decide) rfl fun X hX hZ => ?_
  rw [f_X7_asGoer] at h
  show AW G X 0 0 S0 I (R0 c d) L 0 [.ref 77, .int x1] []
  refine aw_aload_n (pc := 0) hX 0 dX7_asGoer_0 rfl rfl ?_
  refine aw_dup (pc := 1) hX dX7_asGoer_1 rfl ?_
  refine aw_getL (pc := 2) hX dX7_asGoer_2 f_X7_259 rfl (by rfl) ?_
  refine aw_lconst (pc := 5) hX (1 : Int64) dX7_asGoer_5 (by decide) ?_
  refine aw_ladd (pc := 6) hX dX7_asGoer_6 ?_
  refine aw_putL (pc := 7) hX dX7_asGoer_7 f_X7_259 rfl rfl rfl rfl (by rfl) ?_
  obtain ⟨L7, hl7, h⟩ := bind_s h
  refine AW.lEq hl7 ?_
  refine aw_aload_n (pc := 10) hX 0 dX7_asGoer_10 rfl rfl ?_
  refine aw_getR (pc := 11) hX dX7_asGoer_11 f_X7_13 rfl (by rfl) (q := 79) (by rfl) ?_
  refine aw_iload_n (pc := 14) hX 1 dX7_asGoer_14 rfl rfl ?_
  obtain ⟨hv15, h⟩ := ite_g h
  refine aw_iaload (pc := 15) hX dX7_asGoer_15 (by rfl) (vinb_in hv15) ?_
  obtain ⟨r16, hq16, h⟩ := bind_s h
  refine aw_S1i (pc := 16) hX h_X7_bits l_X7_195 dX7_asGoer_16 rfl rfl rfl (Nat.le_of_ble_eq_true rfl) (s_X7_bits  hq16) ?_
  have e := Option.some.inj h
  subst e
  exact aw_iret hX hZ dX7_asGoer_19 rfl rfl rfl rfl rfl rfl rfl (Nat.le_refl _)
def f_X7_asGent (I : Hi) (L : Hl) (x1 : Int32) : Option (Int32 × Hl) := (some (u2 L (77) 17 ((L (77) 17) + (10 : Int64)))).bind fun L9 => (f_X7_asGoer I L9 x1).bind fun r14 => if vinb ((15 : Int32) + x1) 21 then some ((r14.1 + (I (83) (((15 : Int32) + x1)).toNatClampNeg)), r14.2) else none
set_option maxRecDepth 100000 in
set_option maxHeartbeats 4000000 in
theorem s_X7_asGent {G : GP} {c d : Nat} {I : Hi} {L : Hl} {x1 : Int32} {p : Int32 × Hl} (h : f_X7_asGent I L x1 = some p) : CD G mi_X7_asGent [.ref 77, .int x1] S0 I (R0 c d) L (some (.int p.1)) S0 I (R0 c d) p.2 := by
  refine CD.intro 0 rfl (by decide) rfl fun X hX hZ => ?_
  rw [f_X7_asGent] at h
  show AW G X 0 0 S0 I (R0 c d) L 0 [.ref 77, .int x1] []
  refine aw_aload_n (pc := 0) hX 0 dX7_asGent_0 rfl rfl ?_
  refine aw_dup (pc := 1) hX dX7_asGent_1 rfl ?_
  refine aw_getL (pc := 2) hX dX7_asGent_2 f_X7_259 rfl (by rfl) ?_
  refine aw_ldc2 (pc := 5) hX dX7_asGent_5 v_X7_251 ?_
  refine aw_ladd (pc := 8) hX dX7_asGent_8 ?_
  refine aw_putL (pc := 9) hX dX7_asGent_9 f_X7_259 rfl rfl rfl rfl (by rfl) ?_
  obtain ⟨L9, hl9, h⟩ := bind_s h
  refine AW.lEq hl9 ?_
  refine aw_aload_n (pc := 12) hX 0 dX7_asGent_12 rfl rfl ?_
  refine aw_iload_n (pc := 13) hX 1 dX7_asGent_13 rfl rfl ?_
  obtain ⟨r14, hq14, h⟩ := bind_s h
  refine aw_V1i (pc := 14) hX h_X7_asGoer l_X7_263 dX7_asGent_14 (by rfl) (by decide) (by rfl) rfl rfl rfl (Nat.le_of_ble_eq_true rfl) (s_X7_asGoer  hq14) ?_
  refine aw_aload_n (pc := 17) hX 0 dX7_asGent_17 rfl rfl ?_
  refine aw_getR (pc := 18) hX dX7_asGent_18 f_X7_29 rfl (by rfl) (q := 83) (by rfl) ?_
  refine aw_bipush (pc := 21) hX (15 : Int32) dX7_asGent_21 (by decide) ?_
  refine aw_iload_n (pc := 23) hX 1 dX7_asGent_23 rfl rfl ?_
  refine aw_iadd (pc := 24) hX dX7_asGent_24 ?_
  obtain ⟨hv25, h⟩ := ite_g h
  refine aw_iaload (pc := 25) hX dX7_asGent_25 (by rfl) (vinb_in hv25) ?_
  refine aw_iadd (pc := 26) hX dX7_asGent_26 ?_
  have e := Option.some.inj h
  subst e
  exact aw_iret hX hZ dX7_asGent_27 rfl rfl rfl rfl rfl rfl rfl (Nat.le_refl _)
def f_X7_asDoctor (I : Hi) (L : Hl) (x1 : Int32) : Option (Int32 × Hl) := (some (u2 L (77) 17 ((L (77) 17) + (100 : Int64)))).bind fun L9 => (f_X7_asGoer I L9 x1).bind fun r14 => (f_X7_leavesOf I x1).bind fun r19 => (f_X7_bits r19).bind fun r22 => some ((r14.1 - r22), r14.2)
set_option maxRecDepth 100000 in
set_option maxHeartbeats 4000000 in
theorem s_X7_asDoctor {G : GP} {c d : Nat} {I : Hi} {L : Hl} {x1 : Int32} {p : Int32 × Hl} (h : f_X7_asDoctor I L x1 = some p) : CD G mi_X7_asDoctor [.ref 77, .int x1] S0 I (R0 c d) L (some (.int p.1)) S0 I (R0 c d) p.2 := by
  refine CD.intro 0 rfl (by decide) rfl fun X hX hZ => ?_
  rw [f_X7_asDoctor] at h
  show AW G X 0 0 S0 I (R0 c d) L 0 [.ref 77, .int x1] []
  refine aw_aload_n (pc := 0) hX 0 dX7_asDoctor_0 rfl rfl ?_
  refine aw_dup (pc := 1) hX dX7_asDoctor_1 rfl ?_
  refine aw_getL (pc := 2) hX dX7_asDoctor_2 f_X7_259 rfl (by rfl) ?_
  refine aw_ldc2 (pc := 5) hX dX7_asDoctor_5 v_X7_266 ?_
  refine aw_ladd (pc := 8) hX dX7_asDoctor_8 ?_
  refine aw_putL (pc := 9) hX dX7_asDoctor_9 f_X7_259 rfl rfl rfl rfl (by rfl) ?_
  obtain ⟨L9, hl9, h⟩ := bind_s h
  refine AW.lEq hl9 ?_
  refine aw_aload_n (pc := 12) hX 0 dX7_asDoctor_12 rfl rfl ?_
  refine aw_iload_n (pc := 13) hX 1 dX7_asDoctor_13 rfl rfl ?_
  obtain ⟨r14, hq14, h⟩ := bind_s h
  refine aw_V1i (pc := 14) hX h_X7_asGoer l_X7_263 dX7_asDoctor_14 (by rfl) (by decide) (by rfl) rfl rfl rfl (Nat.le_of_ble_eq_true rfl) (s_X7_asGoer  hq14) ?_
  refine aw_aload_n (pc := 17) hX 0 dX7_asDoctor_17 rfl rfl ?_
  refine aw_iload_n (pc := 18) hX 1 dX7_asDoctor_18 rfl rfl ?_
  obtain ⟨r19, hq19, h⟩ := bind_s h
  refine aw_V1i (pc := 19) hX h_X7_leavesOf l_X7_208 dX7_asDoctor_19 (by rfl) (by decide) (by rfl) rfl rfl rfl (Nat.le_of_ble_eq_true rfl) (s_X7_leavesOf  hq19) ?_
  obtain ⟨r22, hq22, h⟩ := bind_s h
  refine aw_S1i (pc := 22) hX h_X7_bits l_X7_195 dX7_asDoctor_22 rfl rfl rfl (Nat.le_of_ble_eq_true rfl) (s_X7_bits  hq22) ?_
  refine aw_isub (pc := 25) hX dX7_asDoctor_25 ?_
  have e := Option.some.inj h
  subst e
  exact aw_iret hX hZ dX7_asDoctor_26 rfl rfl rfl rfl rfl rfl rfl (Nat.le_refl _)
