/-! contracts: a call's answer and the state behind it -/
def CPre (G : GP) (args : List Value) (S : Shp) (I : Hi) (R : Hr) (L : Hl) : Array Value → State → Prop := fun v U => v = (args.map (rv G)).toArray ∧ GOK G U ∧ U.heap.size = gN G + S.length ∧ va_P (gD G) vwCl (wd G S I R L) U.heap
def CPost (G : GP) (v : Option Value) (S : Shp) (I : Hi) (R : Hr) (L : Hl) : Array Value → State → Outcome → State → Prop := fun _ st oc t => oc = .returned (v.map (rv G)) ∧ va_P (gD G) vwCl (wd G S I R L) t.heap ∧ va_F (gA G) st t
def wsM (M : MI) : List Cond := .code (mY M) (mC M) (mL M) (mT M) :: gtbl
/-- method M, called with args, answers v, and leaves S' I' R' L' -/
def CD (G : GP) (M : MI) (args : List Value) (S : Shp) (I : Hi) (R : Hr) (L : Hl) (v : Option Value) (S' : Shp) (I' : Hi) (R' : Hr) (L' : Hl) : Prop := S'.length = S.length + mCe M ∧ Met (gl G) (mY M) (wsM M) (mRm M) (CPre G args S I R L) (CPost G v S' I' R' L') (mCe M) (mSl M) (gA G)
theorem CPre.blind {G : GP} {args : List Value} {S : Shp} {I : Hi} {R : Hr} {L : Hl} : FrameBlind (CPre G args S I R L) := by
  intro a U g mk h
  obtain ⟨h1, h2, h3, h4⟩ := h
  obtain ⟨k1, k2, k3, k4, k5, k6⟩ := h2
  refine ⟨h1, ⟨va_K.moved (u := U) (U := U.calling g mk a) (Vm.Alike.refl U.vm) k1, fun w hw => ?_, va_AO.moved (u := U) (U := U.calling g mk a) (Vm.Alike.refl U.vm) k3, va_X.moved (u := U) (U := U.calling g mk a) (Vm.Alike.refl U.vm) k4, k5, k6⟩, h3, h4⟩
  have h7 := k2 w hw
  have h8 := (List.mem_filter.mp hw).2
  cases w <;> first | exact va_Nw.same (u := U) (U := U.calling g mk a) rfl rfl h7 | exact absurd h8 (by simp [isNest])
theorem wsM_good {M : MI} (hc : Cond.code (mY M) (mC M) (mL M) (mT M) ∈ gtbl) : GoodIn gtbl (wsM M) := by
  intro w hw
  rcases List.mem_cons.mp hw with rfl | hw
  · exact ⟨hc, good_of_word (List.mem_filter.mp hc).2⟩
  · exact ⟨hw, good_of_word (List.mem_filter.mp hw).2⟩
/-- what a return must show -/
def XZ (G : GP) (X : CX) (M : MI) (v : Option Value) (S : Shp) (I : Hi) (R : Hr) (L : Hl) : Prop := match X with
  | (_, _, _, s, _, args, below, _, _, Z) => Z = MQ below (CPost G v S I R L) args s (mCe M) (mSl M) (gA G)
theorem CD.intro {G : GP} {M : MI} {args : List Value} {S : Shp} {I : Hi} {R : Hr} {L : Hl} {v : Option Value} {S' : Shp} {I' : Hi} {R' : Hr} {L' : Hl} (n : Nat) (hlen : S'.length = S.length + mCe M) (hy : plainName (mY M).cls = true) (hn : (el args).length + n = mL M)
    (body : ∀ X : CX, XOK G X M → XZ G X M v S' I' R' L' → AW G X 0 0 S I R L 0 (el args ++ List.replicate n .null) []) : CD G M args S I R L v S' I' R' L' := by
  refine ⟨hlen, Met.ofW (cc := mC M) (maxL := mL M) (ret := mT M) hy rfl ?_⟩
  intro p e s m as below meth c s₁ B hml hv
  obtain ⟨rfl, hG, hsz, hP⟩ := hv
  have hts := atoms_spec (ws := wsM M) B.pre
  have hX : XOK G (p, e, (headSpec (wsM M) (mRm M)).room, s, m, (args.map (rv G)).toArray, below, meth, c, MQ below (CPost G v S' I' R' L') (args.map (rv G)).toArray s (mCe M) (mSl M) (gA G)) M :=
    ⟨B.exec, B.bytes, hml, findClass_of_methodNamed B.named, fun w hw => hts w (List.mem_cons_of_mem _ hw), B.returns, B.notSynchronized, fun hi => (name_of_methodNamed B.named B.method).1.trans hi, rfl, hG⟩
  have hb := body _ hX rfl
  have hl := lv_entry (args.map (rv G)) (n := mL M) (by rw [el_len]; omega)
  rw [lg_entry_eq]
  refine hb s.heap [] _ (by rw [hsz]; rfl) hP va_S.rf ?_
  rw [hml]
  exact lrel.pad ⟨hl.1, hl.2.1, fun i v hi hv => hl.2.2 (i, rv G v) (by have := el_at G args 0 i v hi hv; rwa [Nat.zero_add] at this)⟩
section RET
variable {G : GP} {X : CX} {M : MI} {cu su : Nat} {S S' : Shp} {I I' : Hi} {R R' : Hr} {L L' : Hl} {pc : Nat} {ls st : List Value}
theorem aw_iret (hX : XOK G X M) {x y : Int32} (hZ : XZ G X M (some (.int y)) S' I' R' L') (hd : decode (mC M) pc = .ok (.ireturn, 1)) (ht : mT M = some .int) (hv : x = y) (hs : S = S') (hi : I = I') (hr0 : R = R') (hl : L = L') (hcu : cu = mCe M) (hsu : su ≤ mSl M) : AW G X cu su S I R L pc ls [.int x] := by
  subst hv; subst hs; subst hi; subst hr0; subst hl; subst hcu
  obtain ⟨p, e, Rm, s, m, args, below, meth, c, Z⟩ := X
  obtain ⟨hx, hb, hml, hown, hts, hr, hlk, hnm, hrm, hG⟩ := hX
  intro H locs la h1 h2 h3 h4
  have hZ : Z = _ := hZ
  subst hZ
  refine W.widen (Nat.le_refl _) hsu ?_
  exact W.iret (v := x) hx hb (hr.trans ht) (fun t ht hW => ⟨rfl, by rw [ht]; exact h2, h3.F ht⟩) h3.2.2 hd
theorem aw_zret (hX : XOK G X M) {x y : Int32} (hZ : XZ G X M (some (.int y)) S' I' R' L') (hd : decode (mC M) pc = .ok (.ireturn, 1)) (ht : mT M = some .boolean) (hb01 : y = 0 ∨ y = 1) (hv : x = y) (hs : S = S') (hi : I = I') (hr0 : R = R') (hl : L = L') (hcu : cu = mCe M) (hsu : su ≤ mSl M) : AW G X cu su S I R L pc ls [.int x] := by
  subst hv; subst hs; subst hi; subst hr0; subst hl; subst hcu
  obtain ⟨p, e, Rm, s, m, args, below, meth, c, Z⟩ := X
  obtain ⟨hx, hb, hml, hown, hts, hr, hlk, hnm, hrm, hG⟩ := hX
  intro H locs la h1 h2 h3 h4
  have hZ : Z = _ := hZ
  subst hZ
  refine W.widen (Nat.le_refl _) hsu ?_
  exact W.zret (v := x) hx hb (hr.trans ht) (by rcases hb01 with rfl | rfl <;> decide) (fun t ht hW => ⟨rfl, by rw [ht]; exact h2, h3.F ht⟩) h3.2.2 hd
theorem aw_lret (hX : XOK G X M) {x y : Int64} (hZ : XZ G X M (some (.long y)) S' I' R' L') (hd : decode (mC M) pc = .ok (.lreturn, 1)) (ht : mT M = some .long) (hv : x = y) (hs : S = S') (hi : I = I') (hr0 : R = R') (hl : L = L') (hcu : cu = mCe M) (hsu : su ≤ mSl M) : AW G X cu su S I R L pc ls [.long x] := by
  subst hv; subst hs; subst hi; subst hr0; subst hl; subst hcu
  obtain ⟨p, e, Rm, s, m, args, below, meth, c, Z⟩ := X
  obtain ⟨hx, hb, hml, hown, hts, hr, hlk, hnm, hrm, hG⟩ := hX
  intro H locs la h1 h2 h3 h4
  have hZ : Z = _ := hZ
  subst hZ
  refine W.widen (Nat.le_refl _) hsu ?_
  exact W.lret (v := x) hx hb (hr.trans ht) (fun t ht hW => ⟨rfl, by rw [ht]; exact h2, h3.F ht⟩) h3.2.2 hd
theorem aw_vret (hX : XOK G X M) (hZ : XZ G X M none S' I' R' L') (hd : decode (mC M) pc = .ok (.return_, 1)) (ht : mT M = none) (hs : S = S') (hi : I = I') (hr0 : R = R') (hl : L = L') (hcu : cu = mCe M) (hsu : su ≤ mSl M) : AW G X cu su S I R L pc ls [] := by
  subst hs; subst hi; subst hr0; subst hl; subst hcu
  obtain ⟨p, e, Rm, s, m, args, below, meth, c, Z⟩ := X
  obtain ⟨hx, hb, hml, hown, hts, hr, hlk, hnm, hrm, hG⟩ := hX
  intro H locs la h1 h2 h3 h4
  have hZ : Z = _ := hZ
  subst hZ
  refine W.widen (Nat.le_refl _) hsu ?_
  exact W.vret hx hb (hr.trans ht) (fun t ht hW => ⟨rfl, by rw [ht]; exact h2, h3.F ht⟩) h3.2.2 hd
end RET
/-! calls -/
def MF (M : MI) (n : Nat) : Prop := Cond.code (mY M) (mC M) (mL M) (mT M) ∈ gtbl ∧ Cond.initialized (mY M).cls ∈ gtbl ∧ (mY M).cls ≠ "java/lang/invoke/MethodHandle" ∧ (mY M).cls ≠ "java/lang/invoke/VarHandle" ∧ (parseMethodDescriptor (mY M).desc).map (fun d => d.parameters.length) = some n
def MV (M : MI) (n : Nat) : Prop := MF M n ∧ Cond.instanceMethod (mY M) ∈ gtbl ∧ Cond.selects (mY M).cls (mY M) (mY M) ∈ gtbl
def MS (M : MI) (n : Nat) : Prop := MF M n ∧ Cond.static (mY M) ∈ gtbl
def MN (M : MI) (n : Nat) : Prop := MF M n ∧ (mY M).name = "<init>" ∧ Cond.instanceMethod (mY M) ∈ gtbl ∧ mT M = none
/-- M can call M' with cu cells and su slots made so far -/
def rmOK (M M' : MI) (cu su : Nat) : Bool := Nat.ble (mFr M' + 1) (mFr M) && Nat.ble (8 + (mL M' + 11) + mLo M') (mLo M) && Nat.ble (cu + mCe M') (mCe M) && Nat.ble (su + mSl M') (mSl M)
theorem rmOK_spec {M M' : MI} {cu su : Nat} (h : rmOK M M' cu su = true) : (mRm M').frames + 1 ≤ (mRm M).frames ∧ 8 + (mL M' + 11) + (mRm M').locals ≤ (mRm M).locals ∧ cu + mCe M' ≤ (mRm M).cells ∧ su + mSl M' ≤ (mRm M).slots := by
  simp only [rmOK, Bool.and_eq_true] at h
  exact ⟨Nat.le_of_ble_eq_true h.1.1.1, Nat.le_of_ble_eq_true h.1.1.2, Nat.le_of_ble_eq_true h.1.2, Nat.le_of_ble_eq_true h.2⟩
theorem tl_rv (G : GP) (v : Option Value) (rest : List Value) : (v.map (rv G)).toList ++ rest.map (rv G) = (v.toList ++ rest).map (rv G) := by cases v <;> rfl
section CALL
variable {G : GP} {X : CX} {M M' : MI} {cu su : Nat} {S S' : Shp} {I I' : Hi} {R R' : Hr} {L L' : Hl} {pc idx : Nat} {ls As rest : List Value} {v : Option Value} {n a ci m0 : Nat}
/-- behind a call -/
theorem aw_back {p : Program} {e : Env} {Rm : Room} {s : State} {m : MethodId} {args : Array Value} {below : List Frame} {meth : Method} {c : Code} {Z : State → Prop} {H : Heap} {locs : List Loc} {la : Array Slot} {g : JFrame} {aa : Array Value}
    (hg : g = F0 m pc la g.stack) (h1 : s.heap.size + cu = gN G + S.length) (h3 : va_S (gA G) s.heap H locs) (h4 : lrel G la c.maxLocals ls) (hlen : S'.length = S.length + mCe M')
    (hr : va_Run p (gl G) e Rm s m args below meth c H locs cu su (mCe M') (mSl M') g (rest.map (rv G)) (CPost G v S' I' R' L' aa) (gA G))
    (k : AW G (p, e, Rm, s, m, args, below, meth, c, Z) (cu + mCe M') (su + mSl M') S' I' R' L' (pc + 3) ls (v.toList ++ rest)) : W p (gl G) e Rm s m args below meth c H locs cu su Z g := by
  intro T hT Y
  obtain ⟨v0, st₀, t, T', Lc, h0, Y', hLc, e1, e2, ⟨hv, hP, hz, hk⟩, st⟩ := hr T hT Y
  cases hv
  rw [h0] at hz hk
  have hS : va_S (gA G) s.heap T'.heap (locs ++ Lc) := by
    refine ⟨Nat.le_trans h3.1 (by rw [e1]; exact hz), fun q g1 g2 => ?_, fun q hq => ?_⟩
    · rw [e1, hk q (Nat.lt_of_lt_of_le g1 h3.1) g2]; exact h3.2.1 q g1 g2
    · rcases List.mem_append.mp hq with h | h
      · exact h3.2.2 q h
      · exact hLc q h
  obtain ⟨t2, a1, b1⟩ := k T'.heap (locs ++ Lc) la (by omega) (by rw [e1]; exact hP) hS h4 T' rfl Y'
  refine ⟨t2, st t2 ?_, b1⟩
  rw [hg, tl_rv]
  exact a1
theorem aw_pre {s U : State} {H : Heap} {locs : List Loc} (hG : GOK G s) (hz : H.size = gN G + S.length) (h2 : va_P (gD G) vwCl (wd G S I R L) H) (h3 : va_S (gA G) s.heap H locs) (hU : U.heap = H) (hW : s.WarmedH U.vm) : CPre G As S I R L (As.map (rv G)).toArray U := by
  subst hU
  refine ⟨rfl, hG.moved hW ?_ (by omega), hz, h2⟩
  exact h3.2.1 _ (Nat.lt_of_lt_of_le hG.2.2.2.2.1 hG.2.2.2.2.2) (by show ¬ (gN G ≤ gB G); have := hG.2.2.2.2.1; omega)
theorem aw_callV (hX : XOK G X M) (hm : MV M' n) (hlk : Cond.methodLink (mY M).cls idx (mY M') ∈ gtbl) (hro : rmOK M M' cu su = true) (hC : CD G M' (.ref a :: As) S I R L v S' I' R' L') (hs : S[a]? = some (ci, m0)) (hci : ci < 8) (hcn : cNm ci = (mY M').cls) (hn : As.length = n) (hcat : (rest.map fun v => v.category).sum ≤ 8) (hd : decode (mC M) pc = .ok (.invokevirtual idx, 3)) {st : List Value} (hst : st = As.reverse ++ .ref a :: rest)
    (k : AW G X (cu + mCe M') (su + mSl M') S' I' R' L' (pc + 3) ls (v.toList ++ rest)) : AW G X cu su S I R L pc ls st := by
  subst hst
  obtain ⟨p, e, Rm, s, m, args, below, meth, c, Z⟩ := X
  obtain ⟨hx, hb, hml, hown, hts, hr, hlk0, hnm, hrm, hG⟩ := hX
  intro H locs la h1 h2 h3 h4
  refine W.sized (z := gN G + S.length) (fun T hT Y => by subst hT; exact size_eq hG h1 h2 h3 Y) fun hz => ?_
  obtain ⟨r1, r2, r3, r4⟩ := rmOK_spec hro
  subst hrm
  have cw : CallW (mRm M) s args (mY M).cls (cNm ci) idx (mY M') (mC M') (mL M') (mT M') (wsM M') (mRm M') (mCe M') (mSl M') n :=
    ⟨callB_of n hts (wsM_good hm.1.1) rfl rfl rfl (hts _ hm.1.2.1) (hts _ hlk) hm.1.2.2 ⟨r1, r2⟩, hts _ hm.2.1, by rw [hcn]; exact hts _ hm.2.2⟩
  exact aw_back (aa := (Value.ref (gN G + a) :: As.map (rv G)).toArray) (by rfl) h1 h3 h4 hC.1 (va_runV (As := As.map (rv G)) (b := gN G + a) (rest := rest.map (rv G)) ⟨hx, hb, hml, hown, hts⟩ hC.2 cw ⟨CPre.blind, va_recv hG.1 h2 (vwCl_at hci) (wd_obj hci hs), fun U hU hW => aw_pre (As := .ref a :: As) hG hz h2 h3 hU hW⟩ rfl (by rw [List.length_map]; exact hn) (h4.1.trans hml) (by simp [rv]) (lv_room (by rw [rv_cats]; exact hcat)) hd ⟨r3, r4⟩) k
theorem aw_callS (hX : XOK G X M) (hm : MS M' n) (hlk : Cond.methodLink (mY M).cls idx (mY M') ∈ gtbl) (hro : rmOK M M' cu su = true) (hC : CD G M' As S I R L v S' I' R' L') (hn : As.length = n) (hcat : (rest.map fun v => v.category).sum ≤ 8) (hd : decode (mC M) pc = .ok (.invokestatic idx, 3)) {st : List Value} (hst : st = As.reverse ++ rest)
    (k : AW G X (cu + mCe M') (su + mSl M') S' I' R' L' (pc + 3) ls (v.toList ++ rest)) : AW G X cu su S I R L pc ls st := by
  subst hst
  obtain ⟨p, e, Rm, s, m, args, below, meth, c, Z⟩ := X
  obtain ⟨hx, hb, hml, hown, hts, hr, hlk0, hnm, hrm, hG⟩ := hX
  intro H locs la h1 h2 h3 h4
  refine W.sized (z := gN G + S.length) (fun T hT Y => by subst hT; exact size_eq hG h1 h2 h3 Y) fun hz => ?_
  obtain ⟨r1, r2, r3, r4⟩ := rmOK_spec hro
  subst hrm
  have cw : CallB (mRm M) s args (mY M).cls idx (mY M') (mC M') (mL M') (mT M') (wsM M') (mRm M') (mCe M') (mSl M') n ∧ (Cond.static (mY M')).before args s = true :=
    ⟨callB_of n hts (wsM_good hm.1.1) rfl rfl rfl (hts _ hm.1.2.1) (hts _ hlk) hm.1.2.2 ⟨r1, r2⟩, hts _ hm.2⟩
  exact aw_back (aa := (As.map (rv G)).toArray) (by rfl) h1 h3 h4 hC.1 (va_runS (As := As.map (rv G)) (rest := rest.map (rv G)) ⟨hx, hb, hml, hown, hts⟩ hC.2 cw ⟨CPre.blind, fun U hU hW => aw_pre hG hz h2 h3 hU hW⟩ rfl (by rw [List.length_map]; exact hn) (h4.1.trans hml) (by simp) (lv_room (by rw [rv_cats]; exact hcat)) hd ⟨r3, r4⟩) k
theorem aw_callSN (hX : XOK G X M) {host : String} (hm : MS M' n) (hlk : Cond.methodLinkNest (mY M).cls idx (mY M') host ∈ ntbl) (hro : rmOK M M' cu su = true) (hC : CD G M' As S I R L v S' I' R' L') (hn : As.length = n) (hcat : (rest.map fun v => v.category).sum ≤ 8) (hd : decode (mC M) pc = .ok (.invokestatic idx, 3)) {st : List Value} (hst : st = As.reverse ++ rest)
    (k : AW G X (cu + mCe M') (su + mSl M') S' I' R' L' (pc + 3) ls (v.toList ++ rest)) : AW G X cu su S I R L pc ls st := by
  subst hst
  obtain ⟨p, e, Rm, s, m, args, below, meth, c, Z⟩ := X
  obtain ⟨hx, hb, hml, hown, hts, hr, hlk0, hnm, hrm, hG⟩ := hX
  intro H locs la h1 h2 h3 h4
  refine W.sized (z := gN G + S.length) (fun T hT Y => by subst hT; exact size_eq hG h1 h2 h3 Y) fun hz => ?_
  obtain ⟨r1, r2, r3, r4⟩ := rmOK_spec hro
  subst hrm
  have cw : va_CN (mRm M) s args (mY M).cls idx (mY M') host (mC M') (mL M') (mT M') (wsM M') (mRm M') (mCe M') (mSl M') n :=
    va_cnB n hts (wsM_good hm.1.1) rfl rfl rfl (hG.2.1 _ hlk) (hts _ hm.1.2.1) hm.1.2.2 ⟨r1, r2⟩
  exact aw_back (aa := (As.map (rv G)).toArray) (by rfl) h1 h3 h4 hC.1 (va_runSN (As := As.map (rv G)) (rest := rest.map (rv G)) ⟨hx, hb, hml, hown, hts⟩ hC.2 ⟨cw, hts _ hm.2, trivial⟩ ⟨CPre.blind, fun U hU hW => aw_pre hG hz h2 h3 hU hW⟩ rfl (by rw [List.length_map]; exact hn) (h4.1.trans hml) (by simp) (lv_room (by rw [rv_cats]; exact hcat)) hd ⟨r3, r4⟩) k
theorem aw_callI (hX : XOK G X M) (hm : MN M' n) (hlk : Cond.methodLink (mY M).cls idx (mY M') ∈ gtbl) (hro : rmOK M M' cu su = true) (hC : CD G M' (.ref a :: As) S I R L none S' I' R' L') (hn : As.length = n) (hcat : (rest.map fun v => v.category).sum ≤ 8) (hd : decode (mC M) pc = .ok (.invokespecial idx, 3)) {st : List Value} (hst : st = As.reverse ++ .ref a :: rest)
    (k : AW G X (cu + mCe M') (su + mSl M') S' I' R' L' (pc + 3) ls rest) : AW G X cu su S I R L pc ls st := by
  subst hst
  obtain ⟨p, e, Rm, s, m, args, below, meth, c, Z⟩ := X
  obtain ⟨hx, hb, hml, hown, hts, hr, hlk0, hnm, hrm, hG⟩ := hX
  intro H locs la h1 h2 h3 h4
  refine W.sized (z := gN G + S.length) (fun T hT Y => by subst hT; exact size_eq hG h1 h2 h3 Y) fun hz => ?_
  obtain ⟨r1, r2, r3, r4⟩ := rmOK_spec hro
  subst hrm
  have cw : CallB (mRm M) s args (mY M).cls idx (mY M') (mC M') (mL M') none (wsM M') (mRm M') (mCe M') (mSl M') n ∧ (mY M').name = "<init>" ∧ (Cond.instanceMethod (mY M')).before args s = true :=
    ⟨callB_of n hts (wsM_good hm.1.1) (by rw [wsM, hm.2.2.2]) rfl rfl (hts _ hm.1.2.1) (hts _ hlk) hm.1.2.2 ⟨r1, r2⟩, hm.2.1, hts _ hm.2.2.1⟩
  exact aw_back (v := none) (aa := (Value.ref (gN G + a) :: As.map (rv G)).toArray) (by rfl) h1 h3 h4 hC.1 (va_runI (As := As.map (rv G)) (b := gN G + a) (rest := rest.map (rv G)) ⟨hx, hb, hml, hown, hts⟩ hC.2 cw ⟨CPre.blind, fun U hU hW => aw_pre (As := .ref a :: As) hG hz h2 h3 hU hW⟩ rfl (by rw [List.length_map]; exact hn) (h4.1.trans hml) (by simp [rv]) (lv_room (by rw [rv_cats]; exact hcat)) hd ⟨r3, r4⟩) k
theorem aw_callIN (hX : XOK G X M) {host : String} (hm : MN M' n) (hlk : Cond.methodLinkNest (mY M).cls idx (mY M') host ∈ ntbl) (hro : rmOK M M' cu su = true) (hC : CD G M' (.ref a :: As) S I R L none S' I' R' L') (hn : As.length = n) (hcat : (rest.map fun v => v.category).sum ≤ 8) (hd : decode (mC M) pc = .ok (.invokespecial idx, 3)) {st : List Value} (hst : st = As.reverse ++ .ref a :: rest)
    (k : AW G X (cu + mCe M') (su + mSl M') S' I' R' L' (pc + 3) ls rest) : AW G X cu su S I R L pc ls st := by
  subst hst
  obtain ⟨p, e, Rm, s, m, args, below, meth, c, Z⟩ := X
  obtain ⟨hx, hb, hml, hown, hts, hr, hlk0, hnm, hrm, hG⟩ := hX
  intro H locs la h1 h2 h3 h4
  refine W.sized (z := gN G + S.length) (fun T hT Y => by subst hT; exact size_eq hG h1 h2 h3 Y) fun hz => ?_
  obtain ⟨r1, r2, r3, r4⟩ := rmOK_spec hro
  subst hrm
  have cw : va_CN (mRm M) s args (mY M).cls idx (mY M') host (mC M') (mL M') none (wsM M') (mRm M') (mCe M') (mSl M') n :=
    va_cnB n hts (wsM_good hm.1.1) (by rw [wsM, hm.2.2.2]) rfl rfl (hG.2.1 _ hlk) (hts _ hm.1.2.1) hm.1.2.2 ⟨r1, r2⟩
  exact aw_back (v := none) (aa := (Value.ref (gN G + a) :: As.map (rv G)).toArray) (by rfl) h1 h3 h4 hC.1 (va_runIN (As := As.map (rv G)) (b := gN G + a) (rest := rest.map (rv G)) ⟨hx, hb, hml, hown, hts⟩ hC.2 ⟨cw, hm.2.1, hts _ hm.2.2.1⟩ ⟨CPre.blind, fun U hU hW => aw_pre (As := .ref a :: As) hG hz h2 h3 hU hW⟩ rfl (by rw [List.length_map]; exact hn) (h4.1.trans hml) (by simp [rv]) (lv_room (by rw [rv_cats]; exact hcat)) hd ⟨r3, r4⟩) k
end CALL
