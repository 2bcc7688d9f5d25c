/-! new cells; the heap's size -/
section NEWR
variable {G : GP} {X : CX} {M : MI} {cu su : Nat} {S : Shp} {I : Hi} {R : Hr} {L : Hl} {pc : Nat} {ls st : List Value} {idx ci j a n : Nat}
theorem size_le {H : Heap} (h : va_P (gD G) vwCl (wd G S I R L) H) (hz : gN G ≤ H.size) : gN G + S.length ≤ H.size := by
  cases hs : S.length with
  | zero => exact hz
  | succ n =>
    have hn : n < S.length := by omega
    have h1 := (h n _ (wd_at (List.getElem?_eq_getElem hn))).lt
    have h1 : gN G + n < H.size := h1
    omega
/-- the heap's size, out of how many cells may be new -/
theorem size_eq {p : Program} {e : Env} {Rm : Room} {s : State} {m : MethodId} {args : Array Value} {below : List Frame} {meth : Method} {c : Code} {T : State} {locs locs' : List Loc} (hG : GOK G s) (hc : s.heap.size + cu = gN G + S.length) (hP : va_P (gD G) vwCl (wd G S I R L) T.heap) (hS : va_S (gA G) s.heap T.heap locs') (Y : Stand p (gl G) e Rm s m args below meth c T locs cu su) : T.heap.size = gN G + S.length := by
  have h1 := size_le hP (Nat.le_trans hG.2.2.2.2.2 hS.1)
  have h2 := Y.heapSize
  omega
theorem rs_lt {α : Type} {f : Nat → Nat → α} {k : Nat} {g : Nat → α} : ∀ b, b < k → rs f k g b = f b := fun _ hb => rs_row (Nat.ne_of_lt hb)
theorem W.sized {p : Program} {l : Launch} {e : Env} {Rm : Room} {s : State} {m : MethodId} {args : Array Value} {below : List Frame} {meth : Method} {c : Code} {H : Heap} {locs : List Loc} {Z : State → Prop} {g : JFrame} {z : Nat} (hz : ∀ T : State, T.heap = H → Stand p l e Rm s m args below meth c T locs cu su → H.size = z) (k : H.size = z → W p l e Rm s m args below meth c H locs cu su Z g) : W p l e Rm s m args below meth c H locs cu su Z g := fun T hT Y => k (hz T hT Y) T hT Y
theorem aw_newI (hX : XOK G X M) {x : Int32} (N : Nat) (hd : decode (mC M) pc = .ok (.newarray .int, 2)) (hac : Cond.arrayClass .int ∈ gtbl) (hn : ¬ x < 0) (hN : x.toNatClampNeg = N) (hby : N * componentBytes .int ≤ 536870912) (hc : cu + 1 ≤ mCe M) (hsl : su + N ≤ mSl M) (k : AW G X (cu + 1) (su + N) (S ++ [(8, N)]) (rs I S.length (fun _ => 0)) R L (pc + 2) ls (.ref S.length :: st)) : AW G X cu su S I R L pc ls (.int x :: st) := by
  obtain ⟨p, e, Rm, s, m, args, below, meth, c, Z⟩ := X
  obtain ⟨hx, hb, hml, hown, hts, hr, hlk, hnm, hrm, hG⟩ := hX
  intro H locs la h1 h2 h3 h4
  refine W.sized (z := gN G + S.length) (fun T hT Y => by subst hT; exact size_eq hG h1 h2 h3 Y) fun hz => ?_
  refine va_newaK (atype := .int) hx hb (hts _ hac) rfl hd rfl hn hN hby (by rw [hrm]; exact hc) (by rw [hrm]; exact hsl) hz fun H1 cA e1 z1 o1 hAr hNm => ?_
  have hcA : cA = gI G := by
    have h5 : s.vm.findClass _ = some (gI G) := (hG.1.2 0 _ rfl).2
    exact Option.some.inj (hNm.symm.trans h5)
  subst hcA
  have hk : ∀ (q : Nat), q < H.size → H1[q]? = H[q]? := fun q hq => o1 q (by omega)
  refine k H1 locs la (by simp; omega) ?_ ⟨by have := h3.1; omega, fun q g1 g2 => (hk q (Nat.lt_of_lt_of_le g1 h3.1)).trans (h3.2.1 q g1 g2), h3.2.2⟩ h4
  rw [wd_push rs_lt (fun _ _ => rfl) (fun _ _ => rfl), ce_int, rs_sr]
  refine (h2.kept fun i q hq => hk q.1 ((h2 i q hq).lt)).app fun i q hq => ?_
  have hi : i < 1 := (List.getElem?_eq_some_iff.mp hq).1
  rw [show i = 0 by omega] at hq
  cases hq
  exact e1
theorem aw_newZ (hX : XOK G X M) {x : Int32} (N : Nat) (hd : decode (mC M) pc = .ok (.newarray .boolean, 2)) (hac : Cond.arrayClass .boolean ∈ gtbl) (hn : ¬ x < 0) (hN : x.toNatClampNeg = N) (hby : N * componentBytes .boolean ≤ 536870912) (hc : cu + 1 ≤ mCe M) (hsl : su + N ≤ mSl M) (k : AW G X (cu + 1) (su + N) (S ++ [(9, N)]) (rs I S.length (fun _ => 0)) R L (pc + 2) ls (.ref S.length :: st)) : AW G X cu su S I R L pc ls (.int x :: st) := by
  obtain ⟨p, e, Rm, s, m, args, below, meth, c, Z⟩ := X
  obtain ⟨hx, hb, hml, hown, hts, hr, hlk, hnm, hrm, hG⟩ := hX
  intro H locs la h1 h2 h3 h4
  refine W.sized (z := gN G + S.length) (fun T hT Y => by subst hT; exact size_eq hG h1 h2 h3 Y) fun hz => ?_
  refine va_newaK (atype := .boolean) hx hb (hts _ hac) rfl hd rfl hn hN hby (by rw [hrm]; exact hc) (by rw [hrm]; exact hsl) hz fun H1 cA e1 z1 o1 hAr hNm => ?_
  have hcA : cA = gZ G := by
    have h5 : s.vm.findClass _ = some (gZ G) := (hG.1.2 1 _ rfl).2
    exact Option.some.inj (hNm.symm.trans h5)
  subst hcA
  have hk : ∀ (q : Nat), q < H.size → H1[q]? = H[q]? := fun q hq => o1 q (by omega)
  refine k H1 locs la (by simp; omega) ?_ ⟨by have := h3.1; omega, fun q g1 g2 => (hk q (Nat.lt_of_lt_of_le g1 h3.1)).trans (h3.2.1 q g1 g2), h3.2.2⟩ h4
  rw [wd_push rs_lt (fun _ _ => rfl) (fun _ _ => rfl), ce_bool, rs_sr]
  refine (h2.kept fun i q hq => hk q.1 ((h2 i q hq).lt)).app fun i q hq => ?_
  have hi : i < 1 := (List.getElem?_eq_some_iff.mp hq).1
  rw [show i = 0 by omega] at hq
  cases hq
  exact e1
theorem aw_newQ (hX : XOK G X M) {x : Int32} (N : Nat) (hd : decode (mC M) pc = .ok (.anewarray idx, 3)) (hcl : Cond.classLink (mY M).cls idx RX3 ∈ gtbl) (hn : ¬ x < 0) (hN : x.toNatClampNeg = N) (hby : N * 4 ≤ 536870912) (hc : cu + 1 ≤ mCe M) (hsl : su + N ≤ mSl M) (k : AW G X (cu + 1) (su + N) (S ++ [(10, N)]) I (rs R S.length (fun _ => none)) L (pc + 3) ls (.ref S.length :: st)) : AW G X cu su S I R L pc ls (.int x :: st) := by
  obtain ⟨p, e, Rm, s, m, args, below, meth, c, Z⟩ := X
  obtain ⟨hx, hb, hml, hown, hts, hr, hlk, hnm, hrm, hG⟩ := hX
  intro H locs la h1 h2 h3 h4
  subst hN
  refine W.sized (z := gN G + S.length) (fun T hT Y => by subst hT; exact size_eq hG h1 h2 h3 Y) fun hz => ?_
  refine W.anew hx hb hown (hts _ hcl) (va_AO.use hG.2.2.1) rfl hd rfl hn hby (by rw [hrm]; exact hc) (by rw [hrm]; exact hsl) fun cA kA comp f1 f2 f3 f4 => ?_
  have hcA : cA = gQ G := by
    obtain ⟨_, _, _, _, _, h5⟩ := (hG.1.2 2 _ rfl).2
    exact Option.some.inj (f1.symm.trans h5)
  subst hcA
  generalize hH1 : H.push ({ cls := gQ G, slots := Array.replicate x.toNatClampNeg .null, vm := .none } : Cell) = H1
  have z1 : H1.size = H.size + 1 := by rw [← hH1, Array.size_push]
  have e1 : H1[H.size]? = some (arrV (gQ G) x.toNatClampNeg (fun _ => .null)) := by rw [← hH1, Array.getElem?_push_size, ← arrV_new]
  have hk : ∀ q : Nat, q < H.size → H1[q]? = H[q]? := fun q hq => by rw [← hH1, Array.getElem?_push, if_neg (Nat.ne_of_lt hq)]
  rw [hz] at e1 ⊢
  refine k H1 locs la (by simp; omega) ?_ ⟨by have := h3.1; omega, fun q g1 g2 => (hk q (Nat.lt_of_lt_of_le g1 h3.1)).trans (h3.2.1 q g1 g2), h3.2.2⟩ h4
  rw [wd_push (fun _ _ => rfl) rs_lt (fun _ _ => rfl), ce_ref, rs_sr]
  refine (h2.kept fun i q hq => hk q.1 ((h2 i q hq).lt)).app fun i q hq => ?_
  have hi : i < 1 := (List.getElem?_eq_some_iff.mp hq).1
  rw [show i = 0 by omega] at hq
  cases hq
  exact e1
theorem dv_all : ((List.range 8).all fun ci => (List.range (cNf ci)).all fun j => (fkd ci j == 0 && defaultValue (cTy ci j) == .int 0) || (fkd ci j == 1 && defaultValue (cTy ci j) == .long 0) || (fkd ci j == 2 && defaultValue (cTy ci j) == .null)) = true := by decide +kernel
theorem dv_ok (hc : ci < 8) (hj : j < cNf ci) : defaultValue (cTy ci j) = fv G (rs I a (fun _ => 0)) (rs R a (fun _ => none)) (rs L a (fun _ => 0)) ci a j := by
  have h1 := List.all_eq_true.mp (List.all_eq_true.mp dv_all ci (List.mem_range.mpr hc)) j (List.mem_range.mpr hj)
  simp only [Bool.or_eq_true, Bool.and_eq_true, beq_iff_eq] at h1
  rcases h1 with (⟨h1, h2⟩ | ⟨h1, h2⟩) | ⟨h1, h2⟩
  · rw [h2]; simp only [fv, h1, rs_s]
  · rw [h2]; simp only [fv, h1, rs_s]
  · rw [h2]; simp only [fv, h1, rs_s]; rfl
theorem aw_new (hX : XOK G X M) (ci : Nat) (hd : decode (mC M) pc = .ok (.new idx, 3)) (hci : ci < 8) (hcl : Cond.classLink (mY M).cls idx (cNm ci) ∈ gtbl) (hins : Cond.instantiable (cNm ci) (cNf ci) ∈ gtbl) (hini : Cond.initialized (cNm ci) ∈ gtbl) (hc : cu + 1 ≤ mCe M) (hsl : su + cNf ci ≤ mSl M) (k : AW G X (cu + 1) (su + cNf ci) (S ++ [(ci, cNf ci)]) (rs I S.length (fun _ => 0)) (rs R S.length (fun _ => none)) (rs L S.length (fun _ => 0)) (pc + 3) ls (.ref S.length :: st)) : AW G X cu su S I R L pc ls st := by
  obtain ⟨p, e, Rm, s, m, args, below, meth, c, Z⟩ := X
  obtain ⟨hx, hb, hml, hown, hts, hr, hlk, hnm, hrm, hG⟩ := hX
  intro H locs la h1 h2 h3 h4
  refine W.sized (z := gN G + S.length) (fun T hT Y => by subst hT; exact size_eq hG h1 h2 h3 Y) fun hz => ?_
  have hKn := hG.1.1 ci _ (vwCl_at hci)
  refine W.newcK hx hb hown (hts _ hcl) (hts _ hins) (hts _ hini) rfl hd (by rw [hrm]; exact hc) (by rw [hrm]; exact hsl) hKn.2.1 hz fun H1 kC hkC e1 z1 o1 => ?_
  have hk : ∀ (q : Nat), q < H.size → H1[q]? = H[q]? := fun q hq => o1 q (by omega)
  refine k H1 locs la (by simp; omega) ?_ ⟨by have := h3.1; omega, fun q g1 g2 => (hk q (Nat.lt_of_lt_of_le g1 h3.1)).trans (h3.2.1 q g1 g2), h3.2.2⟩ h4
  rw [wd_push rs_lt rs_lt rs_lt, ce_obj hci]
  refine (h2.kept fun i q hq => hk q.1 ((h2 i q hq).lt)).app fun i q hq => ?_
  have hi : i < 1 := (List.getElem?_eq_some_iff.mp hq).1
  rw [show i = 0 by omega] at hq
  cases hq
  refine ⟨_, vwCl_at hci, (u_born (cTy ci) hts (cIn hci) hKn hkC e1 (cTy_ok hci)).to fun j hj => ?_⟩
  rw [vp_V, List.getD_eq_getElem?_getD, fvs_at hj]
  exact dv_ok hci hj
theorem aw_objInit (hX : XOK G X M) (hd : decode (mC M) pc = .ok (.invokespecial idx, 3)) (hl : Cond.methodLink (mY M).cls idx objectInit ∈ gtbl) (hin : Cond.instanceMethod objectInit ∈ gtbl) (hco : Cond.code objectInit ⟨#[0xb1]⟩ 1 none ∈ gtbl) (hfr : 1 ≤ mFr M) (hlo : (st.map fun v => v.category).sum + 12 ≤ mLo M) (k : AW G X cu su S I R L (pc + 3) ls st) : AW G X cu su S I R L pc ls (.ref a :: st) := by
  obtain ⟨p, e, Rm, s, m, args, below, meth, c, Z⟩ := X
  obtain ⟨hx, hb, hml, hown, hts, hr, hlk, hnm, hrm, hG⟩ := hX
  intro H locs la h1 h2 h3 h4
  exact W.objInit hx hb hown (hts _ hl) (hts _ hin) (hts _ hco) rfl h4.1 rfl hd (by rw [hrm]; exact hfr) (by rw [hrm]; show 2 * 0 + _ + 12 ≤ _; rw [rv_cats, Nat.mul_zero, Nat.zero_add]; exact hlo) (k H locs la h1 h2 h3 h4)
end NEWR
