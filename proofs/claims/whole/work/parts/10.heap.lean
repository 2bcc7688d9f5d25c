/-! fields, arrays, new cells -/
def FL (own : String) (idx ci j : Nat) : Prop := ci < 8 ∧ j < cNf ci ∧ Cond.fieldLink own idx (cTb ci j).1 (cTb ci j).2.1 (cTb ci j).2.2.1 ∈ gtbl
section HEAPR
variable {G : GP} {X : CX} {M : MI} {cu su : Nat} {S : Shp} {I : Hi} {R : Hr} {L : Hl} {pc : Nat} {ls st : List Value} {idx ci j a n : Nat}
theorem wd_obj (hc : ci < 8) (hs : S[a]? = some (ci, n)) : (wd G S I R L)[a]? = some (gN G + a, .inr (ci, fvs G I R L ci a)) := by
  rw [wd_at hs, ce_obj hc]
theorem aw_getI (hX : XOK G X M) (hd : decode (mC M) pc = .ok (.getfield idx, 3)) (hf : FL (mY M).cls idx ci j) (hk : fkd ci j = 0) (hs : S[a]? = some (ci, n)) (k : AW G X cu su S I R L (pc + 3) ls (.int (I a j) :: st)) : AW G X cu su S I R L pc ls (.ref a :: st) := by
  obtain ⟨p, e, Rm, s, m, args, below, meth, c, Z⟩ := X
  obtain ⟨hx, hb, hml, hown, hts, hr, hlk, hnm, hrm, hG⟩ := hX
  intro H locs la h1 h2 h3 h4
  exact va_get (v := .int (I a j)) hx hb hts (cIn hf.1) hown hG.1 h2 a (wd_obj hf.1 hs) (vwCl_at hf.1) j hf.2.1 (hts _ hf.2.2) (fun _ h => h) (by rw [fvs_at hf.2.1]; simp only [fv, hk]) hd (k H locs la h1 h2 h3 h4)
theorem aw_getL (hX : XOK G X M) (hd : decode (mC M) pc = .ok (.getfield idx, 3)) (hf : FL (mY M).cls idx ci j) (hk : fkd ci j = 1) (hs : S[a]? = some (ci, n)) (k : AW G X cu su S I R L (pc + 3) ls (.long (L a j) :: st)) : AW G X cu su S I R L pc ls (.ref a :: st) := by
  obtain ⟨p, e, Rm, s, m, args, below, meth, c, Z⟩ := X
  obtain ⟨hx, hb, hml, hown, hts, hr, hlk, hnm, hrm, hG⟩ := hX
  intro H locs la h1 h2 h3 h4
  exact va_get (v := .long (L a j)) hx hb hts (cIn hf.1) hown hG.1 h2 a (wd_obj hf.1 hs) (vwCl_at hf.1) j hf.2.1 (hts _ hf.2.2) (fun _ h => h) (by rw [fvs_at hf.2.1]; simp only [fv, hk]) hd (k H locs la h1 h2 h3 h4)
theorem aw_getR (hX : XOK G X M) (hd : decode (mC M) pc = .ok (.getfield idx, 3)) (hf : FL (mY M).cls idx ci j) (hk : fkd ci j = 2) (hs : S[a]? = some (ci, n)) {q : Nat} (hq : R a j = some q) (k : AW G X cu su S I R L (pc + 3) ls (.ref q :: st)) : AW G X cu su S I R L pc ls (.ref a :: st) := by
  obtain ⟨p, e, Rm, s, m, args, below, meth, c, Z⟩ := X
  obtain ⟨hx, hb, hml, hown, hts, hr, hlk, hnm, hrm, hG⟩ := hX
  intro H locs la h1 h2 h3 h4
  exact va_get (v := .ref (gN G + q)) hx hb hts (cIn hf.1) hown hG.1 h2 a (wd_obj hf.1 hs) (vwCl_at hf.1) j hf.2.1 (hts _ hf.2.2) (fun _ h => h) (by rw [fvs_at hf.2.1]; simp only [fv, hk, hq]; rfl) hd (k H locs la h1 h2 h3 h4)
theorem wd_setI {x : Int32} (hc : ci < 8) (hk : fkd ci j = 0) (hs : S[a]? = some (ci, n)) : (wd G S I R L).set a (gN G + a, .inr (ci, (fvs G I R L ci a).set j (.int x))) = wd G S (u2 I a j x) R L := by
  rw [fvs_setI hk, ← wd_set (G := G) (I := I) (R := R) (L := L) (I' := u2 I a j x) hs (fun b hb => u2_row hb) (fun _ _ => rfl) (fun _ _ => rfl), ce_obj hc]
theorem wd_setL {x : Int64} (hc : ci < 8) (hk : fkd ci j = 1) (hs : S[a]? = some (ci, n)) : (wd G S I R L).set a (gN G + a, .inr (ci, (fvs G I R L ci a).set j (.long x))) = wd G S I R (u2 L a j x) := by
  rw [fvs_setL hk, ← wd_set (G := G) (I := I) (R := R) (L := L) (L' := u2 L a j x) hs (fun _ _ => rfl) (fun _ _ => rfl) (fun b hb => u2_row hb), ce_obj hc]
theorem wd_setR {x : Nat} (hc : ci < 8) (hk : fkd ci j = 2) (hs : S[a]? = some (ci, n)) : (wd G S I R L).set a (gN G + a, .inr (ci, (fvs G I R L ci a).set j (.ref (gN G + x)))) = wd G S I (u2 R a j (some x)) L := by
  rw [fvs_setR hk, ← wd_set (G := G) (I := I) (R := R) (L := L) (R' := u2 R a j (some x)) hs (fun _ _ => rfl) (fun b hb => u2_row hb) (fun _ _ => rfl), ce_obj hc]
theorem aw_putI (hX : XOK G X M) {x : Int32} (hd : decode (mC M) pc = .ok (.putfield idx, 3)) (hf : FL (mY M).cls idx ci j) (hk : fkd ci j = 0) (hfin : (cTb ci j).2.2.2 = false) (hn : narrow (cTy ci j) (.int x) = .int x) (hfit : fits (cTy ci j) (.int x) = true) (hs : S[a]? = some (ci, n)) (k : AW G X cu su S (u2 I a j x) R L (pc + 3) ls st) : AW G X cu su S I R L pc ls (.int x :: .ref a :: st) := by
  obtain ⟨p, e, Rm, s, m, args, below, meth, c, Z⟩ := X
  obtain ⟨hx, hb, hml, hown, hts, hr, hlk, hnm, hrm, hG⟩ := hX
  intro H locs la h1 h2 h3 h4
  refine va_put (v := .int x) hx hb hts (cIn hf.1) (cTy ci) (cTy_ok hf.1) (cNm_ok hf.1) hown hG.1 h2 wd_D h3 a (wd_obj hf.1 hs) (vwCl_at hf.1) j hf.2.1 (hts _ hf.2.2) (fun _ h => h) hfin (cTy_ok hf.1 j hf.2.1) hn hfit (by simp [fvs]; exact hf.2.1) hd (fun H1 locs1 g1 _ g3 => k H1 locs1 la h1 ?_ g3 h4)
  rw [wd_setI hf.1 hk hs] at g1
  exact g1
theorem aw_putL (hX : XOK G X M) {x : Int64} (hd : decode (mC M) pc = .ok (.putfield idx, 3)) (hf : FL (mY M).cls idx ci j) (hk : fkd ci j = 1) (hfin : (cTb ci j).2.2.2 = false) (hn : narrow (cTy ci j) (.long x) = .long x) (hfit : fits (cTy ci j) (.long x) = true) (hs : S[a]? = some (ci, n)) (k : AW G X cu su S I R (u2 L a j x) (pc + 3) ls st) : AW G X cu su S I R L pc ls (.long x :: .ref a :: st) := by
  obtain ⟨p, e, Rm, s, m, args, below, meth, c, Z⟩ := X
  obtain ⟨hx, hb, hml, hown, hts, hr, hlk, hnm, hrm, hG⟩ := hX
  intro H locs la h1 h2 h3 h4
  refine va_put (v := .long x) hx hb hts (cIn hf.1) (cTy ci) (cTy_ok hf.1) (cNm_ok hf.1) hown hG.1 h2 wd_D h3 a (wd_obj hf.1 hs) (vwCl_at hf.1) j hf.2.1 (hts _ hf.2.2) (fun _ h => h) hfin (cTy_ok hf.1 j hf.2.1) hn hfit (by simp [fvs]; exact hf.2.1) hd (fun H1 locs1 g1 _ g3 => k H1 locs1 la h1 ?_ g3 h4)
  rw [wd_setL hf.1 hk hs] at g1
  exact g1
theorem aw_putR (hX : XOK G X M) {x : Nat} (hd : decode (mC M) pc = .ok (.putfield idx, 3)) (hf : FL (mY M).cls idx ci j) (hk : fkd ci j = 2) (hfin : (cTb ci j).2.2.2 = false) (hn : ∀ y, narrow (cTy ci j) (.ref y) = .ref y) (hfit : ∀ y, fits (cTy ci j) (.ref y) = true) (hs : S[a]? = some (ci, n)) (k : AW G X cu su S I (u2 R a j (some x)) L (pc + 3) ls st) : AW G X cu su S I R L pc ls (.ref x :: .ref a :: st) := by
  obtain ⟨p, e, Rm, s, m, args, below, meth, c, Z⟩ := X
  obtain ⟨hx, hb, hml, hown, hts, hr, hlk, hnm, hrm, hG⟩ := hX
  intro H locs la h1 h2 h3 h4
  refine va_put (v := .ref (gN G + x)) hx hb hts (cIn hf.1) (cTy ci) (cTy_ok hf.1) (cNm_ok hf.1) hown hG.1 h2 wd_D h3 a (wd_obj hf.1 hs) (vwCl_at hf.1) j hf.2.1 (hts _ hf.2.2) (fun _ h => h) hfin (cTy_ok hf.1 j hf.2.1) (hn _) (hfit _) (by simp [fvs]; exact hf.2.1) hd (fun H1 locs1 g1 _ g3 => k H1 locs1 la h1 ?_ g3 h4)
  rw [wd_setR hf.1 hk hs] at g1
  exact g1
theorem aw_putRF (hX : XOK G X M) {x : Nat} (hd : decode (mC M) pc = .ok (.putfield idx, 3)) (hf : FL (mY M).cls idx ci j) (hk : fkd ci j = 2) (hfin : (cTb ci j).2.2.2 = true) (hin : (mY M).name = "<init>") (hdc : (cTb ci j).1 = (mY M).cls) (hn : ∀ y, narrow (cTy ci j) (.ref y) = .ref y) (hfit : ∀ y, fits (cTy ci j) (.ref y) = true) (hs : S[a]? = some (ci, n)) (k : AW G X cu su S I (u2 R a j (some x)) L (pc + 3) ls st) : AW G X cu su S I R L pc ls (.ref x :: .ref a :: st) := by
  obtain ⟨p, e, Rm, s, m, args, below, meth, c, Z⟩ := X
  obtain ⟨hx, hb, hml, hown, hts, hr, hlk, hnm, hrm, hG⟩ := hX
  intro H locs la h1 h2 h3 h4
  refine va_putF (v := .ref (gN G + x)) hx hb hts (cIn hf.1) (cTy ci) (cTy_ok hf.1) (cNm_ok hf.1) hown hG.1 h2 wd_D h3 a (wd_obj hf.1 hs) (vwCl_at hf.1) j hf.2.1 (hts _ hf.2.2) (fun _ h => h) hfin (hnm hin) hdc (cTy_ok hf.1 j hf.2.1) (hn _) (hfit _) (by simp [fvs]; exact hf.2.1) hd (fun H1 locs1 g1 _ g3 => k H1 locs1 la h1 ?_ g3 h4)
  rw [wd_setR hf.1 hk hs] at g1
  exact g1
theorem wd_row {sh : Nat × Nat} (hk : sh = (8, n) ∨ sh = (9, n)) {f : Nat → Int32} (hs : S[a]? = some sh) : (wd G S I R L).set a (gN G + a, ce G (rs I a f) R L a sh) = wd G S (rs I a f) R L :=
  wd_set (G := G) (I := I) (R := R) (L := L) (I' := rs I a f) hs (fun b hb => rs_row hb) (fun _ _ => rfl) (fun _ _ => rfl)
theorem u2_rs {I : Hi} {a i : Nat} {x : Int32} : rs I a (upd (I a) i x) = u2 I a i x := by
  funext b c
  by_cases hb : b = a
  · subst hb
    by_cases hc : c = i
    · subst hc; rw [rs_s, u2_s, pk_us]
    · rw [rs_s, u2_c hc, pk_un hc]
  · rw [rs_r hb, u2_r hb]
theorem aw_iaload (hX : XOK G X M) {i : Int32} (hd : decode (mC M) pc = .ok (.iaload, 1)) (hs : S[a]? = some (8, n)) (hin : vp_in i n) (k : AW G X cu su S I R L (pc + 1) ls (.int (I a i.toNatClampNeg) :: st)) : AW G X cu su S I R L pc ls (.int i :: .ref a :: st) := by
  obtain ⟨p, e, Rm, s, m, args, below, meth, c, Z⟩ := X
  obtain ⟨hx, hb, hml, hown, hts, hr, hlk, hnm, hrm, hG⟩ := hX
  intro H locs la h1 h2 h3 h4
  exact va_iald hx hb hG.1 h2 a 0 (wd_at hs) rfl hin hd (k H locs la h1 h2 h3 h4)
theorem aw_baload (hX : XOK G X M) {i : Int32} (hd : decode (mC M) pc = .ok (.baload, 1)) (hs : S[a]? = some (9, n)) (hin : vp_in i n) (k : AW G X cu su S I R L (pc + 1) ls (.int (I a i.toNatClampNeg) :: st)) : AW G X cu su S I R L pc ls (.int i :: .ref a :: st) := by
  obtain ⟨p, e, Rm, s, m, args, below, meth, c, Z⟩ := X
  obtain ⟨hx, hb, hml, hown, hts, hr, hlk, hnm, hrm, hG⟩ := hX
  intro H locs la h1 h2 h3 h4
  exact va_zald hx hb hG.1 h2 a 1 (wd_at hs) rfl hin hd (k H locs la h1 h2 h3 h4)
theorem aw_saload (hX : XOK G X M) {i : Int32} {z : UInt32} (hd : decode (mC M) pc = .ok (.iaload, 1)) (hin : vp_in i (gL G)) (k : AW G X cu su S I R L (pc + 1) ls (.int (gX G i.toNatClampNeg) :: st)) : AW G X cu su S I R L pc ls (.int i :: .float z :: st) := by
  obtain ⟨p, e, Rm, s, m, args, below, meth, c, Z⟩ := X
  obtain ⟨hx, hb, hml, hown, hts, hr, hlk, hnm, hrm, hG⟩ := hX
  intro H locs la h1 h2 h3 h4
  obtain ⟨_, _, _, hXs, hlt, hge⟩ := hG
  exact va_sld hx hb hXs (Nat.lt_of_lt_of_le hlt hge) (by show ¬ (gN G ≤ gB G); omega) h3 hin hd (k H locs la h1 h2 h3 h4)
theorem aw_slen (hX : XOK G X M) {z : UInt32} (hd : decode (mC M) pc = .ok (.arraylength, 1)) (k : AW G X cu su S I R L (pc + 1) ls (.int (nI (gL G)) :: st)) : AW G X cu su S I R L pc ls (.float z :: st) := by
  obtain ⟨p, e, Rm, s, m, args, below, meth, c, Z⟩ := X
  obtain ⟨hx, hb, hml, hown, hts, hr, hlk, hnm, hrm, hG⟩ := hX
  intro H locs la h1 h2 h3 h4
  obtain ⟨_, _, _, hXs, hlt, hge⟩ := hG
  exact va_slen hx hb hXs (Nat.lt_of_lt_of_le hlt hge) (by show ¬ (gN G ≤ gB G); omega) h3 hd (k H locs la h1 h2 h3 h4)
theorem aw_aaload (hX : XOK G X M) {i : Int32} {q : Nat} (hd : decode (mC M) pc = .ok (.aaload, 1)) (hs : S[a]? = some (10, n)) (hin : vp_in i n) (hq : R a i.toNatClampNeg = some q) (k : AW G X cu su S I R L (pc + 1) ls (.ref q :: st)) : AW G X cu su S I R L pc ls (.int i :: .ref a :: st) := by
  obtain ⟨p, e, Rm, s, m, args, below, meth, c, Z⟩ := X
  obtain ⟨hx, hb, hml, hown, hts, hr, hlk, hnm, hrm, hG⟩ := hX
  intro H locs la h1 h2 h3 h4
  refine va_aldq (C := RX3) hx hb hG.1 h2 a 2 (wd_at hs) rfl hin hd ?_
  show W p (gl G) e Rm s m args below meth c H locs cu su Z (F0 m (pc + 1) la (va_rf ((R a i.toNatClampNeg).map (gN G + ·)) :: st.map (rv G)))
  rw [hq]
  exact k H locs la h1 h2 h3 h4
theorem aw_alen (hX : XOK G X M) (hd : decode (mC M) pc = .ok (.arraylength, 1)) (hs : S[a]? = some (8, n)) (k : AW G X cu su S I R L (pc + 1) ls (.int (nI n) :: st)) : AW G X cu su S I R L pc ls (.ref a :: st) := by
  obtain ⟨p, e, Rm, s, m, args, below, meth, c, Z⟩ := X
  obtain ⟨hx, hb, hml, hown, hts, hr, hlk, hnm, hrm, hG⟩ := hX
  intro H locs la h1 h2 h3 h4
  exact va_alen (v := nI n) hx hb hG.1 h2 a 0 (wd_at hs) rfl rfl hd (k H locs la h1 h2 h3 h4)
theorem aw_iastore (hX : XOK G X M) {i x : Int32} (hd : decode (mC M) pc = .ok (.iastore, 1)) (hs : S[a]? = some (8, n)) (hin : vp_in i n) (k : AW G X cu su S (u2 I a i.toNatClampNeg x) R L (pc + 1) ls st) : AW G X cu su S I R L pc ls (.int x :: .int i :: .ref a :: st) := by
  obtain ⟨p, e, Rm, s, m, args, below, meth, c, Z⟩ := X
  obtain ⟨hx, hb, hml, hown, hts, hr, hlk, hnm, hrm, hG⟩ := hX
  intro H locs la h1 h2 h3 h4
  refine va_iast hx hb hG.1 h2 wd_D h3 a 0 (wd_at hs) rfl hin hd (fun H1 locs1 g1 _ g3 => k H1 locs1 la h1 ?_ g3 h4)
  rw [← u2_rs, ← wd_row (Or.inl rfl) hs, ce_int, rs_sr]
  exact g1
theorem aw_bastore (hX : XOK G X M) {i x : Int32} (hd : decode (mC M) pc = .ok (.bastore, 1)) (hs : S[a]? = some (9, n)) (hin : vp_in i n) (hx2 : vp_nar .boolean x = x) (k : AW G X cu su S (u2 I a i.toNatClampNeg x) R L (pc + 1) ls st) : AW G X cu su S I R L pc ls (.int x :: .int i :: .ref a :: st) := by
  obtain ⟨p, e, Rm, s, m, args, below, meth, c, Z⟩ := X
  obtain ⟨hx, hb, hml, hown, hts, hr, hlk, hnm, hrm, hG⟩ := hX
  intro H locs la h1 h2 h3 h4
  refine va_zast hx hb hG.1 h2 wd_D h3 a 1 (wd_at hs) rfl hin hd (fun H1 locs1 g1 _ g3 => k H1 locs1 la h1 ?_ g3 h4)
  rw [hx2] at g1
  rw [← u2_rs, ← wd_row (Or.inr rfl) hs, ce_bool, rs_sr]
  exact g1
theorem u2_rsR {R : Hr} {a i x : Nat} {N : Nat} : (fun j => ((u2 R a i (some x)) a j).map (N + ·)) = va_up (fun j => (R a j).map (N + ·)) i (some (N + x)) := by
  funext j
  by_cases hj : j = i
  · subst hj; simp [u2, va_up]
  · simp [u2, va_up, hj]
theorem aw_aastore (hX : XOK G X M) {i : Int32} {x m0 : Nat} (hd : decode (mC M) pc = .ok (.aastore, 1)) (hs : S[a]? = some (10, n)) (hx2 : S[x]? = some (3, m0)) (hin : vp_in i n) (k : AW G X cu su S I (u2 R a i.toNatClampNeg (some x)) L (pc + 1) ls st) : AW G X cu su S I R L pc ls (.ref x :: .int i :: .ref a :: st) := by
  obtain ⟨p, e, Rm, s, m, args, below, meth, c, Z⟩ := X
  obtain ⟨hx, hb, hml, hown, hts, hr, hlk, hnm, hrm, hG⟩ := hX
  intro H locs la h1 h2 h3 h4
  refine va_astq (r := (RX3, TX3, 6)) hx hb hG.1 h2 wd_D h3 a 2 x 3 (wd_at hs) rfl (wd_obj (by decide) hx2) rfl hin hd (fun H1 locs1 g1 _ g3 => k H1 locs1 la h1 ?_ g3 h4)
  rw [← wd_set (G := G) (I := I) (R := R) (L := L) (R' := u2 R a i.toNatClampNeg (some x)) hs (fun _ _ => rfl) (fun b hb => u2_row hb) (fun _ _ => rfl), ce_ref, u2_rsR]
  exact g1
theorem aw_copy (hX : XOK G X M) {b n0 n1 : Nat} {sp dp cn : Int32} (hd : decode (mC M) pc = .ok (.invokestatic idx, 3)) (hl : Cond.methodLink (mY M).cls idx arraycopyName ∈ gtbl) (hna : Cond.native arraycopyName ∈ gtbl) (hst : Cond.static arraycopyName ∈ gtbl) (hin : Cond.initialized "java/lang/System" ∈ gtbl) (hs0 : S[b]? = some (8, n0)) (hs1 : S[a]? = some (8, n1))
    (g1 : ¬ sp < 0) (g2 : ¬ dp < 0) (g3 : ¬ cn < 0) (g4 : sp.toNatClampNeg + cn.toNatClampNeg ≤ n0) (g5 : dp.toNatClampNeg + cn.toNatClampNeg ≤ n1) (hfr : 1 ≤ mFr M) (hlo : (st.map fun v => v.category).sum + (nativeFrameWords "java/lang/System" "arraycopy" 5 + 11) ≤ mLo M)
    (k : AW G X cu su S (rs I a (va_cpy (I b) (I a) sp.toNatClampNeg dp.toNatClampNeg cn.toNatClampNeg)) R L (pc + 3) ls st) : AW G X cu su S I R L pc ls (.int cn :: .int dp :: .ref a :: .int sp :: .ref b :: st) := by
  obtain ⟨p, e, Rm, s, m, args, below, meth, c, Z⟩ := X
  obtain ⟨hx, hb, hml, hown, hts, hr, hlk, hnm, hrm, hG⟩ := hX
  intro H locs la h1 h2 h3 h4
  refine va_copyi hx hb h4.1.symm hown (hts _ hl) (hts _ hna) (hts _ hst) (hts _ hin) hG.1 h2 wd_D h3 b a 0 0 (wd_at hs0) (wd_at hs1) rfl rfl rfl g1 g2 g3 g4 g5 (fun _ _ => rfl) (by rw [hrm]; exact hfr) (by rw [hrm, rv_cats]; exact hlo) hd (fun H1 locs1 e1 _ e3 => k H1 locs1 la h1 ?_ e3 h4)
  rw [← wd_row (Or.inl rfl) hs1, ce_int, rs_sr]
  exact e1
end HEAPR
