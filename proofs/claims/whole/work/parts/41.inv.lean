/-! what holds between two calls: the class's cells and the model's -/
def CtI (I : Hi) (c lc gc sc fc ln : Nat) (lv gv tv mv rw_ : Nat → Nat) : Prop :=
  (I c 5 = nI lc ∧ I 77 0 = nI lc ∧ lc ≤ 5) ∧ (I c 6 = nI gc ∧ I 77 2 = nI gc ∧ gc ≤ 6) ∧ (I c 7 = nI sc ∧ I 77 4 = nI sc ∧ sc ≤ 4) ∧ (I c 8 = nI fc ∧ I 77 6 = nI fc ∧ fc ≤ 3) ∧ (I c 9 = nI ln ∧ I 77 9 = nI ln ∧ 1 ≤ ln ∧ ln ≤ 9) ∧
  (∀ j, j < lc → I (c + 1) j = nI (lv j) ∧ I 78 j = nI (lv j) ∧ lv j < 64) ∧ (∀ j, j < gc → I (c + 2) j = nI (gv j) ∧ I 79 j = nI (gv j) ∧ gv j < 64) ∧
  (∀ j, j < 6 * sc → I (c + 3) j = nI (tv j) ∧ I 80 j = nI (tv j) ∧ tv j < 6) ∧ (∀ j, j < fc → I (c + 4) j = nI (mv j) ∧ I 81 j = nI (mv j) ∧ 2 ≤ mv j ∧ mv j ≤ 12) ∧ (∀ j, j < fc → I (c + 5) j = nI (rw_ j) ∧ I 82 j = nI (rw_ j) ∧ rw_ j < mv j)
def KC (c a b : Nat) : Prop := (c ≤ a ∧ a ≤ c + 5) ∨ (a = 77 ∧ (b = 0 ∨ b = 2 ∨ b = 4 ∨ b = 6 ∨ b = 9)) ∨ (78 ≤ a ∧ a ≤ 82)
theorem CtI.fr {I I' : Hi} {c lc gc sc fc ln : Nat} {lv gv tv mv rw_ : Nat → Nat} (h : CtI I c lc gc sc fc ln lv gv tv mv rw_) (hf : ∀ a b, KC c a b → I' a b = I a b) : CtI I' c lc gc sc fc ln lv gv tv mv rw_ := by
  obtain ⟨⟨a1, a2, a3⟩, ⟨b1, b2, b3⟩, ⟨c1, c2, c3⟩, ⟨d1, d2, d3⟩, ⟨e1, e2, e3⟩, h1, h2, h3, h4, h5⟩ := h
  have k : ∀ a b, KC c a b → I' a b = I a b := hf
  refine ⟨⟨?_, ?_, a3⟩, ⟨?_, ?_, b3⟩, ⟨?_, ?_, c3⟩, ⟨?_, ?_, d3⟩, ⟨?_, ?_, e3⟩, fun j hj => ?_, fun j hj => ?_, fun j hj => ?_, fun j hj => ?_, fun j hj => ?_⟩
  · rw [k _ _ (by unfold KC; omega)]; exact a1
  · rw [k _ _ (by unfold KC; omega)]; exact a2
  · rw [k _ _ (by unfold KC; omega)]; exact b1
  · rw [k _ _ (by unfold KC; omega)]; exact b2
  · rw [k _ _ (by unfold KC; omega)]; exact c1
  · rw [k _ _ (by unfold KC; omega)]; exact c2
  · rw [k _ _ (by unfold KC; omega)]; exact d1
  · rw [k _ _ (by unfold KC; omega)]; exact d2
  · rw [k _ _ (by unfold KC; omega)]; exact e1
  · rw [k _ _ (by unfold KC; omega)]; exact e2
  · rw [k (c + 1) j (by unfold KC; omega), k 78 j (by unfold KC; omega)]; exact h1 j hj
  · rw [k (c + 2) j (by unfold KC; omega), k 79 j (by unfold KC; omega)]; exact h2 j hj
  · rw [k (c + 3) j (by unfold KC; omega), k 80 j (by unfold KC; omega)]; exact h3 j hj
  · rw [k (c + 4) j (by unfold KC; omega), k 81 j (by unfold KC; omega)]; exact h4 j hj
  · rw [k (c + 5) j (by unfold KC; omega), k 82 j (by unfold KC; omega)]; exact h5 j hj
/-- a Now (class) and a stretch of 21 (model): where, till, rounds -/
def NwI (I : Hi) (lc gc n a o mi lf pi : Nat) (wh ti : Nat → Nat) : Prop :=
  (I n 0 = nI mi ∧ I a o = nI mi ∧ mi ≤ 999) ∧ (I n 1 = nI lf ∧ I a (o + 1) = nI lf ∧ (lf < lc ∨ lf = 0)) ∧ (I n 2 = nI pi ∧ I a (o + 2) = nI pi ∧ pi ≤ 999) ∧
  ∀ g, g < 6 → (I (n + 1) g = nI (wh g) ∧ I a (o + 3 + g) = nI (wh g) ∧ wh g ≤ 3 ∧ (gc ≤ g → wh g = 0)) ∧ I (n + 3) g = I a (o + 15 + g) ∧ I a (o + 9 + g) = nI (ti g) ∧ (wh g = 2 → 1 ≤ ti g ∧ ti g ≤ 9 ∧ I (n + 2) g = nI (mi + ti g)) ∧ (wh g ≠ 2 → ti g = 0)
def NwE (I : Hi) (lc gc n a o : Nat) : Prop := ∃ (mi lf pi : Nat) (wh ti : Nat → Nat), NwI I lc gc n a o mi lf pi wh ti
/-- the same moment, moved to other cells -/
theorem NwI.mv {I I' : Hi} {lc gc n a o n' a' o' mi lf pi : Nat} {wh ti : Nat → Nat} (h : NwI I lc gc n a o mi lf pi wh ti) (h0 : ∀ j, j < 3 → I' n' j = I n j) (h1 : ∀ j, j < 6 → I' (n' + 1) j = I (n + 1) j) (h2 : ∀ j, j < 6 → I' (n' + 2) j = I (n + 2) j) (h3 : ∀ j, j < 6 → I' (n' + 3) j = I (n + 3) j) (hm : ∀ j, j < 21 → I' a' (o' + j) = I a (o + j)) : NwI I' lc gc n' a' o' mi lf pi wh ti := by
  obtain ⟨⟨a1, a2, a3⟩, ⟨b1, b2, b3⟩, ⟨c1, c2, c3⟩, hg⟩ := h
  have m0 := hm 0 (by omega)
  rw [Nat.add_zero, Nat.add_zero] at m0
  refine ⟨⟨by rw [h0 0 (by omega)]; exact a1, by rw [m0]; exact a2, a3⟩, ⟨by rw [h0 1 (by omega)]; exact b1, by rw [hm 1 (by omega)]; exact b2, b3⟩, ⟨by rw [h0 2 (by omega)]; exact c1, by rw [hm 2 (by omega)]; exact c2, c3⟩, fun g hgl => ?_⟩
  have e3 := hm (3 + g) (by omega)
  have e9 := hm (9 + g) (by omega)
  have e15 := hm (15 + g) (by omega)
  rw [← Nat.add_assoc, ← Nat.add_assoc] at e3 e9 e15
  rw [h1 g hgl, h2 g hgl, h3 g hgl, e3, e9, e15]
  exact hg g hgl
theorem NwE.mv {I I' : Hi} {lc gc n a o n' a' o' : Nat} (h : NwE I lc gc n a o) (h0 : ∀ j, j < 3 → I' n' j = I n j) (h1 : ∀ j, j < 6 → I' (n' + 1) j = I (n + 1) j) (h2 : ∀ j, j < 6 → I' (n' + 2) j = I (n + 2) j) (h3 : ∀ j, j < 6 → I' (n' + 3) j = I (n + 3) j) (hm : ∀ j, j < 21 → I' a' (o' + j) = I a (o + j)) : NwE I' lc gc n' a' o' := by
  obtain ⟨mi, lf, pi, wh, ti, h⟩ := h
  exact ⟨mi, lf, pi, wh, ti, h.mv h0 h1 h2 h3 hm⟩
/-- the ring of what may be undone, and the row of it -/
def HsI (I : Hi) (lc gc kn nx : Nat) : Prop := (I 19 1 = nI kn ∧ I 77 12 = nI kn ∧ kn ≤ 10) ∧ (I 19 2 = nI nx ∧ nx < 10) ∧ ∀ i, i < kn → NwE I lc gc (21 + 4 * ((nx + 9 - i) % 10)) 84 (21 * (kn - 1 - i))
theorem HsI.fr {I I' : Hi} {lc gc kn nx : Nat} (h : HsI I lc gc kn nx) (hf : ∀ a b, (a = 19 ∨ (21 ≤ a ∧ a ≤ 60) ∨ (a = 77 ∧ b = 12) ∨ a = 84) → I' a b = I a b) : HsI I' lc gc kn nx := by
  obtain ⟨⟨a1, a2, a3⟩, ⟨b1, b2⟩, h⟩ := h
  refine ⟨⟨by rw [hf _ _ (by omega)]; exact a1, by rw [hf _ _ (by omega)]; exact a2, a3⟩, ⟨by rw [hf _ _ (by omega)]; exact b1, b2⟩, fun i hi => ?_⟩
  have hm : (nx + 9 - i) % 10 < 10 := Nat.mod_lt _ (by decide)
  exact (h i hi).mv (fun j _ => hf _ _ (by omega)) (fun j _ => hf _ _ (by omega)) (fun j _ => hf _ _ (by omega)) (fun j _ => hf _ _ (by omega)) (fun j _ => hf _ _ (by omega))
def ImI (I : Hi) (lc gc : Nat) : Prop := ∀ i, i < 2 → (I 62 i = 0 ∧ I 86 i = 0) ∨ (I 62 i = 1 ∧ I 86 i = 1 ∧ NwE I lc gc (69 + 4 * i) 85 (21 * i))
theorem ImI.fr {I I' : Hi} {lc gc : Nat} (h : ImI I lc gc) (hf : ∀ a b, (a = 62 ∨ (69 ≤ a ∧ a ≤ 76) ∨ a = 85 ∨ a = 86) → I' a b = I a b) : ImI I' lc gc := by
  intro i hi
  rw [hf 62 i (by omega), hf 86 i (by omega)]
  rcases h i hi with h | ⟨h1, h2, h3⟩
  · exact Or.inl h
  · exact Or.inr ⟨h1, h2, h3.mv (fun j _ => hf _ _ (by omega)) (fun j _ => hf _ _ (by omega)) (fun j _ => hf _ _ (by omega)) (fun j _ => hf _ _ (by omega)) (fun j _ => hf _ _ (by omega))⟩
def SnI (I : Hi) (lc sm : Nat) (s1 s2 s3 : Nat → Nat) : Prop := (I 63 3 = nI sm ∧ I 77 16 = nI sm ∧ sm ≤ 6) ∧ ∀ i, i < sm → (I 64 i = nI (s1 i) ∧ I 87 (3 * i) = nI (s1 i) ∧ s1 i < 6) ∧ (I 65 i = nI (s2 i) ∧ I 87 (3 * i + 1) = nI (s2 i) ∧ s2 i < lc) ∧ (I 66 i = nI (s3 i) ∧ I 87 (3 * i + 2) = nI (s3 i) ∧ s3 i < 2)
theorem SnI.fr {I I' : Hi} {lc sm : Nat} {s1 s2 s3 : Nat → Nat} (h : SnI I lc sm s1 s2 s3) (hf : ∀ a b, ((a = 63 ∧ b = 3) ∨ (64 ≤ a ∧ a ≤ 66) ∨ (a = 77 ∧ b = 16) ∨ a = 87) → I' a b = I a b) : SnI I' lc sm s1 s2 s3 := by
  obtain ⟨⟨a1, a2, a3⟩, h⟩ := h
  refine ⟨⟨by rw [hf _ _ (by omega)]; exact a1, by rw [hf _ _ (by omega)]; exact a2, a3⟩, fun i hi => ?_⟩
  rw [hf 64 i (by omega), hf 65 i (by omega), hf 66 i (by omega), hf 87 _ (by omega), hf 87 _ (by omega), hf 87 _ (by omega)]
  exact h i hi
def TxI (I : Hi) (tl : Nat) (tx : Nat → Nat) : Prop := (I 1 1 = nI tl ∧ I 77 19 = nI tl ∧ tl ≤ 160) ∧ ∀ j, j < tl → I 2 j = nI (tx j) ∧ I 88 j = nI (tx j) ∧ tx j < 256
theorem TxI.fr {I I' : Hi} {tl : Nat} {tx : Nat → Nat} (h : TxI I tl tx) (hf : ∀ a b, ((a = 1 ∧ b = 1) ∨ a = 2 ∨ (a = 77 ∧ b = 19) ∨ a = 88) → I' a b = I a b) : TxI I' tl tx := by
  obtain ⟨⟨a1, a2, a3⟩, h⟩ := h
  refine ⟨⟨by rw [hf _ _ (by omega)]; exact a1, by rw [hf _ _ (by omega)]; exact a2, a3⟩, fun i hi => ?_⟩
  rw [hf 2 i (by omega), hf 88 i (by omega)]
  exact h i hi
/-- the court's numbers together -/
abbrev Ct : Type := (Nat × Nat × Nat × Nat × Nat) × (Nat → Nat) × (Nat → Nat) × (Nat → Nat) × (Nat → Nat) × (Nat → Nat)
abbrev qL (q : Ct) : Nat := q.1.1
abbrev qG (q : Ct) : Nat := q.1.2.1
abbrev qS (q : Ct) : Nat := q.1.2.2.1
abbrev qF (q : Ct) : Nat := q.1.2.2.2.1
abbrev qN (q : Ct) : Nat := q.1.2.2.2.2
abbrev qlv (q : Ct) : Nat → Nat := q.2.1
abbrev qgv (q : Ct) : Nat → Nat := q.2.2.1
abbrev qtv (q : Ct) : Nat → Nat := q.2.2.2.1
abbrev qmv (q : Ct) : Nat → Nat := q.2.2.2.2.1
abbrev qrv (q : Ct) : Nat → Nat := q.2.2.2.2.2
def CT (I : Hi) (c : Nat) (q : Ct) : Prop := CtI I c (qL q) (qG q) (qS q) (qF q) (qN q) (qlv q) (qgv q) (qtv q) (qmv q) (qrv q)
def NW (I : Hi) (q : Ct) : Prop := NwE I (qL q) (qG q) 15 83 0
def HS (I : Hi) (q : Ct) : Prop := ∃ kn nx, HsI I (qL q) (qG q) kn nx
def IM (I : Hi) (q : Ct) : Prop := ImI I (qL q) (qG q)
def SN (I : Hi) (q : Ct) : Prop := ∃ sm s1 s2 s3, SnI I (qL q) sm s1 s2 s3
def TX (I : Hi) : Prop := ∃ tl tx, TxI I tl tx
def Inv (c d : Nat) (I : Hi) (L : Hl) : Prop := isC c ∧ isC d ∧ c ≠ d ∧ L 0 9 = L 77 17 ∧ TX I ∧ ∃ q : Ct, CT I c q ∧ NW I q ∧ HS I q ∧ IM I q ∧ SN I q
theorem NW.fr {I I' : Hi} {q : Ct} (h : NW I q) (hf : ∀ a b, ((15 ≤ a ∧ a ≤ 18) ∨ a = 83) → I' a b = I a b) : NW I' q := NwE.mv h (fun j _ => hf _ _ (by omega)) (fun j _ => hf _ _ (by omega)) (fun j _ => hf _ _ (by omega)) (fun j _ => hf _ _ (by omega)) (fun j _ => hf _ _ (by omega))
theorem HS.fr {I I' : Hi} {q : Ct} (h : HS I q) (hf : ∀ a b, (a = 19 ∨ (21 ≤ a ∧ a ≤ 60) ∨ (a = 77 ∧ b = 12) ∨ a = 84) → I' a b = I a b) : HS I' q := by
  obtain ⟨kn, nx, h⟩ := h
  exact ⟨kn, nx, h.fr hf⟩
theorem IM.fr {I I' : Hi} {q : Ct} (h : IM I q) (hf : ∀ a b, (a = 62 ∨ (69 ≤ a ∧ a ≤ 76) ∨ a = 85 ∨ a = 86) → I' a b = I a b) : IM I' q := ImI.fr h hf
theorem SN.fr {I I' : Hi} {q : Ct} (h : SN I q) (hf : ∀ a b, ((a = 63 ∧ b = 3) ∨ (64 ≤ a ∧ a ≤ 66) ∨ (a = 77 ∧ b = 16) ∨ a = 87) → I' a b = I a b) : SN I' q := by
  obtain ⟨sm, s1, s2, s3, h⟩ := h
  exact ⟨sm, s1, s2, s3, h.fr hf⟩
theorem TX.fr {I I' : Hi} (h : TX I) (hf : ∀ a b, ((a = 1 ∧ b = 1) ∨ a = 2 ∨ (a = 77 ∧ b = 19) ∨ a = 88) → I' a b = I a b) : TX I' := by
  obtain ⟨tl, tx, h⟩ := h
  exact ⟨tl, tx, h.fr hf⟩
theorem CT.fr {I I' : Hi} {c : Nat} {q : Ct} (h : CT I c q) (hf : ∀ a b, KC c a b → I' a b = I a b) : CT I' c q := CtI.fr h hf
theorem isC_r {c : Nat} (h : isC c) : c = 3 ∨ c = 9 := h
