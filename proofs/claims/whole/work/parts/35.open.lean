/-! references that agree where it matters -/
def refsOK (R R' : Hr) : Bool := (List.range 96).all fun k => (List.range 36).all fun j => decide (R k j = R' k j)
theorem refs_all : refsOK rM1 (R0 3 9) = true := by decide +kernel
theorem shp_all : S0.all (fun sh => decide (sh.1 < 8) || decide (sh.1 = 8) || decide (sh.1 = 9) || decide (sh.2 ≤ 36)) = true := by decide +kernel
theorem refs_at {k j : Nat} (hk : k < 96) (hj : j < 36) : rM1 k j = R0 3 9 k j := by
  have h1 := List.all_eq_true.mp refs_all k (List.mem_range.mpr hk)
  have h2 := List.all_eq_true.mp h1 j (List.mem_range.mpr hj)
  exact of_decide_eq_true h2
theorem cNf_le : ∀ ci, ci < 8 → cNf ci ≤ 36 := fun ci h => c8 (P := fun ci => cNf ci ≤ 36) (by decide) (by decide) (by decide) (by decide) (by decide) (by decide) (by decide) (by decide) h
theorem arrV_ext {cA : ClassId} {n : Nat} {f g : Nat → Value} (h : ∀ j, j < n → f j = g j) : arrV cA n f = arrV cA n g := by
  have e : (fun j : Fin n => f j.val) = (fun j : Fin n => g j.val) := funext fun j => h j.val j.isLt
  unfold arrV
  rw [e]
theorem wdR_ext {G : GP} {S : Shp} {I : Hi} {R R' : Hr} {L : Hl} {H : Heap} (hR : ∀ k j, k < S.length → j < 36 → R k j = R' k j) (hsh : ∀ (k : Nat) (sh : Nat × Nat), S[k]? = some sh → sh.1 < 8 ∨ sh.1 = 8 ∨ sh.1 = 9 ∨ sh.2 ≤ 36) (h : va_P (gD G) vwCl (wd G S I R L) H) : va_P (gD G) vwCl (wd G S I R' L) H := by
  intro k q hq
  obtain ⟨sh, hs, rfl⟩ := wd_inv hq
  have hk : k < S.length := (List.getElem?_eq_some_iff.mp hs).1
  have h1 := h k _ (wd_at hs)
  by_cases ho : sh.1 < 8
  · rw [ce_obj ho] at h1 ⊢
    have e : fvs G I R L sh.1 k = fvs G I R' L sh.1 k := by
      apply List.map_congr_left
      intro j hj
      have hj : j < cNf sh.1 := List.mem_range.mp hj
      have hj2 := cNf_le _ ho
      simp only [fv, hR k j hk (show j < 36 by omega)]
    rw [e] at h1
    exact h1
  · by_cases h8 : sh.1 = 8
    · simp only [ce, h8] at h1 ⊢; exact h1
    · by_cases h9 : sh.1 = 9
      · simp only [ce, h9] at h1 ⊢; exact h1
      · have hle : sh.2 ≤ 36 := by
          rcases hsh k sh hs with h2 | h2 | h2 | h2
          · exact absurd h2 ho
          · exact absurd h2 h8
          · exact absurd h2 h9
          · exact h2
        simp only [ce, ho, h8, h9, if_false] at h1 ⊢
        have h1 : H[gN G + k]? = some (arrV (gQ G) sh.2 (fun j => va_rf ((R k j).map (gN G + ·)))) := h1
        show H[gN G + k]? = some (arrV (gQ G) sh.2 (fun j => va_rf ((R' k j).map (gN G + ·))))
        rw [h1, arrV_ext (f := fun j => va_rf ((R k j).map (gN G + ·))) (g := fun j => va_rf ((R' k j).map (gN G + ·))) (fun j hj => by simp only [hR k j hk (show j < 36 by omega)])]
theorem S0_len : S0.length = 96 := rfl
theorem AW.rm {G : GP} {X : CX} {cu su : Nat} {I : Hi} {L : Hl} {pc : Nat} {ls st : List Value} (k : AW G X cu su S0 I (R0 3 9) L pc ls st) : AW G X cu su S0 I rM1 L pc ls st := by
  obtain ⟨p, e, Rm, s, m, args, below, meth, c, Z⟩ := X
  intro H locs la h1 h2 h3 h4
  refine k H locs la h1 (wdR_ext (fun k j hk hj => refs_at (by rw [S0_len] at hk; exact hk) hj) (fun k sh hs => ?_) h2) h3 h4
  have := List.all_eq_true.mp shp_all sh (List.mem_of_getElem? hs)
  simp only [Bool.or_eq_true, decide_eq_true_eq] at this
  omega
/-- what is left to show, without the machine -/
def PURE : Prop := ∀ (xs : Nat → Int32) (nx : Nat), nx ≤ 320 → b_L_law_18 xs nx 2000 3 9 iM1 lM1 0 = some true
theorem law_AW {G : GP} {X : CX} (hX : XOK G X mi_L_law) (hZ : XL G X) (hp : PURE) (hn : gL G ≤ 320) : AW G X 0 0 [] (fun _ _ => 0) (fun _ _ => none) (fun _ _ => 0) 0 [.float 0, .null, .null, .null] [] := by
  refine aw_newOk (pc := 0) hX 6 0 rfl dL_law_0 (by decide) k_L_7 w_new_6 w_ini_RX6 (by decide) (by decide) ?_
  refine aw_dup (pc := 3) hX dL_law_3 rfl ?_
  refine aw_callI (pc := 4) (As := []) hX h_X6_init l_L_9 rfl s_X6_init rfl (by decide) dL_law_4 rfl ?_
  refine aw_astore_nE (pc := 7) hX 1 [.float 0, .ref 0, .null, .null] dL_law_7 rfl (by decide) rfl rfl ?_
  refine aw_newOk (pc := 8) hX 7 77 (by rfl) dL_law_8 (by decide) k_L_10 w_new_7 w_ini_RX7 (by decide) (by decide) ?_
  refine aw_dup (pc := 11) hX dL_law_11 rfl ?_
  refine aw_callI (pc := 12) (As := []) hX h_X7_init l_L_12 rfl s_X7_init rfl (by decide) dL_law_12 rfl ?_
  refine aw_astore_nE (pc := 15) hX 2 [.float 0, .ref 0, .ref 77, .null] dL_law_15 rfl (by decide) rfl rfl ?_
  refine AW.rm ?_
  refine aw_iconst (pc := 16) hX (0 : Int32) dL_law_16 (by decide) ?_
  refine aw_istore_nE (pc := 17) hX 3 [.float 0, .ref 0, .ref 77, .int 0] dL_law_17 rfl (by decide) rfl rfl ?_
  exact t_L_law_18 hX hZ 2000 3 9 iM1 lM1 0 (Or.inl rfl) (Or.inr rfl) (hp (gX G) (gL G) hn)
/-- the start's global facts -/
theorem start_G {l : Launch} {p : Program} {s : State} {m : MethodId} {meth : Method} {c : Code} {b L : Nat} {xs : Nat → Int32} (C0 : lw_At p s m meth c b L xs) : ∃ G : GP, gl G = l ∧ gN G = s.heap.size ∧ gB G = b ∧ gL G = L ∧ gX G = xs ∧ GOK G s := by
  obtain ⟨hx, hb, hr, hml, hown, hts, hXs, hlt, hlk, hpre⟩ := C0
  have htg : ∀ w ∈ gtbl, w.before #[Value.ref b] s = true := fun w hw => hts w (List.mem_filter.mp hw).1
  have hK : ∀ ci, ∃ (cC : ClassId) (iS : Nat → Nat), ci < 8 → u_Kn s (cNm ci) (cTb ci) (cNf ci) cC iS := by
    intro ci
    by_cases h : ci < 8
    · have hi : Cond.instantiable (cNm ci) (cNf ci) ∈ gtbl := c8 (P := fun ci => Cond.instantiable (cNm ci) (cNf ci) ∈ gtbl) w_new_0 w_new_1 w_new_2 w_new_3 w_new_4 w_new_5 w_new_6 w_new_7 h
      obtain ⟨cC, iS, hk⟩ := u_known htg (cIn h) (htg _ hi)
      exact ⟨cC, iS, fun _ => hk⟩
    · exact ⟨0, fun _ => 0, fun h2 => absurd h2 h⟩
  obtain ⟨cI, kI, pI, i1, i2, i3⟩ := Cond.arrayClass_spec (htg _ w_arr_int)
  obtain ⟨cZ, kZ, pZ, z1, z2, z3⟩ := Cond.arrayClass_spec (htg _ w_arr_boolean)
  have hao : va_AO RX3 s := va_AO.of (hts (.arrayOver (.object RX3)) (List.mem_of_getElem? (i := 199) (by decide +kernel)))
  obtain ⟨pQ, cQ, kQ, q1, q2, q3, q4, q5⟩ := Cond.arrayOver_spec hao
  refine ⟨(l, s.heap.size, b, L, xs, (fun ci => (hK ci).choose, fun ci => (hK ci).choose_spec.choose), cI, cZ, cQ), rfl, rfl, rfl, rfl, rfl, ⟨fun ci q hq => ?_, fun k q hq => ?_⟩, fun w hw => ?_, hao, hXs, hlt, Nat.le_refl _⟩
  · have h : ci < 8 := (List.getElem?_eq_some_iff.mp hq).1
    rw [vwCl_at h] at hq
    cases hq
    exact (hK ci).choose_spec.choose_spec h
  · match k, hq with
    | 0, hq => cases hq; exact ⟨fun n z => ⟨fun k h => (by cases h), kI, i2, pI, i3⟩, i1⟩
    | 1, hq => cases hq; exact ⟨fun n z => ⟨fun k h => (by cases h), kZ, z2, pZ, z3⟩, z1⟩
    | 2, hq => cases hq; exact ⟨fun n z => ⟨fun k h => (by cases h), kQ, q3, pQ, q4⟩, kQ, pQ, q3, q4, q1, q5⟩
    | k + 3, hq => simp [gT] at hq
  · have h1 := (List.mem_filter.mp hw)
    have h2 := hts w h1.1
    have h3 := h1.2
    cases w <;> first | exact va_Nw.of rfl h2 | exact absurd h3 (by simp [isNest])
theorem whole_open (hp : PURE) {p : Program} {e : Env} {s : State} {m : MethodId} {below : List Frame} {meth : Method} {c : Code} (l : Launch) (hflags : l.flags = flags0) {b L : Nat} {xs : Nat → Int32} (hL : L ≤ 320) (C0 : lw_At p s m meth c b L xs) : W p l e room_1 s m #[Value.ref b] below meth c s.heap [] 0 0 (lw_Z below #[Value.ref b] s) (entryFrame m ([Value.ref b] : List Value).toArray 4) := by
  obtain ⟨G, g1, g2, g3, g4, g5, hG⟩ := start_G (l := l) C0
  obtain ⟨hx, hb, hr, hml, hown, hts, hXs, hlt, hlk, hpre⟩ := C0
  subst g1; subst g3; subst g4; subst g5
  have hX : XOK G (p, e, room_1, s, m, #[Value.ref (gB G)], below, meth, c, lw_Z below #[Value.ref (gB G)] s) mi_L_law := ⟨hx, hb, hml, hown, fun w hw => hts w (List.mem_filter.mp hw).1, hr, hlk, fun h => absurd h (by decide), rfl, hG⟩
  have hA := law_AW hX ⟨rfl, rfl, g2⟩ hp hL
  have hl := lv_entry ([.ref (gB G)] : List Value) (n := 4) (Nat.le_of_ble_eq_true rfl)
  rw [lg_entry_eq]
  refine hA s.heap [] _ (by rw [g2]; rfl) (fun k q hq => by simp [wd] at hq) va_S.rf ?_
  rw [hml]
  refine ⟨hl.1, hl.2.1, fun i v hi hv => ?_⟩
  match i, hi with
  | 0, hi => cases hi; exact hl.2.2 (0, .ref (gB G)) List.mem_cons_self
  | 1, hi => cases hi; exact absurd rfl hv
  | 2, hi => cases hi; exact absurd rfl hv
  | 3, hi => cases hi; exact absurd rfl hv
  | i + 4, hi => simp at hi

