/-! THE CLAIM OUT OF ONE WALK OF THE LAW'S BODY. Your part is whole_start (and what it stands on); all else here is the same for every law, but numbers. -/
def R_law : String := "TruePiesLaw"
def lw_P (b : Addr) (xs : List Int32) (args : Array Value) (s : State) : Prop := args = #[.ref b] ∧ s.IntsAt b xs ∧ xs.length ≤ 320 ∧ (Jvm.Cond.and given_1 narrow_1).before args s = true
def lw_Q (_ : Array Value) (s : State) (o : Outcome) (t : State) : Prop := o = .returned (some (.int 1)) ∧ Framed s o t [] 600000 7302250
def lw_Z (below : List Frame) (a : Array Value) (s : State) : State → Prop := fun t => ∃ o, t.status = .running ∧ Ended t below o ∧ lw_Q a s o t
/-- the law's own end, with 1 on the stack, nothing written that was there before, its room as the claim has it -/
theorem lw_ret {p : Program} {l : Launch} {e : Env} {s : State} {m : MethodId} {below : List Frame} {meth : Method} {c : Code} {b : Nat} (hx : p.tables.exec = Jvm.exec) (hb : c.code = code) (hr : meth.sig.returnType = ret) (hlocks : meth.locks = false) {pc : Nat} {H : Heap} {ls : Array Slot} (hdg : decode code pc = .ok (.ireturn, 1)) : W p l e room_1 s m #[Value.ref b] below meth c H [] 600000 7302250 (lw_Z below #[Value.ref b] s) (F0 m pc ls [.int 1]) := by
  intro T hT X
  obtain ⟨fs, hret, hrun, hended, hW, hframe⟩ := X.leave (v := some (.int 1)) (hlocks := hlocks) (fun h => by rw [hr] at h; cases h)
  have hmeth' : T.vm.method? m = some meth := X.method'
  refine ⟨T.setFrames fs, ?_, .returned (some (.int 1)), hrun, hended, rfl, ⟨_, rfl⟩, hW, hframe⟩
  jvm_step X.here [X.here.top, hx, hb, hdg, hmeth', hr, ret, narrow_b1]
  (try refine ⟨rfl, ?_⟩); (try refine ⟨rfl, ?_⟩)
  first | (intro acts; rw [hret _ acts rfl rfl rfl]) | rw [hret _ _ rfl rfl rfl]
  exact Steps.refl _
/-- what holds at the law's entry: the machine, the code, the tables' words (any of lw_tbl by 'hts w (by decide +kernel)'), the script of L ints xs at the cell b, what the Statement gives of the start (any of its parts by flat_of_before) -/
def lw_At (p : Program) (s : State) (m : MethodId) (meth : Method) (c : Code) (b L : Nat) (xs : Nat → Int32) : Prop :=
  p.tables.exec = Jvm.exec ∧ c.code = code ∧ meth.sig.returnType = ret ∧ c.maxLocals = 4 ∧ s.vm.findClass R_law = some m.cls ∧ (∀ w ∈ lw_tbl, w.before #[Value.ref b] s = true) ∧ va_X b L xs s s.heap ∧ b < s.heap.size ∧ meth.locks = false ∧ (Jvm.Cond.and given_1 narrow_1).before #[Value.ref b] s = true

/-! the law's walk -/
def XL (G : GP) (X : CX) : Prop := match X with
  | (_, _, _, s, _, args, below, _, _, Z) => args = #[Value.ref (gB G)] ∧ Z = lw_Z below #[Value.ref (gB G)] s ∧ gN G = s.heap.size
theorem aw_lawret {G : GP} {X : CX} {cu su : Nat} {S : Shp} {I : Hi} {R : Hr} {L : Hl} {pc : Nat} {ls : List Value} (hX : XOK G X mi_L_law) (hZ : XL G X) (hd : decode cL_law pc = .ok (.ireturn, 1)) (hcu : cu ≤ 600000 := by decide) (hsu : su ≤ 7302250 := by decide) : AW G X cu su S I R L pc ls [.int 1] := by
  obtain ⟨p, e, Rm, s, m, args, below, meth, c, Z⟩ := X
  obtain ⟨hx, hb, hml, hown, hts, hr, hlk, hnm, hrm, hG⟩ := hX
  obtain ⟨rfl, rfl, hgn⟩ := hZ
  intro H locs la h1 h2 h3 h4
  refine va_forget (fun q hq => ?_) ?_
  · have := h3.2.2 q hq
    rw [← hgn]
    exact this
  refine W.widen hcu hsu ?_
  have hrm : Rm = room_1 := hrm
  subst hrm
  exact lw_ret hx hb hr hlk hd
theorem cdl_X6_court : ∀ (n c d : Nat) (I : Hi) (x y : Int32) (p : Int32 × Hi × Nat × Nat), isC c → isC d → b_X6_court_69 n c d I x y = some p → isC p.2.2.1 ∧ isC p.2.2.2 := by
  intro n
  induction n with
  | zero => intro c d I x y p hc hd h; cases h
  | succ n ih =>
    intro c d I x y p hc hd h
    rw [b_X6_court_69] at h
    by_cases h1 : (2 : Int32) ≤ y
    · have h := ite_t h h1
      have e := Option.some.inj h
      subst e
      exact ⟨hc, hd⟩
    · have h := ite_f h h1
      obtain ⟨_, h⟩ := ite_g h
      obtain ⟨_, _, h⟩ := bind_s h
      exact ih _ _ _ _ _ _ hc hd h
theorem cd_X6_court {c d : Nat} {I : Hi} {p : Int32 × Hi × Nat × Nat} (hc : isC c) (hd : isC d) (h : f_X6_court c d I = some p) : isC p.2.2.1 ∧ isC p.2.2.2 := by
  rw [f_X6_court] at h
  obtain ⟨r, _, h⟩ := bind_s h
  by_cases h1 : (0 : Int32) ≤ r.1
  · have h := ite_t h h1
    obtain ⟨_, _, h⟩ := bind_s h
    obtain ⟨_, _, h⟩ := bind_s h
    obtain ⟨_, _, h⟩ := bind_s h
    obtain ⟨_, _, h⟩ := bind_s h
    exact cdl_X6_court _ _ _ _ _ _ _ hd hc h
  · have h := ite_f h h1
    have e := Option.some.inj h
    subst e
    exact ⟨hc, hd⟩

