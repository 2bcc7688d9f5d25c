/-! a line: sets of goers as numbers, orders, the first best order -/
def sd (s t : Nat) : Nat := s &&& (63 ^^^ t)
def mem (r : Nat) : Nat → Nat → List Nat
  | 0, _ => []
  | m + 1, k => if r.testBit k = true then k :: mem r m (k + 1) else mem r m (k + 1)
theorem sd_all : ((List.range 64).all fun s => (List.range 64).all fun t => decide (nI s &&& (nI t ^^^ -1) = nI (sd s t))) = true := by decide +kernel
theorem sd_eq {s t : Nat} (hs : s < 64) (ht : t < 64) : nI s &&& (nI t ^^^ -1) = nI (sd s t) := by
  have := List.all_eq_true.mp (List.all_eq_true.mp sd_all s (List.mem_range.mpr hs)) t (List.mem_range.mpr ht)
  simpa using this
theorem sd_lt {s t : Nat} (hs : s < 64) : sd s t < 64 := and_lt64 hs
def sdF (s t g : Nat) : Bool := decide (sd t s ≠ 0) || !(sd s t).testBit g || (decide (sd (t ||| 2 ^ g) s = 0) && decide (t < t ||| 2 ^ g) && decide (t ||| 2 ^ g < 64) && decide (pc (t ||| 2 ^ g) = pc t + 1) && decide (pc (sd s t) = pc (sd s (t ||| 2 ^ g)) + 1))
theorem sdF_all : ((List.range 64).all fun s => (List.range 64).all fun t => (List.range 6).all fun g => sdF s t g) = true := by decide +kernel
theorem sd_step {s t g : Nat} (hs : s < 64) (ht : t < 64) (hg : g < 6) (hst : sd t s = 0) (hb : (sd s t).testBit g = true) : sd (t ||| 2 ^ g) s = 0 ∧ t < t ||| 2 ^ g ∧ t ||| 2 ^ g < 64 ∧ pc (t ||| 2 ^ g) = pc t + 1 ∧ pc (sd s t) = pc (sd s (t ||| 2 ^ g)) + 1 := by
  have := List.all_eq_true.mp (List.all_eq_true.mp (List.all_eq_true.mp sdF_all s (List.mem_range.mpr hs)) t (List.mem_range.mpr ht)) g (List.mem_range.mpr hg)
  unfold sdF at this
  rw [hb, decide_eq_false (fun h => h hst)] at this
  simp only [Bool.not_true, Bool.false_or, Bool.and_eq_true, decide_eq_true_eq] at this
  exact ⟨this.1.1.1.1, this.1.1.1.2, this.1.1.2, this.1.2, this.2⟩
def memN (s : Nat) : Bool := decide ((mem s 6 0).length = pc s) && (mem s 6 0).all fun g => decide (g < 6) && s.testBit g
theorem memN_all : ((List.range 64).all memN) = true := by decide +kernel
theorem mem_len {s : Nat} (hs : s < 64) : (mem s 6 0).length = pc s := by
  have := List.all_eq_true.mp memN_all s (List.mem_range.mpr hs)
  unfold memN at this
  rw [Bool.and_eq_true, decide_eq_true_eq] at this
  exact this.1
theorem mem_of {s g : Nat} (hs : s < 64) (hg : g ∈ mem s 6 0) : g < 6 ∧ s.testBit g = true := by
  have := List.all_eq_true.mp memN_all s (List.mem_range.mpr hs)
  unfold memN at this
  rw [Bool.and_eq_true] at this
  have := List.all_eq_true.mp this.2 g hg
  rw [Bool.and_eq_true, decide_eq_true_eq] at this
  exact this
/-! the greatest, and the first of the greatest -/
def mxl (W : Nat → Nat) : List Nat → Nat
  | [] => 0
  | g :: r => max (W g) (mxl W r)
def gst (W : Nat → Nat) : List Nat → Nat
  | [] => 0
  | g :: r => if mxl W r ≤ W g then g else gst W r
theorem mxl_c {W : Nat → Nat} (g : Nat) (r : List Nat) : mxl W (g :: r) = max (W g) (mxl W r) := rfl
theorem gst_c {W : Nat → Nat} (g : Nat) (r : List Nat) : gst W (g :: r) = if mxl W r ≤ W g then g else gst W r := rfl
theorem mxl_cong {W V : Nat → Nat} : ∀ {l : List Nat}, (∀ g, g ∈ l → W g = V g) → mxl W l = mxl V l
  | [], _ => rfl
  | g :: r, h => by rw [mxl, mxl, h g (List.mem_cons_self ..), mxl_cong (fun x hx => h x (List.mem_cons_of_mem _ hx))]
theorem gst_cong {W V : Nat → Nat} : ∀ {l : List Nat}, (∀ g, g ∈ l → W g = V g) → gst W l = gst V l
  | [], _ => rfl
  | g :: r, h => by rw [gst, gst, h g (List.mem_cons_self ..), mxl_cong (fun x hx => h x (List.mem_cons_of_mem _ hx)), gst_cong (fun x hx => h x (List.mem_cons_of_mem _ hx))]
theorem gst_mem {W : Nat → Nat} : ∀ {l : List Nat}, l ≠ [] → gst W l ∈ l
  | [], h => absurd rfl h
  | [g], _ => by rw [gst, mxl, if_pos (Nat.zero_le _)]; exact List.mem_cons_self ..
  | g :: g2 :: r, _ => by
    rw [gst]
    split
    · exact List.mem_cons_self ..
    · exact List.mem_cons_of_mem _ (gst_mem (List.cons_ne_nil _ _))
theorem gst_max {W : Nat → Nat} : ∀ {l : List Nat}, l ≠ [] → W (gst W l) = mxl W l
  | [], h => absurd rfl h
  | [g], _ => by rw [gst_c, mxl_c, mxl, if_pos (Nat.zero_le _), Nat.max_eq_left (Nat.zero_le _)]
  | g :: g2 :: r, _ => by
    rw [gst_c, mxl_c g]
    split
    · rename_i h
      rw [Nat.max_eq_left h]
    · rename_i h
      rw [Nat.max_eq_right (by omega)]
      exact gst_max (List.cons_ne_nil _ _)
section LN
variable (s : Nat) (gain : Nat → Nat → Nat)
def bsv : Nat → Nat → Nat
  | 0, _ => 0
  | n + 1, t => mxl (fun g => gain (pc t) g + bsv n (t ||| 2 ^ g)) (mem (sd s t) 6 0)
def grd : Nat → Nat → List Nat
  | 0, _ => []
  | n + 1, t =>
    let g := gst (fun g => gain (pc t) g + bsv s gain n (t ||| 2 ^ g)) (mem (sd s t) 6 0)
    g :: grd n (t ||| 2 ^ g)
def pmt : Nat → Nat → List (List Nat)
  | 0, _ => [[]]
  | n + 1, t => (mem (sd s t) 6 0).flatMap fun g => (pmt n (t ||| 2 ^ g)).map (g :: ·)
def vlu : Nat → List Nat → Nat
  | _, [] => 0
  | i, g :: r => gain i g + vlu (i + 1) r
end LN
abbrev Bst : Type := Option (Nat × List Nat)
def upb (a : Bst) (w : Nat) (p : List Nat) : Bst := match a with
  | none => some (w, p)
  | some v => if v.1 < w then some (w, p) else some v
theorem fold1 {W : Nat → Nat} {Q : Nat → List Nat} (c : Nat) : ∀ (l : List Nat) (a : Bst), l ≠ [] → l.foldl (fun a g => upb a (c + W g) (Q g)) a = upb a (c + mxl W l) (Q (gst W l))
  | [], _, h => absurd rfl h
  | [g], a, _ => by
    rw [List.foldl_cons, List.foldl_nil, mxl, mxl, gst, mxl, if_pos (Nat.zero_le _), Nat.max_eq_left (Nat.zero_le _)]
  | g :: g2 :: r, a, _ => by
    have ih := fold1 (W := W) (Q := Q) c (g2 :: r) (upb a (c + W g) (Q g)) (List.cons_ne_nil _ _)
    rw [List.foldl_cons, ih, mxl_c g, gst_c g]
    generalize mxl W (g2 :: r) = M
    generalize gst W (g2 :: r) = u
    by_cases h : M ≤ W g
    · rw [if_pos h, Nat.max_eq_left h]
      cases a with
      | none => simp only [upb]; rw [if_neg (by omega)]
      | some v =>
        simp only [upb]
        by_cases h1 : v.1 < c + W g
        · rw [if_pos h1]; simp only []; rw [if_neg (by omega)]
        · rw [if_neg h1]; simp only []; rw [if_neg (by omega)]
    · rw [if_neg h, Nat.max_eq_right (by omega)]
      cases a with
      | none => simp only [upb]; rw [if_pos (by omega)]
      | some v =>
        simp only [upb]
        by_cases h1 : v.1 < c + W g
        · rw [if_pos h1, if_pos (by omega)]; simp only []; rw [if_pos (by omega)]
        · rw [if_neg h1]
def ffl (v : List Nat → Nat) (a : Bst) (ps : List (List Nat)) : Bst := ps.foldl (fun a p => upb a (v p) p) a
theorem ffl_flat {v : List Nat → Nat} {f : Nat → List (List Nat)} {W : Nat → Nat} {Q : Nat → List Nat} : ∀ (l : List Nat) (a : Bst), (∀ g, g ∈ l → ∀ a, ffl v a (f g) = upb a (W g) (Q g)) → ffl v a (l.flatMap f) = l.foldl (fun a g => upb a (W g) (Q g)) a
  | [], _, _ => rfl
  | g :: r, a, h => by
    rw [List.flatMap_cons, ffl, List.foldl_append, List.foldl_cons]
    have h1 := h g (List.mem_cons_self ..) a
    rw [ffl] at h1
    rw [h1]
    exact ffl_flat r _ (fun x hx => h x (List.mem_cons_of_mem _ hx))
theorem best_all {s : Nat} {gain : Nat → Nat → Nat} (hs : s < 64) (v : List Nat → Nat) : ∀ (n t : Nat) (pre : List Nat → List Nat) (c : Nat) (a : Bst), t < 64 → sd t s = 0 → pc (sd s t) = n → (∀ p, v (pre p) = c + vlu gain (pc t) p) → ffl v a ((pmt s n t).map pre) = upb a (c + bsv s gain n t) (pre (grd s gain n t))
  | 0, t, pre, c, a, ht, hst, hn, hv => by
    rw [pmt, List.map_cons, List.map_nil, ffl, List.foldl_cons, List.foldl_nil, hv, bsv, grd, vlu]
  | n + 1, t, pre, c, a, ht, hst, hn, hv => by
    have hl : mem (sd s t) 6 0 ≠ [] := by
      intro h
      have := mem_len (sd_lt (t := t) hs)
      rw [h, hn] at this
      cases this
    rw [pmt, List.map_flatMap]
    rw [ffl_flat (W := fun g => c + (gain (pc t) g + bsv s gain n (t ||| 2 ^ g))) (Q := fun g => pre (g :: grd s gain n (t ||| 2 ^ g)))]
    · rw [fold1 (W := fun g => gain (pc t) g + bsv s gain n (t ||| 2 ^ g)) (Q := fun g => pre (g :: grd s gain n (t ||| 2 ^ g))) c _ a hl, bsv, grd]
    · intro g hg a
      obtain ⟨h1, h2⟩ := mem_of (sd_lt hs) hg
      obtain ⟨e1, e2, e3, e4, e5⟩ := sd_step hs ht h1 hst h2
      rw [List.map_map, best_all hs v n (t ||| 2 ^ g) (pre ∘ (g :: ·)) (c + gain (pc t) g) a e3 e1 (by omega) (fun p => by
        show v (pre (g :: p)) = _
        rw [hv, vlu, e4, Nat.add_assoc]), Nat.add_assoc]
      rfl
/-! the next order -/
def gq (l : List Nat) (j : Nat) : Nat := l.getD j 0
def swp (l : List Nat) (j k : Nat) : List Nat := (l.set j (gq l k)).set k (gq l j)
def fA (l : List Nat) : Nat → Option Nat
  | 0 => none
  | j + 1 => if gq l j ≤ gq l (j + 1) then some j else fA l j
def fB (l : List Nat) (j : Nat) : Nat → Option Nat
  | 0 => none
  | k + 1 => if gq l j ≤ gq l k then some k else fB l j k
def rvs : Nat → List Nat → Nat → Nat → List Nat
  | 0, l, _, _ => l
  | n + 1, l, a, b => if b ≤ a then l else rvs n (swp l a b) (a + 1) (b - 1)
def nxL (l : List Nat) : Option (List Nat) := match fA l (l.length - 1) with
  | none => none
  | some j => match fB l j l.length with
    | none => some []
    | some k => some (rvs 6 (swp l j k) (j + 1) (l.length - 1))
def oks (s m : Nat) (l : List Nat) : Bool := decide (l.length = m) && l.all fun g => decide (g < 6) && s.testBit g
def chk (s m : Nat) : List (List Nat) → Bool
  | [] => true
  | a :: r => oks s m a && (match r with
    | [] => decide (nxL a = none)
    | b :: _ => decide (nxL a = some b)) && chk s m r
theorem chk_all : ((List.range 64).all fun s => chk s (pc s) (pmt s (pc s) 0) && decide ((pmt s (pc s) 0).head? = some (mem s 6 0)) && decide ((pmt s (pc s) 0).length < 1000)) = true := by decide +kernel
theorem chk_s {s : Nat} (hs : s < 64) : chk s (pc s) (pmt s (pc s) 0) = true ∧ (pmt s (pc s) 0).head? = some (mem s 6 0) ∧ (pmt s (pc s) 0).length < 1000 := by
  have := List.all_eq_true.mp chk_all s (List.mem_range.mpr hs)
  rw [Bool.and_eq_true, Bool.and_eq_true, decide_eq_true_eq, decide_eq_true_eq] at this
  exact ⟨this.1.1, this.1.2, this.2⟩
def subl : Bool := (List.range 64).all fun s => decide (sd s 0 = s) && (List.range 64).all fun t => decide (sd t s ≠ 0) || decide (t ≤ s)
theorem subl_t : subl = true := by decide +kernel
theorem sd_0 {s : Nat} (hs : s < 64) : sd s 0 = s := by
  have := List.all_eq_true.mp subl_t s (List.mem_range.mpr hs)
  rw [Bool.and_eq_true, decide_eq_true_eq] at this
  exact this.1
theorem sub_le {s t : Nat} (hs : s < 64) (ht : t < 64) (h : sd t s = 0) : t ≤ s := by
  have := List.all_eq_true.mp subl_t s (List.mem_range.mpr hs)
  rw [Bool.and_eq_true] at this
  have := List.all_eq_true.mp this.2 t (List.mem_range.mpr ht)
  rw [decide_eq_false (fun k => k h), Bool.false_or, decide_eq_true_eq] at this
  exact this
