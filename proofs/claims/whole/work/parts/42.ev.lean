/-! what the small methods answer, in numbers -/
theorem obs {α β : Type} (a : α) (f : α → Option β) : (some a).bind f = f a := rfl
def lets (q : Ct) (l g : Nat) : Bool := decide (qlv q l &&& qgv q g ≠ 0)
def gd (q : Ct) (l g : Nat) : Nat := if l < qL q ∧ g < qG q then qlv q l &&& qgv q g else 0
theorem and_lt64 {a b : Nat} (h : a < 64) : a &&& b < 64 := Nat.lt_of_le_of_lt Nat.and_le_left h
section EV
variable {I : Hi} {c : Nat} {q : Ct}
theorem CT.L5 (h : CT I c q) : qL q ≤ 5 := h.1.2.2
theorem CT.G6 (h : CT I c q) : qG q ≤ 6 := h.2.1.2.2
theorem CT.S4 (h : CT I c q) : qS q ≤ 4 := h.2.2.1.2.2
theorem CT.F3 (h : CT I c q) : qF q ≤ 3 := h.2.2.2.1.2.2
theorem CT.lv (h : CT I c q) {j : Nat} (hj : j < qL q) : I (c + 1) j = nI (qlv q j) ∧ I 78 j = nI (qlv q j) ∧ qlv q j < 64 := h.2.2.2.2.2.1 j hj
theorem CT.gv (h : CT I c q) {j : Nat} (hj : j < qG q) : I (c + 2) j = nI (qgv q j) ∧ I 79 j = nI (qgv q j) ∧ qgv q j < 64 := h.2.2.2.2.2.2.1 j hj
theorem CT.tv (h : CT I c q) {j : Nat} (hj : j < 6 * qS q) : I (c + 3) j = nI (qtv q j) ∧ I 80 j = nI (qtv q j) ∧ qtv q j < 6 := h.2.2.2.2.2.2.2.1 j hj
theorem CT.mv (h : CT I c q) {j : Nat} (hj : j < qF q) : I (c + 4) j = nI (qmv q j) ∧ I 81 j = nI (qmv q j) ∧ 2 ≤ qmv q j ∧ qmv q j ≤ 12 := h.2.2.2.2.2.2.2.2.1 j hj
theorem CT.rv (h : CT I c q) {j : Nat} (hj : j < qF q) : I (c + 5) j = nI (qrv q j) ∧ I 82 j = nI (qrv q j) ∧ qrv q j < qmv q j := h.2.2.2.2.2.2.2.2.2 j hj
theorem e_hasLeaf (h : CT I c q) (x : Int32) : f_X0_hasLeaf c I x = some (vinb x (qL q)) := by
  have := h.L5
  rw [f_X0_hasLeaf, h.1.1, rng_eq (by omega), b_eta]
theorem e_hasGoer (h : CT I c q) (x : Int32) : f_X0_hasGoer c I x = some (vinb x (qG q)) := by
  have := h.G6
  rw [f_X0_hasGoer, h.2.1.1, rng_eq (by omega), b_eta]
theorem e_isTaste (x : Int32) : f_X6_isTaste x = some (vinb x 6) := by
  rw [f_X6_isTaste, nIl 6, rng_eq (by omega), b_eta]
theorem m_isTheLeaf (h : CT I c q) (x : Int32) : f_X7_isTheLeaf I x = some (vinb x (qL q)) := by
  have := h.L5
  rw [f_X7_isTheLeaf, h.1.2.1, in_vin (qL q) (pred_toInt (by omega)) (by omega), obs]
theorem m_isOne (h : CT I c q) (x : Int32) : f_X7_isOne I x = some (vinb x (qG q)) := by
  have := h.G6
  rw [f_X7_isOne, h.2.1.2.1, in_vin (qG q) (pred_toInt (by omega)) (by omega), obs]
theorem m_isTaste (x : Int32) : f_X7_isTaste x = some (vinb x 6) := by
  rw [f_X7_isTaste, in_vin 6 (by decide) (by omega), obs]
theorem m_isBit (x : Int32) : f_X7_isBit x = some (vinb x 2) := by
  rw [f_X7_isBit, in_vin 2 (by decide) (by omega), obs]
theorem e_goodTastes (h : CT I c q) {l g : Nat} (hl : l < 2147483648) (hg : g < 2147483648) : f_X0_goodTastes c I (nI l) (nI g) = some (nI (gd q l g)) := by
  have h5 := h.L5
  have h6 := h.G6
  rw [f_X0_goodTastes, e_hasLeaf h, obs]
  by_cases h1 : l < qL q
  · rw [vinT h1 (by omega), if_pos rfl, e_hasGoer h, obs]
    by_cases h2 : g < qG q
    · rw [vinT h2 (by omega), if_pos rfl, if_pos (vinT (by omega) (by omega)), if_pos (vinT (by omega) (by omega)), nIn hl, nIn hg, (h.lv h1).1, (h.gv h2).1, nIand, gd, if_pos ⟨h1, h2⟩]
    · rw [vinF (by omega) hg, if_neg (by decide), gd, if_neg (by omega)]
      rfl
  · rw [vinF (by omega) hl, if_neg (by decide), gd, if_neg (by omega)]
    rfl
theorem gd_lt (h : CT I c q) {l g : Nat} : gd q l g < 64 := by
  unfold gd
  split
  · rename_i h1
    exact and_lt64 (h.lv h1.1).2.2
  · decide
theorem gd_eq {l g : Nat} (hl : l < qL q) (hg : g < qG q) : gd q l g = qlv q l &&& qgv q g := if_pos ⟨hl, hg⟩
theorem nI_0iff {n : Nat} (h : n < 2147483648) : nI n = 0 ↔ n = 0 := by
  rw [show (0 : Int32) = nI 0 from rfl, nIeq h (by decide)]
theorem l_goersLetBy (h : CT I c q) {l : Nat} (hl : l < qL q) : ∀ (m k n : Nat), k + m = qG q → m < n → b_X0_goersLetBy_4 c I n (nI l) (nI (bm (lets q l) k)) (nI k) = some (nI (bm (lets q l) (qG q)))
  | 0, k, n + 1, hk, _ => by
    have h6 := h.G6
    rw [b_X0_goersLetBy_4, h.2.1.1, if_pos ((nIle (by omega) (by omega)).mpr (by omega)), show k = qG q by omega]
  | m + 1, k, n + 1, hk, hn => by
    have h6 := h.G6
    have h5 := h.L5
    have ih := l_goersLetBy h hl m (k + 1) n (by omega) (by omega)
    rw [b_X0_goersLetBy_4, h.2.1.1, if_neg (by rw [nIle (by omega) (by omega)]; omega), e_goodTastes h (by omega) (by omega), obs, gd_eq hl (by omega)]
    have h64 : qlv q l &&& qgv q k < 64 := and_lt64 (h.lv hl).2.2
    by_cases hz : qlv q l &&& qgv q k = 0
    · rw [if_pos ((nI_0iff (by omega)).mpr hz), b_X0_goersLetBy_27, nI_1]
      have : bm (lets q l) (k + 1) = bm (lets q l) k := by
        rw [bm, if_neg (by unfold lets; rw [decide_eq_true_eq]; exact fun h => h hz), Nat.or_zero]
      rw [this] at ih
      exact ih
    · rw [if_neg (fun h => hz ((nI_0iff (by omega)).mp h)), b_X0_goersLetBy_27, nI_1, shl1 (by omega), nIor]
      have : bm (lets q l) (k + 1) = bm (lets q l) k ||| 2 ^ k := by
        rw [bm, if_pos (by unfold lets; rw [decide_eq_true_eq]; exact hz)]
      rw [this] at ih
      exact ih
theorem e_goersLetBy (h : CT I c q) {l : Nat} (hl : l < qL q) : f_X0_goersLetBy c I (nI l) = some (nI (bm (lets q l) (qG q))) := by
  have h6 := h.G6
  rw [f_X0_goersLetBy]
  exact l_goersLetBy h hl (qG q) 0 2000 (by omega) (by omega)
theorem l_leavesThatLet (h : CT I c q) {g : Nat} (hg : g < qG q) : ∀ (m k n : Nat), k + m = qL q → m < n → b_X0_leavesThatLet_4 c I n (nI g) (nI (bm (fun l => lets q l g) k)) (nI k) = some (nI (bm (fun l => lets q l g) (qL q)))
  | 0, k, n + 1, hk, _ => by
    have h6 := h.L5
    rw [b_X0_leavesThatLet_4, h.1.1, if_pos ((nIle (by omega) (by omega)).mpr (by omega)), show k = qL q by omega]
  | m + 1, k, n + 1, hk, hn => by
    have h6 := h.G6
    have h5 := h.L5
    have ih := l_leavesThatLet h hg m (k + 1) n (by omega) (by omega)
    rw [b_X0_leavesThatLet_4, h.1.1, if_neg (by rw [nIle (by omega) (by omega)]; omega), e_goodTastes h (by omega) (by omega), obs, gd_eq (by omega) hg]
    have h64 : qlv q k &&& qgv q g < 64 := and_lt64 (h.lv (by omega)).2.2
    by_cases hz : qlv q k &&& qgv q g = 0
    · rw [if_pos ((nI_0iff (by omega)).mpr hz), b_X0_leavesThatLet_27, nI_1]
      have : bm (fun l => lets q l g) (k + 1) = bm (fun l => lets q l g) k := by
        rw [bm, if_neg (by unfold lets; rw [decide_eq_true_eq]; exact fun h => h hz), Nat.or_zero]
      rw [this] at ih
      exact ih
    · rw [if_neg (fun h => hz ((nI_0iff (by omega)).mp h)), b_X0_leavesThatLet_27, nI_1, shl1 (by omega), nIor]
      have : bm (fun l => lets q l g) (k + 1) = bm (fun l => lets q l g) k ||| 2 ^ k := by
        rw [bm, if_pos (by unfold lets; rw [decide_eq_true_eq]; exact hz)]
      rw [this] at ih
      exact ih
theorem e_leavesThatLet (h : CT I c q) {g : Nat} (hg : g < qG q) : f_X0_leavesThatLet c I (nI g) = some (nI (bm (fun l => lets q l g) (qL q))) := by
  have h6 := h.L5
  rw [f_X0_leavesThatLet]
  exact l_leavesThatLet h hg (qL q) 0 2000 (by omega) (by omega)
theorem m_lets (h : CT I c q) {l g : Nat} (hl : l < qL q) (hg : g < qG q) : f_X7_lets I (nI l) (nI g) = some (lets q l g) := by
  have h5 := h.L5
  have h6 := h.G6
  rw [f_X7_lets, if_pos (vinT (by omega) (by omega)), if_pos (vinT (by omega) (by omega)), nIn (by omega), nIn (by omega), (h.lv hl).2.1, (h.gv hg).2.1, nIand]
  have h64 : qlv q l &&& qgv q g < 64 := and_lt64 (h.lv hl).2.2
  by_cases hz : qlv q l &&& qgv q g = 0
  · rw [if_pos ((nI_0iff (by omega)).mpr hz), lets, decide_eq_false (fun h => h hz)]
  · rw [if_neg (fun h => hz ((nI_0iff (by omega)).mp h)), lets, decide_eq_true hz]
theorem bm_s {p : Nat → Bool} {k : Nat} (hk : k < 31) (b : Bool) (hb : p k = b) : nI (bm p k) ||| (if b = true then (1 : Int32) <<< (nI k &&& 31) else 0) = nI (bm p (k + 1)) := by
  rw [bm, hb]
  cases b with
  | true => rw [if_pos rfl, if_pos rfl, shl1 hk, nIor]
  | false => rw [if_neg (by decide), if_neg (by decide), show (0 : Int32) = nI 0 from rfl, nIor]
theorem l_letsBy (h : CT I c q) {l : Nat} (hl : l < qL q) : ∀ (m k n : Nat), k + m = qG q → m < n → b_X7_letsBy_4 I n (nI l) (nI (bm (lets q l) k)) (nI k) = some (nI (bm (lets q l) (qG q)))
  | 0, k, n + 1, hk, _ => by
    have h6 := h.G6
    rw [b_X7_letsBy_4, h.2.1.2.1, if_pos ((nIle (by omega) (by omega)).mpr (by omega)), show k = qG q by omega]
  | m + 1, k, n + 1, hk, hn => by
    have h6 := h.G6
    have ih := l_letsBy h hl m (k + 1) n (by omega) (by omega)
    rw [b_X7_letsBy_4, h.2.1.2.1, if_neg (by rw [nIle (by omega) (by omega)]; omega), m_lets h hl (by omega), obs]
    rw [← bm_s (by omega) _ rfl] at ih
    cases hb : lets q l k with
    | true => rw [hb] at ih; rw [if_pos rfl, b_X7_letsBy_29, nI_1]; exact ih
    | false => rw [hb] at ih; rw [if_neg (by decide), b_X7_letsBy_29, nI_1]; exact ih
theorem m_letsBy (h : CT I c q) {l : Nat} (hl : l < qL q) : f_X7_letsBy I (nI l) = some (nI (bm (lets q l) (qG q))) := by
  have h6 := h.G6
  rw [f_X7_letsBy]
  exact l_letsBy h hl (qG q) 0 2000 (by omega) (by omega)
theorem l_leavesOf (h : CT I c q) {g : Nat} (hg : g < qG q) : ∀ (m k n : Nat), k + m = qL q → m < n → b_X7_leavesOf_4 I n (nI g) (nI (bm (fun l => lets q l g) k)) (nI k) = some (nI (bm (fun l => lets q l g) (qL q)))
  | 0, k, n + 1, hk, _ => by
    have h6 := h.L5
    rw [b_X7_leavesOf_4, h.1.2.1, if_pos ((nIle (by omega) (by omega)).mpr (by omega)), show k = qL q by omega]
  | m + 1, k, n + 1, hk, hn => by
    have h6 := h.L5
    have ih := l_leavesOf h hg m (k + 1) n (by omega) (by omega)
    rw [b_X7_leavesOf_4, h.1.2.1, if_neg (by rw [nIle (by omega) (by omega)]; omega), m_lets h (by omega) hg, obs]
    rw [← bm_s (by omega) _ rfl] at ih
    cases hb : lets q k g with
    | true => rw [hb] at ih; rw [if_pos rfl, b_X7_leavesOf_29, nI_1]; exact ih
    | false => rw [hb] at ih; rw [if_neg (by decide), b_X7_leavesOf_29, nI_1]; exact ih
theorem m_leavesOf (h : CT I c q) {g : Nat} (hg : g < qG q) : f_X7_leavesOf I (nI g) = some (nI (bm (fun l => lets q l g) (qL q))) := by
  have h6 := h.L5
  rw [f_X7_leavesOf]
  exact l_leavesOf h hg (qL q) 0 2000 (by omega) (by omega)
theorem e_leafBehind (h : CT I c q) {a b : Nat} (ha : a < 1000) (hb : b < 1000) : f_X0_leafBehind c I (nI a) (nI b) = some (nI (if qL q = 0 then 0 else (a + b) % qL q)) := by
  have h5 := h.L5
  rw [f_X0_leafBehind, h.1.1]
  by_cases hz : qL q = 0
  · rw [if_pos ((nI_0iff (by omega)).mpr hz), if_pos hz]; rfl
  · rw [if_neg (fun h => hz ((nI_0iff (by omega)).mp h)), if_neg (fun h => hz ((nI_0iff (by omega)).mp h)), nI_add, pk_rem (by omega) (by omega) (by omega), if_neg hz]
end EV
