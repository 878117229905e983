/-- the class's GRID, made new: what gz does, in one -/
def gzS (S : SS) (g : Nat) (a : Int32) (N : Nat) : SS := (fun f i => if f = 14 ∧ 8 * g ≤ i ∧ i < 8 * g + N then upd (S.1 14 i) 0 a else if f = 15 ∧ 8 * g ≤ i ∧ i < 8 * g + N then zf (S.1 15 i) 8 else S.1 f i, S.2)
theorem gzS_14 (S : SS) (g : Nat) (a : Int32) (N i : Nat) : (gzS S g a N).1 14 i = if 8 * g ≤ i ∧ i < 8 * g + N then upd (S.1 14 i) 0 a else S.1 14 i := by
  unfold gzS
  by_cases c : 8 * g ≤ i ∧ i < 8 * g + N <;> simp [c]
theorem gzS_15 (S : SS) (g : Nat) (a : Int32) (N i : Nat) : (gzS S g a N).1 15 i = if 8 * g ≤ i ∧ i < 8 * g + N then zf (S.1 15 i) 8 else S.1 15 i := by
  unfold gzS
  by_cases c : 8 * g ≤ i ∧ i < 8 * g + N <;> simp [c]
theorem gzS_o (S : SS) (g : Nat) (a : Int32) (N : Nat) {f : Nat} (i : Nat) (h : f ≠ 14) (h' : f ≠ 15) : (gzS S g a N).1 f i = S.1 f i := by
  unfold gzS
  simp [h, h']
theorem gz_eq (S : SS) (g : Nat) (a : Int32) : ∀ N, gz S g a N = gzS S g a N
  | 0 => by
    refine Prod.ext ?_ rfl
    funext f i
    show S.1 f i = (gzS S g a 0).1 f i
    by_cases f14 : f = 14
    · subst f14; rw [gzS_14, if_neg (by omega)]
    · by_cases f15 : f = 15
      · subst f15; rw [gzS_15, if_neg (by omega)]
      · rw [gzS_o S g a 0 i f14 f15]
  | N + 1 => by
    show f_row14 (gz S g a N) (8 * g + N) a = _
    rw [gz_eq S g a N]
    refine Prod.ext ?_ rfl
    funext f i
    show (uI (zI (gzS S g a N) 15 (8 * g + N) 8) 14 (8 * g + N) 0 a).1 f i = (gzS S g a (N + 1)).1 f i
    by_cases f14 : f = 14
    · subst f14
      rw [gzS_14]
      by_cases e : i = 8 * g + N
      · subst e
        rw [row1, show (zI (gzS S g a N) 15 (8 * g + N) 8).1 14 (8 * g + N) = (gzS S g a N).1 14 (8 * g + N) from wI_ne _ _ _ _ (fun q => absurd q.1 (by decide)), gzS_14, if_neg (by omega), if_pos (by omega)]
      · rw [rowN _ _ _ _ _ e, show (zI (gzS S g a N) 15 (8 * g + N) 8).1 14 i = (gzS S g a N).1 14 i from wI_ne _ _ _ _ (fun q => absurd q.1 (by decide)), gzS_14]
        by_cases c : 8 * g ≤ i ∧ i < 8 * g + N
        · rw [if_pos c, if_pos (by omega)]
        · rw [if_neg c, if_neg (by omega)]
    · rw [show (uI (zI (gzS S g a N) 15 (8 * g + N) 8) 14 (8 * g + N) 0 a).1 f i = (zI (gzS S g a N) 15 (8 * g + N) 8).1 f i from wI_ne _ _ _ _ (fun q => f14 q.1)]
      by_cases f15 : f = 15
      · subst f15
        rw [gzS_15]
        by_cases e : i = 8 * g + N
        · subst e
          rw [show (zI (gzS S g a N) 15 (8 * g + N) 8).1 15 (8 * g + N) = zf ((gzS S g a N).1 15 (8 * g + N)) 8 from wI_eq _ _ _ _, gzS_15, if_neg (by omega), if_pos (by omega)]
        · rw [show (zI (gzS S g a N) 15 (8 * g + N) 8).1 15 i = (gzS S g a N).1 15 i from wI_ne _ _ _ _ (fun q => e q.2), gzS_15]
          by_cases c : 8 * g ≤ i ∧ i < 8 * g + N
          · rw [if_pos c, if_pos (by omega)]
          · rw [if_neg c, if_neg (by omega)]
      · rw [show (zI (gzS S g a N) 15 (8 * g + N) 8).1 f i = (gzS S g a N).1 f i from wI_ne _ _ _ _ (fun q => f15 q.1), gzS_o S g a N i f14 f15, gzS_o S g a (N + 1) i f14 f15]
/-- the reference's GRID, made new: what gm does, in one -/
def gr14 (r : Nat → Int32) (g N m : Nat) : Nat → Int32 := fun q => if 64 * g ≤ q ∧ q < 64 * g + 8 * N ∧ (q - 64 * g) % 8 < m then 0 else r q
def gmS (S : SS) (x1 x3 : Int32) (N : Nat) : SS := wI (wI S 18 13 (fzr (S.1 18 13) (8 * x1.toNatClampNeg) x3 N)) 18 14 (gr14 (S.1 18 14) x1.toNatClampNeg N x3.toNatClampNeg)
theorem wI_sw (S : SS) (a b : Nat → Int32) (c : Nat → Int32) : wI (wI (wI S 18 13 a) 18 14 b) 18 13 c = wI (wI S 18 13 c) 18 14 b := by
  unfold wI
  refine Prod.ext ?_ rfl
  funext f i
  by_cases h1 : f = 18 ∧ i = 13
  · obtain ⟨rfl, rfl⟩ := h1; simp
  · by_cases h2 : f = 18 ∧ i = 14
    · obtain ⟨rfl, rfl⟩ := h2; simp
    · simp [h1, h2]
theorem gm_eq (S : SS) (x1 x3 : Int32) (hm : x3.toNatClampNeg ≤ 8) : ∀ N, gm S x1 x3 N = gmS S x1 x3 N
  | 0 => by
    have e1 : fzr (S.1 18 13) (8 * x1.toNatClampNeg) x3 0 = S.1 18 13 := by funext q; unfold fzr; rw [if_neg (by omega)]
    have e2 : gr14 (S.1 18 14) x1.toNatClampNeg 0 x3.toNatClampNeg = S.1 18 14 := by funext q; unfold gr14; rw [if_neg (by omega)]
    unfold gmS
    rw [e1, e2, wI_same, wI_same]
    rfl
  | N + 1 => by
    show fz (uI (gm S x1 x3 N) 18 13 (8 * x1.toNatClampNeg + N) x3) 14 (64 * x1.toNatClampNeg + 8 * N) 0 x3.toNatClampNeg = _
    rw [gm_eq S x1 x3 hm N, fz_eq]
    have a1 : uI (gmS S x1 x3 N) 18 13 (8 * x1.toNatClampNeg + N) x3 = wI (wI S 18 13 (upd (fzr (S.1 18 13) (8 * x1.toNatClampNeg) x3 N) (8 * x1.toNatClampNeg + N) x3)) 18 14 (gr14 (S.1 18 14) x1.toNatClampNeg N x3.toNatClampNeg) := by
      unfold uI gmS
      rw [wI_sw]
      congr 2
    rw [a1, wI_wI]
    unfold gmS
    congr 1
    · congr 1
      funext q
      unfold upd fzr
      by_cases e : q = 8 * x1.toNatClampNeg + N
      · rw [if_pos e, if_pos (by omega)]
      · rw [if_neg e]
        by_cases e2 : 8 * x1.toNatClampNeg ≤ q ∧ q < 8 * x1.toNatClampNeg + N
        · rw [if_pos e2, if_pos (by omega)]
        · rw [if_neg e2, if_neg (by omega)]
    · funext q
      rw [wI_eq]
      unfold fzr gr14
      by_cases e : 64 * x1.toNatClampNeg + 8 * N ≤ q ∧ q < 64 * x1.toNatClampNeg + 8 * N + x3.toNatClampNeg
      · rw [if_pos e, if_pos (by omega)]
      · rw [if_neg e]
        by_cases e2 : 64 * x1.toNatClampNeg ≤ q ∧ q < 64 * x1.toNatClampNeg + 8 * N ∧ (q - 64 * x1.toNatClampNeg) % 8 < x3.toNatClampNeg
        · rw [if_pos e2, if_pos (by omega)]
        · rw [if_neg e2, if_neg (by omega)]
theorem grid_new {s12 s13 s14 z z' rz rz' : Nat → Int32} {ce ce' : Nat → Nat → Int32} (h : Grid s12 s13 s14 z rz ce) {g : Nat} {x y : Int32} (hx : vp_in x 9) (hy : vp_in y 9) (hz : ∀ t, z' t = if t = g then x else z t) (hr : ∀ i, rz' i = if 8 * g ≤ i ∧ i < 8 * g + x.toNatClampNeg then y else rz i) (hc : ∀ i, ce' i = if 8 * g ≤ i ∧ i < 8 * g + x.toNatClampNeg then zf (ce i) 8 else ce i) : Grid (upd s12 g x) (fzr s13 (8 * g) y x.toNatClampNeg) (gr14 s14 g x.toNatClampNeg y.toNatClampNeg) z' rz' ce' := by
  intro t ht
  obtain ⟨a, b, c⟩ := h t ht
  have hl := vp_lt hx
  have hs := vp_self hx (by decide)
  have hl2 := vp_lt hy
  have hs2 := vp_self hy (by decide)
  rw [hz t]
  by_cases e : t = g
  · subst e
    rw [if_pos rfl, updS]
    refine ⟨rfl, Or.inr ⟨x.toNatClampNeg, by omega, hs⟩, fun q hq hlt => ?_⟩
    rw [hs] at hlt
    have hq2 := (nI_ltI (by omega) (by omega)).mp hlt
    refine ⟨?_, ?_, fun j hj hlj => ?_⟩
    · rw [hr, if_pos (by omega)]
      unfold fzr
      rw [if_pos (by omega)]
    · rw [hr, if_pos (by omega)]
      exact Or.inr ⟨y.toNatClampNeg, by omega, hs2⟩
    · rw [hr, if_pos (by omega), hs2] at hlj
      have hj2 := (nI_ltI (by omega) (by omega)).mp hlj
      rw [hc, if_pos (by omega)]
      unfold gr14 zf
      rw [if_pos (by omega), if_pos hj]
  · rw [if_neg e, updN _ _ _ e]
    refine ⟨a, b, fun q hq hlt => ?_⟩
    obtain ⟨u, v, w⟩ := c q hq hlt
    refine ⟨?_, ?_, fun j hj hlj => ?_⟩
    · rw [hr, if_neg (by omega)]
      unfold fzr
      rw [if_neg (by omega)]
      exact u
    · rw [hr, if_neg (by omega)]
      exact v
    · rw [hr, if_neg (by omega)] at hlj
      rw [hc, if_neg (by omega)]
      unfold gr14
      rw [if_neg (by omega)]
      exact w j hj hlj
theorem gridB_new {s13 rz rz' : Nat → Int32} (h : GridB s13 rz) {g : Nat} {x y : Int32} (hy : y ≤ 8) (hr : ∀ i, rz' i = if 8 * g ≤ i ∧ i < 8 * g + x.toNatClampNeg then y else rz i) : GridB (fzr s13 (8 * g) y x.toNatClampNeg) rz' := by
  intro q hq
  rw [hr]
  unfold fzr
  split
  · exact ⟨hy, hy⟩
  · exact h q hq
theorem grid_set {s12 s13 s14 z rz rz' : Nat → Int32} {ce : Nat → Nat → Int32} (h : Grid s12 s13 s14 z rz ce) {g i : Nat} (hg : g < 2) (hi : i < 8) (hr : ∀ q, rz' q = if q = 8 * g + i then -1 else rz q) : Grid s12 (upd s13 (8 * g + i) (-1)) s14 z rz' ce := by
  intro t ht
  obtain ⟨a, b, c⟩ := h t ht
  refine ⟨a, b, fun q hq hlt => ?_⟩
  obtain ⟨u, v, w⟩ := c q hq hlt
  unfold Gr1
  rw [hr]
  by_cases e : 8 * t + q = 8 * g + i
  · rw [if_pos e, e, updS]
    exact ⟨rfl, Or.inl rfl, fun j hj hl => absurd hl (not_lt_m1 (by omega))⟩
  · rw [if_neg e, updN _ _ _ e]
    exact ⟨u, v, w⟩
theorem gridB_set {s13 rz rz' : Nat → Int32} (h : GridB s13 rz) {x : Nat} (hr : ∀ q, rz' q = if q = x then -1 else rz q) : GridB (upd s13 x (-1)) rz' := by
  intro q hq
  rw [hr]
  unfold upd
  split
  · exact ⟨by decide, by decide⟩
  · exact h q hq
theorem grid_mark {s12 s13 s14 z rz : Nat → Int32} {ce ce' : Nat → Nat → Int32} (h : Grid s12 s13 s14 z rz ce) {g i j : Nat} (hi : i < 8) (hj : j < 8) {v : Int32} (hc : ce' (8 * g + i) = upd (ce (8 * g + i)) j v) (hne : ∀ q, q ≠ 8 * g + i → ce' q = ce q) : Grid s12 s13 (upd s14 (64 * g + 8 * i + j) v) z rz ce' := by
  intro t ht
  obtain ⟨a, b, c⟩ := h t ht
  refine ⟨a, b, fun q hq hlt => ?_⟩
  obtain ⟨u, y, w⟩ := c q hq hlt
  refine ⟨u, y, fun p hp hl => ?_⟩
  by_cases e : 8 * t + q = 8 * g + i
  · have e1 : t = g := by omega
    have e2 : q = i := by omega
    subst e1
    subst e2
    rw [hc]
    by_cases e3 : p = j
    · subst e3; rw [updS, updS]
    · rw [updN _ _ _ (by omega), updN _ _ _ e3]; exact w p hp hl
  · rw [hne _ e, updN _ _ _ (by omega)]
    exact w p hp hl

set_option maxRecDepth 100000 in
theorem sm_grid {n : Nat} {S : SS} (hn : n < 600) (h : Rel n S) (x1 x2 x3 : Int32) : (f_X9_grid S x1 x2 x3).1 = (f_X10_grid (f_X9_grid S x1 x2 x3).2 x1 x2 x3).1 ∧ Rel n (f_X10_grid (f_X9_grid S x1 x2 x3).2 x1 x2 x3).2 := by
  obtain ⟨hM, hN, hH, hW, hT, hY, hK, hKB, hG, hGB, hL⟩ := id h
  by_cases h1 : wi x1 2 = true
  · have hj := vp_lt (wi_in h1 (N := 2) (by decide) (by decide))
    by_cases h2 : 8 < x2
    · have e1 : f_X9_grid S x1 x2 x3 = f_X9_refuse S (-3) := by unfold f_X9_grid; rw [if_pos h1, if_pos h2]
      rw [e1]
      have e2 : f_X10_grid (f_X9_refuse S (-3)).2 x1 x2 x3 = f_X10_refuses (f_X9_refuse S (-3)).2 (-3) := by
        unfold f_X10_grid
        rw [wj1, if_pos h1, if_pos h2]
      rw [e2]
      exact ⟨rfl, rel_ref h _⟩
    · by_cases h3 : x3 ≤ 8
      · by_cases h4 : x2 < 0
        · have e1 : f_X9_grid S x1 x2 x3 = f_X9_fail S 3 := by unfold f_X9_grid; rw [if_pos h1, if_neg h2, if_pos h3, if_pos h4]
          rw [e1]
          have e2 : f_X10_grid (f_X9_fail S 3).2 x1 x2 x3 = f_X10_fails (f_X9_fail S 3).2 3 := by
            unfold f_X10_grid
            rw [wj1, if_pos h1, if_neg h2, if_pos h3, if_pos h4]
          rw [e2]
          exact ⟨rfl, rel_fail h _ (by unfold vp_in; decide)⟩
        · by_cases h5 : 0 ≤ x3
          · have hv2 : vp_in x2 9 := grd_in h2 h4
            have hv3 : vp_in x3 9 := le_in h5 h3 (by decide)
            have hr : ∀ i, (uI (gzS S x1.toNatClampNeg x3 x2.toNatClampNeg) 12 x1.toNatClampNeg 0 x2).1 14 i 0 = if 8 * x1.toNatClampNeg ≤ i ∧ i < 8 * x1.toNatClampNeg + x2.toNatClampNeg then x3 else S.1 14 i 0 := fun i => by
              show (gzS S x1.toNatClampNeg x3 x2.toNatClampNeg).1 14 i 0 = _
              rw [gzS_14]
              by_cases c : 8 * x1.toNatClampNeg ≤ i ∧ i < 8 * x1.toNatClampNeg + x2.toNatClampNeg
              · rw [if_pos c, if_pos c, updS]
              · rw [if_neg c, if_neg c]
            have hce : ∀ i, (uI (gzS S x1.toNatClampNeg x3 x2.toNatClampNeg) 12 x1.toNatClampNeg 0 x2).1 15 i = if 8 * x1.toNatClampNeg ≤ i ∧ i < 8 * x1.toNatClampNeg + x2.toNatClampNeg then zf (S.1 15 i) 8 else S.1 15 i := fun i => by
              exact gzS_15 S x1.toNatClampNeg x3 x2.toNatClampNeg i
            have hG2 : Grid (upd (S.1 18 12) x1.toNatClampNeg x2) (fzr (S.1 18 13) (8 * x1.toNatClampNeg) x3 x2.toNatClampNeg) (gr14 (S.1 18 14) x1.toNatClampNeg x2.toNatClampNeg x3.toNatClampNeg) (fun t => (uI (gzS S x1.toNatClampNeg x3 x2.toNatClampNeg) 12 x1.toNatClampNeg 0 x2).1 12 t 0) (fun t => (uI (gzS S x1.toNatClampNeg x3 x2.toNatClampNeg) 12 x1.toNatClampNeg 0 x2).1 14 t 0) ((uI (gzS S x1.toNatClampNeg x3 x2.toNatClampNeg) 12 x1.toNatClampNeg 0 x2).1 15) := grid_new hG hv2 hv3 (fun t => rowZ (gzS S x1.toNatClampNeg x3 x2.toNatClampNeg) 12 x1.toNatClampNeg 0 x2 t) hr hce
            have hGB2 : GridB (fzr (S.1 18 13) (8 * x1.toNatClampNeg) x3 x2.toNatClampNeg) (fun t => (uI (gzS S x1.toNatClampNeg x3 x2.toNatClampNeg) 12 x1.toNatClampNeg 0 x2).1 14 t 0) := gridB_new hGB h3 hr
            have e1 : f_X9_grid S x1 x2 x3 = f_X9_done (uI (gzS S x1.toNatClampNeg x3 x2.toNatClampNeg) 12 x1.toNatClampNeg 0 x2) x2 := by unfold f_X9_grid; rw [if_pos h1, if_neg h2, if_pos h3, if_neg h4, if_pos h5]; unfold f_grid; rw [gz_eq]
            rw [e1]
            have e2 : f_X10_grid (f_X9_done (uI (gzS S x1.toNatClampNeg x3 x2.toNatClampNeg) 12 x1.toNatClampNeg 0 x2) x2).2 x1 x2 x3 = f_X10_says (gmS (uI (f_X9_done (uI (gzS S x1.toNatClampNeg x3 x2.toNatClampNeg) 12 x1.toNatClampNeg 0 x2) x2).2 18 12 x1.toNatClampNeg x2) x1 x3 x2.toNatClampNeg) x2 := by
              unfold f_X10_grid
              rw [wj1, if_pos h1, if_neg h2, if_pos h3, if_neg h4, if_pos h5, gm_eq _ _ _ (by have := vp_lt hv3; omega)]
            rw [e2]
            exact ⟨rfl, misc_ref hM 0, hN, hH, hW, hT, hY, hK, hKB, hG2, hGB2, hL⟩
          · have e1 : f_X9_grid S x1 x2 x3 = f_X9_fail S 3 := by unfold f_X9_grid; rw [if_pos h1, if_neg h2, if_pos h3, if_neg h4, if_neg h5]
            rw [e1]
            have e2 : f_X10_grid (f_X9_fail S 3).2 x1 x2 x3 = f_X10_fails (f_X9_fail S 3).2 3 := by
              unfold f_X10_grid
              rw [wj1, if_pos h1, if_neg h2, if_pos h3, if_neg h4, if_neg h5]
            rw [e2]
            exact ⟨rfl, rel_fail h _ (by unfold vp_in; decide)⟩
      · have e1 : f_X9_grid S x1 x2 x3 = f_X9_refuse S (-3) := by unfold f_X9_grid; rw [if_pos h1, if_neg h2, if_neg h3]
        rw [e1]
        have e2 : f_X10_grid (f_X9_refuse S (-3)).2 x1 x2 x3 = f_X10_refuses (f_X9_refuse S (-3)).2 (-3) := by
          unfold f_X10_grid
          rw [wj1, if_pos h1, if_neg h2, if_neg h3]
        rw [e2]
        exact ⟨rfl, rel_ref h _⟩
  · have e1 : f_X9_grid S x1 x2 x3 = f_X9_refuse S (-2) := by unfold f_X9_grid; rw [if_neg h1]
    rw [e1]
    have e2 : f_X10_grid (f_X9_refuse S (-2)).2 x1 x2 x3 = f_X10_refuses (f_X9_refuse S (-2)).2 (-2) := by
      unfold f_X10_grid
      rw [wj1, if_neg h1]
    rw [e2]
    exact ⟨rfl, rel_ref h _⟩

theorem le_of_sz {z : Int32} {N : Nat} (h : szOK z N) (hN : ¬ z = -1) (hb : N < 2 ^ 31 := by decide) : 0 ≤ z := by
  rcases h with q | ⟨k, hk, rfl⟩
  · exact absurd q hN
  · exact nI_pos' (by omega)

set_option maxRecDepth 100000 in
theorem sm_strike {n : Nat} {S : SS} (hn : n < 600) (h : Rel n S) (x1 x2 : Int32) : (f_X9_strike S x1 x2).1 = (f_X10_strike (f_X9_strike S x1 x2).2 x1 x2).1 ∧ Rel n (f_X10_strike (f_X9_strike S x1 x2).2 x1 x2).2 := by
  obtain ⟨hM, hN, hH, hW, hT, hY, hK, hKB, hG, hGB, hL⟩ := id h
  by_cases h1 : wi x1 2 = true
  · have hj := vp_lt (wi_in h1 (N := 2) (by decide) (by decide))
    have hv1 := wi_in h1 (N := 2) (by decide) (by decide)
    have e3 : pA S 12 x1.toNatClampNeg x2 = pL (S.1 18 12 x1.toNatClampNeg) x2 := by unfold pA; rw [(hG _ hj).1]; exact pA_pL (hG _ hj).2.1 (by decide)
    by_cases h5 : pA S 12 x1.toNatClampNeg x2 = 0
    · have hw2 := pA_0 h5
      have hv2 : vp_in x2 8 := wi_le hw2 (sz_le (hG _ hj).2.1 (by decide)) (by decide)
      have hlt := wi_lt hw2 hv2 (by decide)
      obtain ⟨u, v, w⟩ := (hG _ hj).2.2 _ (vp_lt hv2) hlt
      have hrr : ∀ q, (uI S 14 (8 * x1.toNatClampNeg + x2.toNatClampNeg) 0 (-1)).1 14 q 0 = if q = (8 * x1.toNatClampNeg + x2.toNatClampNeg) then -1 else S.1 14 q 0 := fun q => rowZ S 14 _ 0 (-1) q
      have hG2 : Grid (S.1 18 12) (upd (S.1 18 13) (8 * x1.toNatClampNeg + x2.toNatClampNeg) (-1)) (S.1 18 14) (fun t => S.1 12 t 0) (fun t => (uI S 14 (8 * x1.toNatClampNeg + x2.toNatClampNeg) 0 (-1)).1 14 t 0) (S.1 15) := grid_set hG hj (vp_lt hv2) hrr
      have hGB2 : GridB (upd (S.1 18 13) (8 * x1.toNatClampNeg + x2.toNatClampNeg) (-1)) (fun t => (uI S 14 (8 * x1.toNatClampNeg + x2.toNatClampNeg) 0 (-1)).1 14 t 0) := gridB_set hGB hrr
      by_cases h6 : S.1 14 (8 * x1.toNatClampNeg + x2.toNatClampNeg) 0 = -1
      · have e1 : f_X9_strike S x1 x2 = f_X9_done (uI S 14 (8 * x1.toNatClampNeg + x2.toNatClampNeg) 0 (-1)) 0 := by unfold f_X9_strike; rw [if_pos h1, if_pos h5]; unfold f_X5_vanish; rw [if_pos h6]; rfl
        rw [e1]
        have e2 : f_X10_strike (f_X9_done (uI S 14 (8 * x1.toNatClampNeg + x2.toNatClampNeg) 0 (-1)) 0).2 x1 x2 = f_X10_says (uI (f_X9_done (uI S 14 (8 * x1.toNatClampNeg + x2.toNatClampNeg) 0 (-1)) 0).2 18 13 (8 * x1.toNatClampNeg + x2.toNatClampNeg) (-1)) 0 := by
          unfold f_X10_strike
          rw [wj1, if_pos h1, if_pos (show pL ((f_X9_done (uI S 14 (8 * x1.toNatClampNeg + x2.toNatClampNeg) 0 (-1)) 0).2.1 18 12 x1.toNatClampNeg) x2 = 0 from e3.symm.trans h5), ixc (c := 8) 8 hv1 hv2 rfl (by decide) (by decide) (by decide), if_neg (show ¬ 0 ≤ (f_X9_done (uI S 14 (8 * x1.toNatClampNeg + x2.toNatClampNeg) 0 (-1)) 0).2.1 18 13 (8 * x1.toNatClampNeg + x2.toNatClampNeg) from fun q => absurd ((u.trans h6) ▸ q : (0 : Int32) ≤ -1) (by decide))]
        rw [e2]
        exact ⟨rfl, misc_ref hM 0, hN, hH, hW, hT, hY, hK, hKB, hG2, hGB2, hL⟩
      · have e1 : f_X9_strike S x1 x2 = f_X9_done (uI S 14 (8 * x1.toNatClampNeg + x2.toNatClampNeg) 0 (-1)) 1 := by unfold f_X9_strike; rw [if_pos h1, if_pos h5]; unfold f_X5_vanish; rw [if_neg h6]; rfl
        rw [e1]
        have e2 : f_X10_strike (f_X9_done (uI S 14 (8 * x1.toNatClampNeg + x2.toNatClampNeg) 0 (-1)) 1).2 x1 x2 = f_X10_says (uI (f_X9_done (uI S 14 (8 * x1.toNatClampNeg + x2.toNatClampNeg) 0 (-1)) 1).2 18 13 (8 * x1.toNatClampNeg + x2.toNatClampNeg) (-1)) 1 := by
          unfold f_X10_strike
          rw [wj1, if_pos h1, if_pos (show pL ((f_X9_done (uI S 14 (8 * x1.toNatClampNeg + x2.toNatClampNeg) 0 (-1)) 1).2.1 18 12 x1.toNatClampNeg) x2 = 0 from e3.symm.trans h5), ixc (c := 8) 8 hv1 hv2 rfl (by decide) (by decide) (by decide), if_pos (show 0 ≤ (f_X9_done (uI S 14 (8 * x1.toNatClampNeg + x2.toNatClampNeg) 0 (-1)) 1).2.1 18 13 (8 * x1.toNatClampNeg + x2.toNatClampNeg) from le_of_sz (u ▸ v) (fun q => h6 (u.symm.trans q)))]
        rw [e2]
        exact ⟨rfl, misc_ref hM 0, hN, hH, hW, hT, hY, hK, hKB, hG2, hGB2, hL⟩
    · have e1 : f_X9_strike S x1 x2 = f_X9_fail S (pA S 12 x1.toNatClampNeg x2) := by unfold f_X9_strike; rw [if_pos h1, if_neg h5]
      rw [e1]
      have e2 : f_X10_strike (f_X9_fail S (pA S 12 x1.toNatClampNeg x2)).2 x1 x2 = f_X10_fails (f_X9_fail S (pA S 12 x1.toNatClampNeg x2)).2 (pA S 12 x1.toNatClampNeg x2) := by
        unfold f_X10_strike
        rw [wj1, if_pos h1, show pL ((f_X9_fail S (pA S 12 x1.toNatClampNeg x2)).2.1 18 12 x1.toNatClampNeg) x2 = pA S 12 x1.toNatClampNeg x2 from e3.symm, if_neg h5]
      rw [e2]
      exact ⟨rfl, rel_fail h _ pA_in⟩
  · have e1 : f_X9_strike S x1 x2 = f_X9_refuse S (-2) := by unfold f_X9_strike; rw [if_neg h1]
    rw [e1]
    have e2 : f_X10_strike (f_X9_refuse S (-2)).2 x1 x2 = f_X10_refuses (f_X9_refuse S (-2)).2 (-2) := by
      unfold f_X10_strike
      rw [wj1, if_neg h1]
    rw [e2]
    exact ⟨rfl, rel_ref h _⟩

theorem pC_pD {n : Nat} {S S' : SS} {x1 x2 x3 : Int32} (hG : Grid (S.1 18 12) (S.1 18 13) (S.1 18 14) (fun t => S.1 12 t 0) (fun t => S.1 14 t 0) (S.1 15)) (hv1 : vp_in x1 2) (e12 : S'.1 18 12 = S.1 18 12) (e13 : S'.1 18 13 = S.1 18 13) : pC S x1.toNatClampNeg x2 x3 = pD S' x1 x2 x3 := by
  have hj := vp_lt hv1
  have e3 : pA S 12 x1.toNatClampNeg x2 = pL (S.1 18 12 x1.toNatClampNeg) x2 := by unfold pA; rw [(hG _ hj).1]; exact pA_pL (hG _ hj).2.1 (by decide)
  unfold pC pD
  rw [e12, e13, e3]
  by_cases h5 : pL (S.1 18 12 x1.toNatClampNeg) x2 = 0
  · rw [if_pos h5, if_pos h5]
    have h6 := e3.trans h5
    have hw2 := pA_0 h6
    have hv2 : vp_in x2 8 := wi_le hw2 (sz_le (hG _ hj).2.1 (by decide)) (by decide)
    have hlt := wi_lt hw2 hv2 (by decide)
    obtain ⟨u, v, w⟩ := (hG _ hj).2.2 _ (vp_lt hv2) hlt
    rw [ixc (c := 8) 8 hv1 hv2 rfl (by decide) (by decide) (by decide), u]
    unfold pA
    exact pA_pL v (by decide)
  · rw [if_neg h5, if_neg h5]

set_option maxRecDepth 100000 in
theorem sm_mark {n : Nat} {S : SS} (hn : n < 600) (h : Rel n S) (x1 x2 x3 x4 : Int32) : (f_X9_mark S x1 x2 x3 x4).1 = (f_X10_mark (f_X9_mark S x1 x2 x3 x4).2 x1 x2 x3 x4).1 ∧ Rel n (f_X10_mark (f_X9_mark S x1 x2 x3 x4).2 x1 x2 x3 x4).2 := by
  obtain ⟨hM, hN, hH, hW, hT, hY, hK, hKB, hG, hGB, hL⟩ := id h
  by_cases h1 : wi x1 2 = true
  · have hj := vp_lt (wi_in h1 (N := 2) (by decide) (by decide))
    have hv1 := wi_in h1 (N := 2) (by decide) (by decide)
    by_cases h5 : pC S x1.toNatClampNeg x2 x3 = 0
    · have hw2 := pA_0 (pC_0a h5)
      have hv2 : vp_in x2 8 := wi_le hw2 (sz_le (hG _ hj).2.1 (by decide)) (by decide)
      have hlt := wi_lt hw2 hv2 (by decide)
      obtain ⟨u, v, w⟩ := (hG _ hj).2.2 _ (vp_lt hv2) hlt
      have hw3 := pA_0 (pC_0b h5)
      have hv3 : vp_in x3 8 := wi_le hw3 (sz_le v (by decide)) (by decide)
      have hlt3 := wi_lt hw3 hv3 (by decide)
      have hix : (((64 * x1) + (8 * x2)) + x3).toNatClampNeg = 64 * x1.toNatClampNeg + 8 * x2.toNatClampNeg + x3.toNatClampNeg := by rw [ix3 hv1 hv2 hv3]; have := vp_lt hv2; have := vp_lt hv3; exact nI_clamp (by omega)
      have hG2 : Grid (S.1 18 12) (S.1 18 13) (upd (S.1 18 14) (64 * x1.toNatClampNeg + 8 * x2.toNatClampNeg + x3.toNatClampNeg) x4) (fun t => S.1 12 t 0) (fun t => S.1 14 t 0) ((uI S 15 (8 * x1.toNatClampNeg + x2.toNatClampNeg) x3.toNatClampNeg x4).1 15) := grid_mark hG (vp_lt hv2) (vp_lt hv3) (row1 _ _ _ _ _) (fun q hq => rowN _ _ _ _ _ hq)
      have e1 : f_X9_mark S x1 x2 x3 x4 = f_X9_done (uI S 15 (8 * x1.toNatClampNeg + x2.toNatClampNeg) x3.toNatClampNeg x4) 1 := by unfold f_X9_mark; rw [if_pos h1, if_pos h5]
      rw [e1]
      have e2 : f_X10_mark (f_X9_done (uI S 15 (8 * x1.toNatClampNeg + x2.toNatClampNeg) x3.toNatClampNeg x4) 1).2 x1 x2 x3 x4 = f_X10_says (uI (f_X9_done (uI S 15 (8 * x1.toNatClampNeg + x2.toNatClampNeg) x3.toNatClampNeg x4) 1).2 18 14 (64 * x1.toNatClampNeg + 8 * x2.toNatClampNeg + x3.toNatClampNeg) x4) 1 := by
        unfold f_X10_mark
        rw [wj1, if_pos h1, if_pos (show pD (f_X9_done (uI S 15 (8 * x1.toNatClampNeg + x2.toNatClampNeg) x3.toNatClampNeg x4) 1).2 x1 x2 x3 = 0 from (pC_pD (n := n) hG hv1 rfl rfl).symm.trans h5), hix]
      rw [e2]
      exact ⟨rfl, misc_ref hM 0, hN, hH, hW, hT, hY, hK, hKB, hG2, hGB, hL⟩
    · have e1 : f_X9_mark S x1 x2 x3 x4 = f_X9_fail S (pC S x1.toNatClampNeg x2 x3) := by unfold f_X9_mark; rw [if_pos h1, if_neg h5]
      rw [e1]
      have e2 : f_X10_mark (f_X9_fail S (pC S x1.toNatClampNeg x2 x3)).2 x1 x2 x3 x4 = f_X10_fails (f_X9_fail S (pC S x1.toNatClampNeg x2 x3)).2 (pC S x1.toNatClampNeg x2 x3) := by
        unfold f_X10_mark
        rw [wj1, if_pos h1, show pD (f_X9_fail S (pC S x1.toNatClampNeg x2 x3)).2 x1 x2 x3 = pC S x1.toNatClampNeg x2 x3 from (pC_pD (n := n) hG hv1 rfl rfl).symm, if_neg h5]
      rw [e2]
      exact ⟨rfl, rel_fail h _ pC_in⟩
  · have e1 : f_X9_mark S x1 x2 x3 x4 = f_X9_refuse S (-2) := by unfold f_X9_mark; rw [if_neg h1]
    rw [e1]
    have e2 : f_X10_mark (f_X9_refuse S (-2)).2 x1 x2 x3 x4 = f_X10_refuses (f_X9_refuse S (-2)).2 (-2) := by
      unfold f_X10_mark
      rw [wj1, if_neg h1]
    rw [e2]
    exact ⟨rfl, rel_ref h _⟩

set_option maxRecDepth 100000 in
theorem sm_cell {n : Nat} {S : SS} (hn : n < 600) (h : Rel n S) (x1 x2 x3 : Int32) : (f_X9_cell S x1 x2 x3).1 = (f_X10_cell (f_X9_cell S x1 x2 x3).2 x1 x2 x3).1 ∧ Rel n (f_X10_cell (f_X9_cell S x1 x2 x3).2 x1 x2 x3).2 := by
  obtain ⟨hM, hN, hH, hW, hT, hY, hK, hKB, hG, hGB, hL⟩ := id h
  by_cases h1 : wi x1 2 = true
  · have hj := vp_lt (wi_in h1 (N := 2) (by decide) (by decide))
    have hv1 := wi_in h1 (N := 2) (by decide) (by decide)
    by_cases h5 : pC S x1.toNatClampNeg x2 x3 = 0
    · have hw2 := pA_0 (pC_0a h5)
      have hv2 : vp_in x2 8 := wi_le hw2 (sz_le (hG _ hj).2.1 (by decide)) (by decide)
      have hlt := wi_lt hw2 hv2 (by decide)
      obtain ⟨u, v, w⟩ := (hG _ hj).2.2 _ (vp_lt hv2) hlt
      have hw3 := pA_0 (pC_0b h5)
      have hv3 : vp_in x3 8 := wi_le hw3 (sz_le v (by decide)) (by decide)
      have hlt3 := wi_lt hw3 hv3 (by decide)
      have hix : (((64 * x1) + (8 * x2)) + x3).toNatClampNeg = 64 * x1.toNatClampNeg + 8 * x2.toNatClampNeg + x3.toNatClampNeg := by rw [ix3 hv1 hv2 hv3]; have := vp_lt hv2; have := vp_lt hv3; exact nI_clamp (by omega)
      have e1 : f_X9_cell S x1 x2 x3 = f_X9_done S (S.1 15 (8 * x1.toNatClampNeg + x2.toNatClampNeg) x3.toNatClampNeg) := by unfold f_X9_cell; rw [if_pos h1, if_pos h5]
      rw [e1]
      have e2 : f_X10_cell (f_X9_done S (S.1 15 (8 * x1.toNatClampNeg + x2.toNatClampNeg) x3.toNatClampNeg)).2 x1 x2 x3 = (S.1 18 14 (64 * x1.toNatClampNeg + 8 * x2.toNatClampNeg + x3.toNatClampNeg), uI (f_X9_done S (S.1 15 (8 * x1.toNatClampNeg + x2.toNatClampNeg) x3.toNatClampNeg)).2 17 0 17 0) := by
        unfold f_X10_cell
        rw [wj1, if_pos h1, if_pos (show pD (uI (f_X9_done S (S.1 15 (8 * x1.toNatClampNeg + x2.toNatClampNeg) x3.toNatClampNeg)).2 17 0 17 0) x1 x2 x3 = 0 from (pC_pD (n := n) hG hv1 rfl rfl).symm.trans h5), hix]
        rfl
      rw [e2]
      exact ⟨(w _ (vp_lt hv3) hlt3).symm, misc_ref hM 0, hN, hH, hW, hT, hY, hK, hKB, hG, hGB, hL⟩
    · have e1 : f_X9_cell S x1 x2 x3 = f_X9_failWithZero S (pC S x1.toNatClampNeg x2 x3) := by unfold f_X9_cell; rw [if_pos h1, if_neg h5]
      rw [e1]
      have e2 : f_X10_cell (f_X9_failWithZero S (pC S x1.toNatClampNeg x2 x3)).2 x1 x2 x3 = (0, (f_X10_fails (uI (f_X9_failWithZero S (pC S x1.toNatClampNeg x2 x3)).2 17 0 17 0) (pC S x1.toNatClampNeg x2 x3)).2) := by
        unfold f_X10_cell
        rw [wj1, if_pos h1, show pD (uI (f_X9_failWithZero S (pC S x1.toNatClampNeg x2 x3)).2 17 0 17 0) x1 x2 x3 = pC S x1.toNatClampNeg x2 x3 from (pC_pD (n := n) hG hv1 rfl rfl).symm, if_neg h5]
      rw [e2]
      exact ⟨rfl, by dsimp only; exact rel_fail0 h _ pC_in⟩
  · have e1 : f_X9_cell S x1 x2 x3 = f_X9_refuseWithZero S (-2) := by unfold f_X9_cell; rw [if_neg h1]
    rw [e1]
    have e2 : f_X10_cell (f_X9_refuseWithZero S (-2)).2 x1 x2 x3 = (0, uI (f_X9_refuseWithZero S (-2)).2 17 0 17 (-2)) := by
      unfold f_X10_cell
      rw [wj1, if_neg h1]
    rw [e2]
    exact ⟨rfl, rel_ref0 h _⟩

theorem pT_hon {what k : Int32} (hw : vp_in what 3) (h : hon what k = none) : pT what k = 0 := by
  unfold hon at h
  unfold pT
  by_cases h0 : what = 0
  · rw [if_pos h0] at h
    rw [if_neg (by rw [h0]; decide), wj3]
    by_cases c : wi k 4 = true
    · rw [if_pos c] at h; cases h
    · rw [if_neg c]
  · rw [if_neg h0] at h
    by_cases h1 : what = 1
    · rw [if_pos h1] at h
      rw [if_neg (by rw [h1]; decide), wj3]
      by_cases c : wi k 4 = true
      · rw [if_pos c] at h; cases h
      · rw [if_neg c]
    · rw [if_neg h1] at h
      rw [if_pos (wh_2 hw h0 h1), wj1]
      by_cases c : wi k 2 = true
      · rw [if_pos c] at h; cases h
      · rw [if_neg c]
theorem hon_cases {what k : Int32} {x : Nat × Nat} (hw : vp_in what 3) (h : hon what k = some x) : ¬ pT what k = 0 ∧ ((what = 0 ∧ x = (8, k.toNatClampNeg) ∧ k.toNatClampNeg < 4) ∨ (¬ what = 0 ∧ what = 1 ∧ x = (10, k.toNatClampNeg) ∧ k.toNatClampNeg < 4) ∨ (¬ what = 0 ∧ ¬ what = 1 ∧ x = (12, k.toNatClampNeg) ∧ k.toNatClampNeg < 2)) := by
  unfold hon at h
  unfold pT
  by_cases h0 : what = 0
  · rw [if_pos h0] at h
    rw [if_neg (show ¬ what = 2 by rw [h0]; decide), wj3]
    by_cases c : wi k 4 = true
    · rw [if_pos c] at h
      rw [if_pos c]
      exact ⟨by decide, Or.inl ⟨h0, (Option.some.inj h).symm, vp_lt (wi_in c (N := 4) (by decide) (by decide))⟩⟩
    · rw [if_neg c] at h; cases h
  · rw [if_neg h0] at h
    by_cases h1 : what = 1
    · rw [if_pos h1] at h
      rw [if_neg (show ¬ what = 2 by rw [h1]; decide), wj3]
      by_cases c : wi k 4 = true
      · rw [if_pos c] at h
        rw [if_pos c]
        exact ⟨by decide, Or.inr (Or.inl ⟨h0, h1, (Option.some.inj h).symm, vp_lt (wi_in c (N := 4) (by decide) (by decide))⟩)⟩
      · rw [if_neg c] at h; cases h
    · rw [if_neg h1] at h
      rw [if_pos (wh_2 hw h0 h1), wj1]
      by_cases c : wi k 2 = true
      · rw [if_pos c] at h
        rw [if_pos c]
        exact ⟨by decide, Or.inr (Or.inr ⟨h0, h1, (Option.some.inj h).symm, vp_lt (wi_in c (N := 2) (by decide) (by decide))⟩)⟩
      · rw [if_neg c] at h; cases h

theorem sz_mono {z : Int32} {N M : Nat} (h : szOK z N) (hM : N ≤ M) : szOK z M := by
  rcases h with q | ⟨k, hk, q⟩
  · exact Or.inl q
  · exact Or.inr ⟨k, by omega, q⟩

set_option maxRecDepth 100000 in
theorem sm_lose {n : Nat} {S : SS} (hn : n < 600) (h : Rel n S) (x1 x2 : Int32) : (f_X9_lose S x1 x2).1 = (f_X10_lose (f_X9_lose S x1 x2).2 x1 x2).1 ∧ Rel n (f_X10_lose (f_X9_lose S x1 x2).2 x1 x2).2 := by
  obtain ⟨hM, hN, hH, hW, hT, hY, hK, hKB, hG, hGB, hL⟩ := id h
  by_cases h1 : wi x1 3 = true
  · have hv1 := wi_in h1 (N := 3) (by decide) (by decide)
    cases hr : hon x1 x2 with
    | none =>
      have e1 : f_X9_lose S x1 x2 = f_X9_refuse S (-2) := by unfold f_X9_lose; simp only [if_pos h1, hr]
      rw [e1]
      have e2 : f_X10_lose (f_X9_refuse S (-2)).2 x1 x2 = f_X10_refuses (f_X9_refuse S (-2)).2 (-2) := by
        unfold f_X10_lose
        rw [wj2, if_pos h1, if_pos (pT_hon hv1 hr)]
      rw [e2]
      exact ⟨rfl, rel_ref h _⟩
    | some x =>
      obtain ⟨hp, hc⟩ := hon_cases hv1 hr
      rcases hc with ⟨h0, hx, hk⟩ | ⟨h0, h0b, hx, hk⟩ | ⟨h0, h0b, hx, hk⟩
      · subst hx
        obtain ⟨u, v⟩ : S.1 18 7 x2.toNatClampNeg = S.1 8 x2.toNatClampNeg 0 ∧ szOK (S.1 8 x2.toNatClampNeg 0) 20 := ⟨(hY _ hk).1, sz_mono (hY _ hk).2.1 (by decide)⟩
        by_cases h6 : S.1 8 x2.toNatClampNeg 0 = -1
        · have hC2 : Tray (upd (S.1 18 7) x2.toNatClampNeg (-1)) (S.1 18 8) (fun t => (uI S 8 x2.toNatClampNeg 0 (-1)).1 8 t 0) (S.1 9) := tray_lose hY _ (fun t => rowZ S 8 _ 0 (-1) t)
          have e1 : f_X9_lose S x1 x2 = f_X9_done (uI S 8 x2.toNatClampNeg 0 (-1)) 0 := by unfold f_X9_lose; simp only [if_pos h1, hr]; unfold f_X5_vanish; rw [if_pos h6]; rfl
          rw [e1]
          have e2 : f_X10_lose (f_X9_done (uI S 8 x2.toNatClampNeg 0 (-1)) 0).2 x1 x2 = f_X10_says (uI (f_X9_done (uI S 8 x2.toNatClampNeg 0 (-1)) 0).2 18 7 x2.toNatClampNeg (-1)) 0 := by
            unfold f_X10_lose
            rw [wj2, if_pos h1, if_neg hp, if_neg (show ¬ 0 ≤ pZ (f_X9_done (uI S 8 x2.toNatClampNeg 0 (-1)) 0).2 x1 x2 by rw [show pZ (f_X9_done (uI S 8 x2.toNatClampNeg 0 (-1)) 0).2 x1 x2 = S.1 18 7 x2.toNatClampNeg by unfold pZ; rw [if_pos h0]; rfl, u, h6]; decide), if_pos h0]
          rw [e2]
          exact ⟨rfl, misc_ref hM 0, hN, hH, hW, hT, hC2, hK, hKB, hG, hGB, hL⟩
        · have hC2 : Tray (upd (S.1 18 7) x2.toNatClampNeg (-1)) (S.1 18 8) (fun t => (uI S 8 x2.toNatClampNeg 0 (-1)).1 8 t 0) (S.1 9) := tray_lose hY _ (fun t => rowZ S 8 _ 0 (-1) t)
          have e1 : f_X9_lose S x1 x2 = f_X9_done (uI S 8 x2.toNatClampNeg 0 (-1)) 1 := by unfold f_X9_lose; simp only [if_pos h1, hr]; unfold f_X5_vanish; rw [if_neg h6]; rfl
          rw [e1]
          have e2 : f_X10_lose (f_X9_done (uI S 8 x2.toNatClampNeg 0 (-1)) 1).2 x1 x2 = f_X10_says (uI (f_X9_done (uI S 8 x2.toNatClampNeg 0 (-1)) 1).2 18 7 x2.toNatClampNeg (-1)) 1 := by
            unfold f_X10_lose
            rw [wj2, if_pos h1, if_neg hp, if_pos (show 0 ≤ pZ (f_X9_done (uI S 8 x2.toNatClampNeg 0 (-1)) 1).2 x1 x2 by rw [show pZ (f_X9_done (uI S 8 x2.toNatClampNeg 0 (-1)) 1).2 x1 x2 = S.1 18 7 x2.toNatClampNeg by unfold pZ; rw [if_pos h0]; rfl, u]; exact le_of_sz v h6), if_pos h0]
          rw [e2]
          exact ⟨rfl, misc_ref hM 0, hN, hH, hW, hT, hC2, hK, hKB, hG, hGB, hL⟩
      · subst hx
        obtain ⟨u, v⟩ : S.1 18 9 x2.toNatClampNeg = S.1 10 x2.toNatClampNeg 0 ∧ szOK (S.1 10 x2.toNatClampNeg 0) 20 := ⟨(hK _ hk).1, sz_mono (hK _ hk).2.1 (by decide)⟩
        by_cases h6 : S.1 10 x2.toNatClampNeg 0 = -1
        · have hC2 : Rack (upd (S.1 18 9) x2.toNatClampNeg (-1)) (S.1 18 10) (S.1 18 11) (fun t => (uI S 10 x2.toNatClampNeg 0 (-1)).1 10 t 0) (fun t => (uI S 10 x2.toNatClampNeg 0 (-1)).1 10 t 2) (S.2 11) := rack_lose hK _ (fun t => rowZ S 10 _ 0 (-1) t) (fun t => rowZ2 S 10 _ 0 (-1) t 2 (by decide))
          have e1 : f_X9_lose S x1 x2 = f_X9_done (uI S 10 x2.toNatClampNeg 0 (-1)) 0 := by unfold f_X9_lose; simp only [if_pos h1, hr]; unfold f_X5_vanish; rw [if_pos h6]; rfl
          rw [e1]
          have e2 : f_X10_lose (f_X9_done (uI S 10 x2.toNatClampNeg 0 (-1)) 0).2 x1 x2 = f_X10_says (uI (f_X9_done (uI S 10 x2.toNatClampNeg 0 (-1)) 0).2 18 9 x2.toNatClampNeg (-1)) 0 := by
            unfold f_X10_lose
            rw [wj2, if_pos h1, if_neg hp, if_neg (show ¬ 0 ≤ pZ (f_X9_done (uI S 10 x2.toNatClampNeg 0 (-1)) 0).2 x1 x2 by rw [show pZ (f_X9_done (uI S 10 x2.toNatClampNeg 0 (-1)) 0).2 x1 x2 = S.1 18 9 x2.toNatClampNeg by unfold pZ; rw [if_neg h0, if_pos h0b]; rfl, u, h6]; decide), if_neg h0, if_pos h0b]
          rw [e2]
          exact ⟨rfl, misc_ref hM 0, hN, hH, hW, hT, hY, hC2, hKB, hG, hGB, hL⟩
        · have hC2 : Rack (upd (S.1 18 9) x2.toNatClampNeg (-1)) (S.1 18 10) (S.1 18 11) (fun t => (uI S 10 x2.toNatClampNeg 0 (-1)).1 10 t 0) (fun t => (uI S 10 x2.toNatClampNeg 0 (-1)).1 10 t 2) (S.2 11) := rack_lose hK _ (fun t => rowZ S 10 _ 0 (-1) t) (fun t => rowZ2 S 10 _ 0 (-1) t 2 (by decide))
          have e1 : f_X9_lose S x1 x2 = f_X9_done (uI S 10 x2.toNatClampNeg 0 (-1)) 1 := by unfold f_X9_lose; simp only [if_pos h1, hr]; unfold f_X5_vanish; rw [if_neg h6]; rfl
          rw [e1]
          have e2 : f_X10_lose (f_X9_done (uI S 10 x2.toNatClampNeg 0 (-1)) 1).2 x1 x2 = f_X10_says (uI (f_X9_done (uI S 10 x2.toNatClampNeg 0 (-1)) 1).2 18 9 x2.toNatClampNeg (-1)) 1 := by
            unfold f_X10_lose
            rw [wj2, if_pos h1, if_neg hp, if_pos (show 0 ≤ pZ (f_X9_done (uI S 10 x2.toNatClampNeg 0 (-1)) 1).2 x1 x2 by rw [show pZ (f_X9_done (uI S 10 x2.toNatClampNeg 0 (-1)) 1).2 x1 x2 = S.1 18 9 x2.toNatClampNeg by unfold pZ; rw [if_neg h0, if_pos h0b]; rfl, u]; exact le_of_sz v h6), if_neg h0, if_pos h0b]
          rw [e2]
          exact ⟨rfl, misc_ref hM 0, hN, hH, hW, hT, hY, hC2, hKB, hG, hGB, hL⟩
      · subst hx
        obtain ⟨u, v⟩ : S.1 18 12 x2.toNatClampNeg = S.1 12 x2.toNatClampNeg 0 ∧ szOK (S.1 12 x2.toNatClampNeg 0) 20 := ⟨(hG _ hk).1, sz_mono (hG _ hk).2.1 (by decide)⟩
        by_cases h6 : S.1 12 x2.toNatClampNeg 0 = -1
        · have hC2 : Grid (upd (S.1 18 12) x2.toNatClampNeg (-1)) (S.1 18 13) (S.1 18 14) (fun t => (uI S 12 x2.toNatClampNeg 0 (-1)).1 12 t 0) (fun t => S.1 14 t 0) (S.1 15) := grid_lose hG _ (fun t => rowZ S 12 _ 0 (-1) t)
          have e1 : f_X9_lose S x1 x2 = f_X9_done (uI S 12 x2.toNatClampNeg 0 (-1)) 0 := by unfold f_X9_lose; simp only [if_pos h1, hr]; unfold f_X5_vanish; rw [if_pos h6]; rfl
          rw [e1]
          have e2 : f_X10_lose (f_X9_done (uI S 12 x2.toNatClampNeg 0 (-1)) 0).2 x1 x2 = f_X10_says (uI (f_X9_done (uI S 12 x2.toNatClampNeg 0 (-1)) 0).2 18 12 x2.toNatClampNeg (-1)) 0 := by
            unfold f_X10_lose
            rw [wj2, if_pos h1, if_neg hp, if_neg (show ¬ 0 ≤ pZ (f_X9_done (uI S 12 x2.toNatClampNeg 0 (-1)) 0).2 x1 x2 by rw [show pZ (f_X9_done (uI S 12 x2.toNatClampNeg 0 (-1)) 0).2 x1 x2 = S.1 18 12 x2.toNatClampNeg by unfold pZ; rw [if_neg h0, if_neg h0b]; rfl, u, h6]; decide), if_neg h0, if_neg h0b]
          rw [e2]
          exact ⟨rfl, misc_ref hM 0, hN, hH, hW, hT, hY, hK, hKB, hC2, hGB, hL⟩
        · have hC2 : Grid (upd (S.1 18 12) x2.toNatClampNeg (-1)) (S.1 18 13) (S.1 18 14) (fun t => (uI S 12 x2.toNatClampNeg 0 (-1)).1 12 t 0) (fun t => S.1 14 t 0) (S.1 15) := grid_lose hG _ (fun t => rowZ S 12 _ 0 (-1) t)
          have e1 : f_X9_lose S x1 x2 = f_X9_done (uI S 12 x2.toNatClampNeg 0 (-1)) 1 := by unfold f_X9_lose; simp only [if_pos h1, hr]; unfold f_X5_vanish; rw [if_neg h6]; rfl
          rw [e1]
          have e2 : f_X10_lose (f_X9_done (uI S 12 x2.toNatClampNeg 0 (-1)) 1).2 x1 x2 = f_X10_says (uI (f_X9_done (uI S 12 x2.toNatClampNeg 0 (-1)) 1).2 18 12 x2.toNatClampNeg (-1)) 1 := by
            unfold f_X10_lose
            rw [wj2, if_pos h1, if_neg hp, if_pos (show 0 ≤ pZ (f_X9_done (uI S 12 x2.toNatClampNeg 0 (-1)) 1).2 x1 x2 by rw [show pZ (f_X9_done (uI S 12 x2.toNatClampNeg 0 (-1)) 1).2 x1 x2 = S.1 18 12 x2.toNatClampNeg by unfold pZ; rw [if_neg h0, if_neg h0b]; rfl, u]; exact le_of_sz v h6), if_neg h0, if_neg h0b]
          rw [e2]
          exact ⟨rfl, misc_ref hM 0, hN, hH, hW, hT, hY, hK, hKB, hC2, hGB, hL⟩
  · have e1 : f_X9_lose S x1 x2 = f_X9_refuse S (-3) := by unfold f_X9_lose; rw [if_neg h1]
    rw [e1]
    have e2 : f_X10_lose (f_X9_refuse S (-3)).2 x1 x2 = f_X10_refuses (f_X9_refuse S (-3)).2 (-3) := by
      unfold f_X10_lose
      rw [wj2, if_neg h1]
    rw [e2]
    exact ⟨rfl, rel_ref h _⟩

set_option maxRecDepth 100000 in
theorem sm_length {n : Nat} {S : SS} (hn : n < 600) (h : Rel n S) (x1 x2 : Int32) : (f_X9_length S x1 x2).1 = (f_X10_length (f_X9_length S x1 x2).2 x1 x2).1 ∧ Rel n (f_X10_length (f_X9_length S x1 x2).2 x1 x2).2 := by
  obtain ⟨hM, hN, hH, hW, hT, hY, hK, hKB, hG, hGB, hL⟩ := id h
  by_cases h1 : wi x1 3 = true
  · have hv1 := wi_in h1 (N := 3) (by decide) (by decide)
    cases hr : hon x1 x2 with
    | none =>
      have e1 : f_X9_length S x1 x2 = f_X9_refuse S (-2) := by unfold f_X9_length; simp only [if_pos h1, hr]
      rw [e1]
      have e2 : f_X10_length (f_X9_refuse S (-2)).2 x1 x2 = f_X10_refuses (f_X9_refuse S (-2)).2 (-2) := by
        unfold f_X10_length
        rw [wj2, if_pos h1, if_pos (pT_hon hv1 hr)]
      rw [e2]
      exact ⟨rfl, rel_ref h _⟩
    | some x =>
      obtain ⟨hp, hc⟩ := hon_cases hv1 hr
      rcases hc with ⟨h0, hx, hk⟩ | ⟨h0, h0b, hx, hk⟩ | ⟨h0, h0b, hx, hk⟩
      · subst hx
        obtain ⟨u, v⟩ : S.1 18 7 x2.toNatClampNeg = S.1 8 x2.toNatClampNeg 0 ∧ szOK (S.1 8 x2.toNatClampNeg 0) 20 := ⟨(hY _ hk).1, sz_mono (hY _ hk).2.1 (by decide)⟩
        by_cases h6 : S.1 8 x2.toNatClampNeg 0 = -1
        · have e1 : f_X9_length S x1 x2 = f_X9_fail S 1 := by unfold f_X9_length; simp only [if_pos h1, hr]; exact if_pos h6
          rw [e1]
          have e2 : f_X10_length (f_X9_fail S 1).2 x1 x2 = f_X10_fails (f_X9_fail S 1).2 1 := by
            unfold f_X10_length
            rw [wj2, if_pos h1, if_neg hp, if_neg (show ¬ 0 ≤ pZ (f_X9_fail S 1).2 x1 x2 by rw [show pZ (f_X9_fail S 1).2 x1 x2 = S.1 18 7 x2.toNatClampNeg by unfold pZ; rw [if_pos h0]; rfl, u, h6]; decide)]
          rw [e2]
          exact ⟨rfl, rel_fail h _ one_in⟩
        · have e1 : f_X9_length S x1 x2 = f_X9_done S (S.1 8 x2.toNatClampNeg 0) := by unfold f_X9_length; simp only [if_pos h1, hr]; exact if_neg h6
          rw [e1]
          have e2 : f_X10_length (f_X9_done S (S.1 8 x2.toNatClampNeg 0)).2 x1 x2 = f_X10_says (f_X9_done S (S.1 8 x2.toNatClampNeg 0)).2 (S.1 18 7 x2.toNatClampNeg) := by
            unfold f_X10_length
            rw [wj2, if_pos h1, if_neg hp, if_pos (show 0 ≤ pZ (f_X9_done S (S.1 8 x2.toNatClampNeg 0)).2 x1 x2 by rw [show pZ (f_X9_done S (S.1 8 x2.toNatClampNeg 0)).2 x1 x2 = S.1 18 7 x2.toNatClampNeg by unfold pZ; rw [if_pos h0]; rfl, u]; exact le_of_sz v h6), show pZ (f_X9_done S (S.1 8 x2.toNatClampNeg 0)).2 x1 x2 = S.1 18 7 x2.toNatClampNeg by unfold pZ; rw [if_pos h0]; rfl]
          rw [e2]
          exact ⟨u.symm, misc_ref hM 0, hN, hH, hW, hT, hY, hK, hKB, hG, hGB, hL⟩
      · subst hx
        obtain ⟨u, v⟩ : S.1 18 9 x2.toNatClampNeg = S.1 10 x2.toNatClampNeg 0 ∧ szOK (S.1 10 x2.toNatClampNeg 0) 20 := ⟨(hK _ hk).1, sz_mono (hK _ hk).2.1 (by decide)⟩
        by_cases h6 : S.1 10 x2.toNatClampNeg 0 = -1
        · have e1 : f_X9_length S x1 x2 = f_X9_fail S 1 := by unfold f_X9_length; simp only [if_pos h1, hr]; exact if_pos h6
          rw [e1]
          have e2 : f_X10_length (f_X9_fail S 1).2 x1 x2 = f_X10_fails (f_X9_fail S 1).2 1 := by
            unfold f_X10_length
            rw [wj2, if_pos h1, if_neg hp, if_neg (show ¬ 0 ≤ pZ (f_X9_fail S 1).2 x1 x2 by rw [show pZ (f_X9_fail S 1).2 x1 x2 = S.1 18 9 x2.toNatClampNeg by unfold pZ; rw [if_neg h0, if_pos h0b]; rfl, u, h6]; decide)]
          rw [e2]
          exact ⟨rfl, rel_fail h _ one_in⟩
        · have e1 : f_X9_length S x1 x2 = f_X9_done S (S.1 10 x2.toNatClampNeg 0) := by unfold f_X9_length; simp only [if_pos h1, hr]; exact if_neg h6
          rw [e1]
          have e2 : f_X10_length (f_X9_done S (S.1 10 x2.toNatClampNeg 0)).2 x1 x2 = f_X10_says (f_X9_done S (S.1 10 x2.toNatClampNeg 0)).2 (S.1 18 9 x2.toNatClampNeg) := by
            unfold f_X10_length
            rw [wj2, if_pos h1, if_neg hp, if_pos (show 0 ≤ pZ (f_X9_done S (S.1 10 x2.toNatClampNeg 0)).2 x1 x2 by rw [show pZ (f_X9_done S (S.1 10 x2.toNatClampNeg 0)).2 x1 x2 = S.1 18 9 x2.toNatClampNeg by unfold pZ; rw [if_neg h0, if_pos h0b]; rfl, u]; exact le_of_sz v h6), show pZ (f_X9_done S (S.1 10 x2.toNatClampNeg 0)).2 x1 x2 = S.1 18 9 x2.toNatClampNeg by unfold pZ; rw [if_neg h0, if_pos h0b]; rfl]
          rw [e2]
          exact ⟨u.symm, misc_ref hM 0, hN, hH, hW, hT, hY, hK, hKB, hG, hGB, hL⟩
      · subst hx
        obtain ⟨u, v⟩ : S.1 18 12 x2.toNatClampNeg = S.1 12 x2.toNatClampNeg 0 ∧ szOK (S.1 12 x2.toNatClampNeg 0) 20 := ⟨(hG _ hk).1, sz_mono (hG _ hk).2.1 (by decide)⟩
        by_cases h6 : S.1 12 x2.toNatClampNeg 0 = -1
        · have e1 : f_X9_length S x1 x2 = f_X9_fail S 1 := by unfold f_X9_length; simp only [if_pos h1, hr]; exact if_pos h6
          rw [e1]
          have e2 : f_X10_length (f_X9_fail S 1).2 x1 x2 = f_X10_fails (f_X9_fail S 1).2 1 := by
            unfold f_X10_length
            rw [wj2, if_pos h1, if_neg hp, if_neg (show ¬ 0 ≤ pZ (f_X9_fail S 1).2 x1 x2 by rw [show pZ (f_X9_fail S 1).2 x1 x2 = S.1 18 12 x2.toNatClampNeg by unfold pZ; rw [if_neg h0, if_neg h0b]; rfl, u, h6]; decide)]
          rw [e2]
          exact ⟨rfl, rel_fail h _ one_in⟩
        · have e1 : f_X9_length S x1 x2 = f_X9_done S (S.1 12 x2.toNatClampNeg 0) := by unfold f_X9_length; simp only [if_pos h1, hr]; exact if_neg h6
          rw [e1]
          have e2 : f_X10_length (f_X9_done S (S.1 12 x2.toNatClampNeg 0)).2 x1 x2 = f_X10_says (f_X9_done S (S.1 12 x2.toNatClampNeg 0)).2 (S.1 18 12 x2.toNatClampNeg) := by
            unfold f_X10_length
            rw [wj2, if_pos h1, if_neg hp, if_pos (show 0 ≤ pZ (f_X9_done S (S.1 12 x2.toNatClampNeg 0)).2 x1 x2 by rw [show pZ (f_X9_done S (S.1 12 x2.toNatClampNeg 0)).2 x1 x2 = S.1 18 12 x2.toNatClampNeg by unfold pZ; rw [if_neg h0, if_neg h0b]; rfl, u]; exact le_of_sz v h6), show pZ (f_X9_done S (S.1 12 x2.toNatClampNeg 0)).2 x1 x2 = S.1 18 12 x2.toNatClampNeg by unfold pZ; rw [if_neg h0, if_neg h0b]; rfl]
          rw [e2]
          exact ⟨u.symm, misc_ref hM 0, hN, hH, hW, hT, hY, hK, hKB, hG, hGB, hL⟩
  · have e1 : f_X9_length S x1 x2 = f_X9_refuse S (-3) := by unfold f_X9_length; rw [if_neg h1]
    rw [e1]
    have e2 : f_X10_length (f_X9_refuse S (-3)).2 x1 x2 = f_X10_refuses (f_X9_refuse S (-3)).2 (-3) := by
      unfold f_X10_length
      rw [wj2, if_neg h1]
    rw [e2]
    exact ⟨rfl, rel_ref h _⟩
