theorem pA_pL {z x : Int32} {N : Nat} (hz : szOK z N) (hN : N < 2 ^ 30) : (if z = -1 then (1 : Int32) else if wi x z = true then 0 else 2) = pL z x := by
  rcases hz with rfl | ⟨k, hk, rfl⟩
  · rfl
  · have h0 : (0 : Int32) ≤ nI k := nI_pos' (by omega)
    have e1 : (1 : Int32).toInt = 1 := by decide
    have hi := nI_toInt (n := k) (by omega)
    have f : (nI k - 1).toInt = (nI k).toInt - 1 := by
      rw [Int32.toInt_sub, e1]
      exact Int.bmod_eq_of_le (by omega) (by omega)
    have hw : wj x 0 (nI k - 1) = wi x (nI k) := by
      unfold wj wi
      rw [decide_eq_decide.mpr (show x ≤ nI k - 1 ↔ x < nI k by rw [Int32.le_iff_toInt_le, Int32.lt_iff_toInt_lt, f]; omega)]
    unfold pL
    rw [if_neg (nI_nm1 (by omega)), if_pos h0, hw]
theorem wi_lt {x z : Int32} {N : Nat} (h : wi x z = true) (hv : vp_in x N) (hN : N < 2 ^ 31) : nI x.toNatClampNeg < z := by
  rw [← vp_self hv hN]
  unfold wi at h
  simp only [Bool.and_eq_true, decide_eq_true_eq] at h
  exact h.2
theorem ixc {a b : Int32} {A B c : Nat} (C : Int32) (ha : vp_in a A) (hb : vp_in b B) (hC : C = nI c) (hs : c * A + B < 2 ^ 31) (hA : A < 2 ^ 31) (hB : B < 2 ^ 31) : (C * a + b).toNatClampNeg = c * a.toNatClampNeg + b.toNatClampNeg := by
  rw [ixm ha hb C hC hs hA hB]
  have h1 := vp_lt ha
  have h2 := vp_lt hb
  have h3 : c * a.toNatClampNeg ≤ c * A := Nat.mul_le_mul_left c (by omega)
  rw [nI_clamp (by omega)]
theorem not_lt_m1 {i : Nat} (hi : i < 2 ^ 31) : ¬ nI i < -1 := fun q => by
  have h0 := nI_pos' hi
  have := Int32.lt_of_le_of_lt h0 q
  exact absurd this (by decide)
theorem rowZ (S : SS) (f i k : Nat) (v : Int32) (j : Nat) : (uI S f i k v).1 f j k = if j = i then v else S.1 f j k := by
  rw [uI_at]
  by_cases h : j = i <;> simp [h]
theorem tray_put {s7 s8 z : Nat → Int32} {it it' : Nat → Nat → Int32} (h : Tray s7 s8 z it) {j i : Nat} (hi : i < 20) {v : Int32} (hj : it' j = upd (it j) i v) (hne : ∀ t, t ≠ j → it' t = it t) : Tray s7 (upd s8 (20 * j + i) v) z it' := by
  intro t ht
  obtain ⟨a, b, c⟩ := h t ht
  refine ⟨a, b, fun q hq hz => ?_⟩
  by_cases e : t = j
  · subst e
    rw [hj]
    by_cases e2 : q = i
    · subst e2; rw [updS, updS]
    · rw [updN _ _ _ (by omega), updN _ _ _ e2]; exact c q hq hz
  · rw [hne t e, updN _ _ _ (by omega)]; exact c q hq hz
theorem tray_lose {s7 s8 z z' : Nat → Int32} {it : Nat → Nat → Int32} (h : Tray s7 s8 z it) (j : Nat) (hz : ∀ t, z' t = if t = j then -1 else z t) : Tray (upd s7 j (-1)) s8 z' it := by
  intro t ht
  obtain ⟨a, b, c⟩ := h t ht
  rw [hz t]
  by_cases e : t = j
  · subst e
    rw [if_pos rfl, updS]
    exact ⟨rfl, Or.inl rfl, fun q hq hl => absurd hl (not_lt_m1 (by omega))⟩
  · rw [if_neg e, updN _ _ _ e]
    exact ⟨a, b, c⟩
theorem rack_lose {s9 s10 s11 z z' so so' : Nat → Int32} {pl : Nat → Nat → Option Nat} (h : Rack s9 s10 s11 z so pl) (j : Nat) (hz : ∀ t, z' t = if t = j then -1 else z t) (hso : ∀ t, so' t = so t) : Rack (upd s9 j (-1)) s10 s11 z' so' pl := by
  intro t ht
  obtain ⟨a, b, d, c⟩ := h t ht
  rw [hz t, hso t]
  by_cases e : t = j
  · subst e
    rw [if_pos rfl, updS]
    exact ⟨rfl, Or.inl rfl, d, fun q hq hl => absurd hl (not_lt_m1 (by omega))⟩
  · rw [if_neg e, updN _ _ _ e]
    exact ⟨a, b, d, c⟩
theorem grid_lose {s12 s13 s14 z z' rz : Nat → Int32} {ce : Nat → Nat → Int32} (h : Grid s12 s13 s14 z rz ce) (j : Nat) (hz : ∀ t, z' t = if t = j then -1 else z t) : Grid (upd s12 j (-1)) s13 s14 z' rz ce := by
  intro t ht
  obtain ⟨a, b, c⟩ := h t ht
  rw [hz t]
  by_cases e : t = j
  · subst e
    rw [if_pos rfl, updS]
    exact ⟨rfl, Or.inl rfl, fun q hq hl => absurd hl (not_lt_m1 (by omega))⟩
  · rw [if_neg e, updN _ _ _ e]
    exact ⟨a, b, c⟩
def fzr (r : Nat → Int32) (b : Nat) (v : Int32) (k : Nat) : Nat → Int32 := fun q => if b ≤ q ∧ q < b + k then v else r q
theorem fz_eq (S : SS) (a b : Nat) (v : Int32) : ∀ k, fz S a b v k = wI S 18 a (fzr (S.1 18 a) b v k)
  | 0 => by
    have : fzr (S.1 18 a) b v 0 = S.1 18 a := by funext q; unfold fzr; rw [if_neg (by omega)]
    rw [this, wI_same]; rfl
  | k + 1 => by
    show uI (fz S a b v k) 18 a (b + k) v = _
    rw [fz_eq S a b v k, uI_wI]
    congr 1
    funext q
    unfold upd fzr
    by_cases e : q = b + k
    · subst e; rw [if_pos rfl, if_pos (by omega)]
    · rw [if_neg e]
      by_cases e2 : b ≤ q ∧ q < b + k
      · rw [if_pos e2, if_pos (by omega)]
      · rw [if_neg e2, if_neg (by omega)]
theorem tray_new {s7 s8 z z' : Nat → Int32} {it it' : Nat → Nat → Int32} (h : Tray s7 s8 z it) {j : Nat} {x : Int32} (hx : vp_in x 21) (hz : ∀ t, z' t = if t = j then x else z t) (hj : it' j = zf (it j) 20) (hne : ∀ t, t ≠ j → it' t = it t) : Tray (upd s7 j x) (fzr s8 (20 * j) 0 x.toNatClampNeg) z' it' := by
  intro t ht
  obtain ⟨a, b, c⟩ := h t ht
  have hl := vp_lt hx
  have hs := vp_self hx (by decide)
  rw [hz t]
  by_cases e : t = j
  · subst e
    rw [if_pos rfl, updS]
    refine ⟨rfl, Or.inr ⟨x.toNatClampNeg, by omega, hs⟩, fun q hq hlt => ?_⟩
    rw [hs] at hlt
    have := (nI_ltI (by omega) (by omega)).mp hlt
    rw [hj]
    unfold fzr zf
    rw [if_pos (by omega), if_pos hq]
  · rw [if_neg e, updN _ _ _ e, hne t e]
    refine ⟨a, b, fun q hq hlt => ?_⟩
    unfold fzr
    rw [if_neg (by omega)]
    exact c q hq hlt
theorem rack_new {s9 s10 s11 z z' so so' : Nat → Int32} {pl pl' : Nat → Nat → Option Nat} (h : Rack s9 s10 s11 z so pl) {j : Nat} {x y : Int32} (hx : vp_in x 11) (hz : ∀ t, z' t = if t = j then x else z t) (hso : ∀ t, so' t = if t = j then y else so t) (hj : pl' j = zq (pl j) 10) (hne : ∀ t, t ≠ j → pl' t = pl t) : Rack (upd s9 j x) (upd s10 j y) (fzr s11 (10 * j) (-1) x.toNatClampNeg) z' so' pl' := by
  intro t ht
  obtain ⟨a, b, d, c⟩ := h t ht
  have hl := vp_lt hx
  have hs := vp_self hx (by decide)
  rw [hz t, hso t]
  by_cases e : t = j
  · subst e
    rw [if_pos rfl, if_pos rfl, updS, updS]
    refine ⟨rfl, Or.inr ⟨x.toNatClampNeg, by omega, hs⟩, rfl, fun q hq hlt => ?_⟩
    rw [hs] at hlt
    have := (nI_ltI (by omega) (by omega)).mp hlt
    rw [hj]
    unfold fzr zq
    rw [if_pos (by omega), if_pos hq]
    rfl
  · rw [if_neg e, if_neg e, updN _ _ _ e, updN _ _ _ e, hne t e]
    refine ⟨a, b, d, fun q hq hlt => ?_⟩
    unfold fzr
    rw [if_neg (by omega)]
    exact c q hq hlt
theorem rackB_new {n : Nat} {s11 : Nat → Int32} (h : RackB n s11) (b k : Nat) : RackB n (fzr s11 b (-1) k) := by
  intro j hj
  unfold fzr
  split
  · exact Or.inl rfl
  · exact h j hj
theorem rackB_set {n : Nat} {s11 : Nat → Int32} (h : RackB n s11) (q : Nat) {o : Option Nat} {v : Int32} (hv : v = oI o) (ho : ∀ k, o = some k → k < 600) : RackB n (upd s11 q v) := by
  intro j hj
  unfold upd
  split
  · cases o with
    | none => exact Or.inl hv
    | some k => exact Or.inr ⟨k, ho k rfl, hv⟩
  · exact h j hj
theorem rack_lay {s9 s10 s11 z so : Nat → Int32} {pl pl' : Nat → Nat → Option Nat} (h : Rack s9 s10 s11 z so pl) {j i : Nat} (hi : i < 10) {v : Int32} {o : Option Nat} (hv : v = oI o) (hj : pl' j = va_up (pl j) i o) (hne : ∀ t, t ≠ j → pl' t = pl t) : Rack s9 s10 (upd s11 (10 * j + i) v) z so pl' := by
  intro t ht
  obtain ⟨a, b, d, c⟩ := h t ht
  refine ⟨a, b, d, fun q hq hz => ?_⟩
  by_cases e : t = j
  · subst e
    rw [hj]
    by_cases e2 : q = i
    · subst e2; rw [updS, va_up_self]; exact hv
    · rw [updN _ _ _ (by omega), va_up_ne _ _ e2]; exact c q hq hz
  · rw [hne t e, updN _ _ _ (by omega)]; exact c q hq hz
theorem pS_pO {S S' : SS} {o : Option Nat} {n : Nat} (sort : Int32) (hn : n < 600) (ho : ∀ k, o = some k → k < n) (hk : ∀ k, k < n → S'.1 18 2 k = S.1 16 k 4 ∧ (S.1 16 k 4 = 0 ∨ S.1 16 k 4 = 1 ∨ S.1 16 k 4 = 2 ∨ S.1 16 k 4 = 3)) {v : Int32} (hv : v = oI o) : pS S o sort = pO S' v sort := by
  subst hv
  cases o with
  | none => rfl
  | some t =>
    have ht := ho t rfl
    obtain ⟨a, b⟩ := hk t ht
    have hc : (nI t).toNatClampNeg = t := nI_clamp (by omega)
    unfold pS pO
    show (if sort = 0 then (1 : Int32) else _) = (if nI t = -1 then 1 else _)
    rw [if_neg (nI_nm1 (by omega)), show (oI (some t)).toNatClampNeg = t from hc, a]
    by_cases h0 : sort = 0
    · rw [if_pos h0, if_pos h0]
    · rw [if_neg h0, if_neg h0]
      by_cases h1 : sort = 1
      · rw [if_pos h1, if_pos h1]
        unfold pB
        rcases b with q | q | q | q <;> rw [q] <;> rfl
      · rw [if_neg h1, if_neg h1]
        rcases b with q | q | q | q <;> rw [q] <;> rfl
theorem rowZ2 (S : SS) (f i k : Nat) (v : Int32) (j k2 : Nat) (h : k2 ≠ k) : (uI S f i k v).1 f j k2 = S.1 f j k2 := by
  rw [uI_at, if_neg (fun q => h q.2.2)]

theorem wf_zR {n : Nat} {S : SS} {q m : Nat} (h : Wf n S.2) : Wf n (zR S 11 q m).2 := by
  intro f i j k hk
  by_cases e : f = 11 ∧ i = q
  · obtain ⟨rfl, rfl⟩ := e
    rw [show (zR S 11 i m).2 11 i = zq (S.2 11 i) m from wR_eq S 11 i _] at hk
    unfold zq at hk
    split at hk
    · cases hk
    · exact h _ _ _ _ hk
  · rw [show (zR S 11 q m).2 f i = S.2 f i from wR_ne S 11 q _ e] at hk
    exact h _ _ _ _ hk

set_option maxRecDepth 100000 in
theorem sm_put {n : Nat} {S : SS} (hn : n < 600) (h : Rel n S) (x1 x2 x3 : Int32) : (f_X9_put S x1 x2 x3).1 = (f_X10_put (f_X9_put S x1 x2 x3).2 x1 x2 x3).1 ∧ Rel n (f_X10_put (f_X9_put S x1 x2 x3).2 x1 x2 x3).2 := by
  obtain ⟨hM, hN, hH, hW, hT, hY, hK, hKB, hG, hGB, hL⟩ := id h
  by_cases h1 : wi x1 4 = true
  · have hj := vp_lt (wi_in h1 (N := 4) (by decide) (by decide))
    have hv1 := wi_in h1 (N := 4) (by decide) (by decide)
    have e3 : pA S 8 x1.toNatClampNeg x2 = pL (S.1 18 7 x1.toNatClampNeg) x2 := by unfold pA; rw [(hY _ hj).1]; exact pA_pL (hY _ hj).2.1 (by decide)
    by_cases h5 : pA S 8 x1.toNatClampNeg x2 = 0
    · have hw2 := pA_0 h5
      have hv2 : vp_in x2 20 := wi_le hw2 (sz_le (hY _ hj).2.1 (by decide)) (by decide)
      have hlt := wi_lt hw2 hv2 (by decide)
      have hY2 : Tray (S.1 18 7) (upd (S.1 18 8) (20 * x1.toNatClampNeg + x2.toNatClampNeg) x3) (fun t => S.1 8 t 0) ((uI S 9 x1.toNatClampNeg x2.toNatClampNeg x3).1 9) := tray_put hY (vp_lt hv2) (row1 _ _ _ _ _) (fun t ht => rowN _ _ _ _ _ ht)
      have e1 : f_X9_put S x1 x2 x3 = f_X9_done (uI S 9 x1.toNatClampNeg x2.toNatClampNeg x3) 1 := by unfold f_X9_put; rw [if_pos h1, if_pos h5]
      rw [e1]
      have e2 : f_X10_put (f_X9_done (uI S 9 x1.toNatClampNeg x2.toNatClampNeg x3) 1).2 x1 x2 x3 = f_X10_says (uI (f_X9_done (uI S 9 x1.toNatClampNeg x2.toNatClampNeg x3) 1).2 18 8 (20 * x1.toNatClampNeg + x2.toNatClampNeg) x3) 1 := by
        unfold f_X10_put
        rw [wj3, if_pos h1, if_pos (show pL ((f_X9_done (uI S 9 x1.toNatClampNeg x2.toNatClampNeg x3) 1).2.1 18 7 x1.toNatClampNeg) x2 = 0 from e3.symm.trans h5), ixc (c := 20) 20 hv1 hv2 rfl (by decide) (by decide) (by decide)]
      rw [e2]
      exact ⟨rfl, misc_ref hM 0, hN, hH, hW, hT, hY2, hK, hKB, hG, hGB, hL⟩
    · have e1 : f_X9_put S x1 x2 x3 = f_X9_fail S (pA S 8 x1.toNatClampNeg x2) := by unfold f_X9_put; rw [if_pos h1, if_neg h5]
      rw [e1]
      have e2 : f_X10_put (f_X9_fail S (pA S 8 x1.toNatClampNeg x2)).2 x1 x2 x3 = f_X10_fails (f_X9_fail S (pA S 8 x1.toNatClampNeg x2)).2 (pA S 8 x1.toNatClampNeg x2) := by
        unfold f_X10_put
        rw [wj3, if_pos h1, show pL ((f_X9_fail S (pA S 8 x1.toNatClampNeg x2)).2.1 18 7 x1.toNatClampNeg) x2 = pA S 8 x1.toNatClampNeg x2 from e3.symm, if_neg h5]
      rw [e2]
      exact ⟨rfl, rel_fail h _ pA_in⟩
  · have e1 : f_X9_put S x1 x2 x3 = f_X9_refuse S (-2) := by unfold f_X9_put; rw [if_neg h1]
    rw [e1]
    have e2 : f_X10_put (f_X9_refuse S (-2)).2 x1 x2 x3 = f_X10_refuses (f_X9_refuse S (-2)).2 (-2) := by
      unfold f_X10_put
      rw [wj3, if_neg h1]
    rw [e2]
    exact ⟨rfl, rel_ref h _⟩

set_option maxRecDepth 100000 in
theorem sm_get {n : Nat} {S : SS} (hn : n < 600) (h : Rel n S) (x1 x2 : Int32) : (f_X9_get S x1 x2).1 = (f_X10_get (f_X9_get S x1 x2).2 x1 x2).1 ∧ Rel n (f_X10_get (f_X9_get S x1 x2).2 x1 x2).2 := by
  obtain ⟨hM, hN, hH, hW, hT, hY, hK, hKB, hG, hGB, hL⟩ := id h
  by_cases h1 : wi x1 4 = true
  · have hj := vp_lt (wi_in h1 (N := 4) (by decide) (by decide))
    have hv1 := wi_in h1 (N := 4) (by decide) (by decide)
    have e3 : pA S 8 x1.toNatClampNeg x2 = pL (S.1 18 7 x1.toNatClampNeg) x2 := by unfold pA; rw [(hY _ hj).1]; exact pA_pL (hY _ hj).2.1 (by decide)
    by_cases h5 : pA S 8 x1.toNatClampNeg x2 = 0
    · have hw2 := pA_0 h5
      have hv2 : vp_in x2 20 := wi_le hw2 (sz_le (hY _ hj).2.1 (by decide)) (by decide)
      have hlt := wi_lt hw2 hv2 (by decide)
      have e1 : f_X9_get S x1 x2 = f_X9_done S (S.1 9 x1.toNatClampNeg x2.toNatClampNeg) := by unfold f_X9_get; rw [if_pos h1, if_pos h5]
      rw [e1]
      have e2 : f_X10_get (f_X9_done S (S.1 9 x1.toNatClampNeg x2.toNatClampNeg)).2 x1 x2 = (S.1 18 8 (20 * x1.toNatClampNeg + x2.toNatClampNeg), uI (f_X9_done S (S.1 9 x1.toNatClampNeg x2.toNatClampNeg)).2 17 0 17 0) := by
        unfold f_X10_get
        rw [wj3, if_pos h1, if_pos (show pL ((f_X9_done S (S.1 9 x1.toNatClampNeg x2.toNatClampNeg)).2.1 18 7 x1.toNatClampNeg) x2 = 0 from e3.symm.trans h5), ixc (c := 20) 20 hv1 hv2 rfl (by decide) (by decide) (by decide)]
        rfl
      rw [e2]
      exact ⟨((hY _ hj).2.2 _ (vp_lt hv2) hlt).symm, misc_ref hM 0, hN, hH, hW, hT, hY, hK, hKB, hG, hGB, hL⟩
    · have e1 : f_X9_get S x1 x2 = f_X9_failWithZero S (pA S 8 x1.toNatClampNeg x2) := by unfold f_X9_get; rw [if_pos h1, if_neg h5]
      rw [e1]
      have e2 : f_X10_get (f_X9_failWithZero S (pA S 8 x1.toNatClampNeg x2)).2 x1 x2 = (0, (f_X10_fails (uI (f_X9_failWithZero S (pA S 8 x1.toNatClampNeg x2)).2 17 0 17 0) (pA S 8 x1.toNatClampNeg x2)).2) := by
        unfold f_X10_get
        rw [wj3, if_pos h1, show pL ((f_X9_failWithZero S (pA S 8 x1.toNatClampNeg x2)).2.1 18 7 x1.toNatClampNeg) x2 = pA S 8 x1.toNatClampNeg x2 from e3.symm, if_neg h5]
      rw [e2]
      exact ⟨rfl, by dsimp only; exact rel_fail0 h _ pA_in⟩
  · have e1 : f_X9_get S x1 x2 = f_X9_refuseWithZero S (-2) := by unfold f_X9_get; rw [if_neg h1]
    rw [e1]
    have e2 : f_X10_get (f_X9_refuseWithZero S (-2)).2 x1 x2 = (0, uI (f_X9_refuseWithZero S (-2)).2 17 0 17 (-2)) := by
      unfold f_X10_get
      rw [wj3, if_neg h1]
    rw [e2]
    exact ⟨rfl, rel_ref0 h _⟩

set_option maxRecDepth 100000 in
theorem sm_tray {n : Nat} {S : SS} (hn : n < 600) (h : Rel n S) (x1 x2 : Int32) : (f_X9_tray S x1 x2).1 = (f_X10_tray (f_X9_tray S x1 x2).2 x1 x2).1 ∧ Rel n (f_X10_tray (f_X9_tray S x1 x2).2 x1 x2).2 := by
  obtain ⟨hM, hN, hH, hW, hT, hY, hK, hKB, hG, hGB, hL⟩ := id h
  by_cases h1 : wi x1 4 = true
  · have hj := vp_lt (wi_in h1 (N := 4) (by decide) (by decide))
    by_cases h2 : x2 ≤ 20
    · by_cases h3 : 0 ≤ x2
      · have hv2 : vp_in x2 21 := le_in h3 h2 (by decide)
        have hY2 : Tray (upd (S.1 18 7) x1.toNatClampNeg x2) (fzr (S.1 18 8) (20 * x1.toNatClampNeg) 0 x2.toNatClampNeg) (fun t => (f_row8 S x1.toNatClampNeg x2).1 8 t 0) ((f_row8 S x1.toNatClampNeg x2).1 9) := tray_new hY hv2 (fun t => rowZ (zI S 9 x1.toNatClampNeg 20) 8 x1.toNatClampNeg 0 x2 t) (show (zI S 9 x1.toNatClampNeg 20).1 9 x1.toNatClampNeg = _ from wI_eq S 9 _ _) (fun t ht => wI_ne S 9 _ _ (fun q => ht q.2))
        have e1 : f_X9_tray S x1 x2 = f_X9_done (f_row8 S x1.toNatClampNeg x2) x2 := by unfold f_X9_tray; rw [if_pos h1, if_pos h2, if_pos h3]
        rw [e1]
        have e2 : f_X10_tray (f_X9_done (f_row8 S x1.toNatClampNeg x2) x2).2 x1 x2 = f_X10_says (wI (uI (f_X9_done (f_row8 S x1.toNatClampNeg x2) x2).2 18 7 x1.toNatClampNeg x2) 18 8 (fzr ((uI (f_X9_done (f_row8 S x1.toNatClampNeg x2) x2).2 18 7 x1.toNatClampNeg x2).1 18 8) (20 * x1.toNatClampNeg) 0 x2.toNatClampNeg)) x2 := by
          unfold f_X10_tray
          rw [wj3, if_pos h1, if_pos h2, if_pos h3, fz_eq]
        rw [e2]
        exact ⟨rfl, misc_ref hM 0, hN, hH, hW, hT, hY2, hK, hKB, hG, hGB, hL⟩
      · have e1 : f_X9_tray S x1 x2 = f_X9_fail S 3 := by unfold f_X9_tray; rw [if_pos h1, if_pos h2, if_neg h3]
        rw [e1]
        have e2 : f_X10_tray (f_X9_fail S 3).2 x1 x2 = f_X10_fails (f_X9_fail S 3).2 3 := by
          unfold f_X10_tray
          rw [wj3, if_pos h1, if_pos h2, if_neg h3]
        rw [e2]
        exact ⟨rfl, rel_fail h _ (by unfold vp_in; decide)⟩
    · have e1 : f_X9_tray S x1 x2 = f_X9_refuse S (-3) := by unfold f_X9_tray; rw [if_pos h1, if_neg h2]
      rw [e1]
      have e2 : f_X10_tray (f_X9_refuse S (-3)).2 x1 x2 = f_X10_refuses (f_X9_refuse S (-3)).2 (-3) := by
        unfold f_X10_tray
        rw [wj3, if_pos h1, if_neg h2]
      rw [e2]
      exact ⟨rfl, rel_ref h _⟩
  · have e1 : f_X9_tray S x1 x2 = f_X9_refuse S (-2) := by unfold f_X9_tray; rw [if_neg h1]
    rw [e1]
    have e2 : f_X10_tray (f_X9_refuse S (-2)).2 x1 x2 = f_X10_refuses (f_X9_refuse S (-2)).2 (-2) := by
      unfold f_X10_tray
      rw [wj3, if_neg h1]
    rw [e2]
    exact ⟨rfl, rel_ref h _⟩

set_option maxRecDepth 100000 in
theorem sm_rack {n : Nat} {S : SS} (hn : n < 600) (h : Rel n S) (x1 x2 x3 : Int32) : (f_X9_rack S x1 x2 x3).1 = (f_X10_rack (f_X9_rack S x1 x2 x3).2 x1 x2 x3).1 ∧ Rel n (f_X10_rack (f_X9_rack S x1 x2 x3).2 x1 x2 x3).2 := by
  obtain ⟨hM, hN, hH, hW, hT, hY, hK, hKB, hG, hGB, hL⟩ := id h
  by_cases h1 : wi x1 4 = true
  · have hj := vp_lt (wi_in h1 (N := 4) (by decide) (by decide))
    by_cases h4 : wi x2 3 = true
    · by_cases h2 : x3 ≤ 10
      · by_cases h3 : 0 ≤ x3
        · have hv2 : vp_in x3 11 := le_in h3 h2 (by decide)
          have hK2 : Rack (upd (S.1 18 9) x1.toNatClampNeg x3) (upd (S.1 18 10) x1.toNatClampNeg x2) (fzr (S.1 18 11) (10 * x1.toNatClampNeg) (-1) x3.toNatClampNeg) (fun t => (f_rack S x1.toNatClampNeg x2 x3).1 10 t 0) (fun t => (f_rack S x1.toNatClampNeg x2 x3).1 10 t 2) ((f_rack S x1.toNatClampNeg x2 x3).2 11) := rack_new hK hv2 (fun t => (rowZ _ 10 x1.toNatClampNeg 0 x3 t).trans (by rw [rowZ2 _ _ _ _ _ _ _ (by decide)]; rfl)) (fun t => (rowZ2 _ 10 x1.toNatClampNeg 0 x3 t 2 (by decide)).trans (rowZ (zR S 11 x1.toNatClampNeg 10) 10 x1.toNatClampNeg 2 x2 t)) (show (zR S 11 x1.toNatClampNeg 10).2 11 x1.toNatClampNeg = _ from wR_eq S 11 _ _) (fun t ht => wR_ne S 11 _ _ (fun q => ht q.2))
          have hW2 : Wf n (f_rack S x1.toNatClampNeg x2 x3).2 := fun f i j k hk => wf_zR hW f i j k hk
          have e1 : f_X9_rack S x1 x2 x3 = f_X9_done (f_rack S x1.toNatClampNeg x2 x3) x3 := by unfold f_X9_rack; rw [if_pos h1, if_pos h4, if_pos h2, if_pos h3]
          rw [e1]
          have e2 : f_X10_rack (f_X9_done (f_rack S x1.toNatClampNeg x2 x3) x3).2 x1 x2 x3 = f_X10_says (wI (uI (uI (f_X9_done (f_rack S x1.toNatClampNeg x2 x3) x3).2 18 9 x1.toNatClampNeg x3) 18 10 x1.toNatClampNeg x2) 18 11 (fzr ((uI (uI (f_X9_done (f_rack S x1.toNatClampNeg x2 x3) x3).2 18 9 x1.toNatClampNeg x3) 18 10 x1.toNatClampNeg x2).1 18 11) (10 * x1.toNatClampNeg) (-1) x3.toNatClampNeg)) x3 := by
            unfold f_X10_rack
            rw [wj3, wj2, if_pos h1, if_pos h4, if_pos h2, if_pos h3, fz_eq]
          rw [e2]
          exact ⟨rfl, misc_ref hM 0, hN, hH, hW2, hT, hY, hK2, rackB_new hKB _ _, hG, hGB, hL⟩
        · have e1 : f_X9_rack S x1 x2 x3 = f_X9_fail S 3 := by unfold f_X9_rack; rw [if_pos h1, if_pos h4, if_pos h2, if_neg h3]
          rw [e1]
          have e2 : f_X10_rack (f_X9_fail S 3).2 x1 x2 x3 = f_X10_fails (f_X9_fail S 3).2 3 := by
            unfold f_X10_rack
            rw [wj3, wj2, if_pos h1, if_pos h4, if_pos h2, if_neg h3]
          rw [e2]
          exact ⟨rfl, rel_fail h _ (by unfold vp_in; decide)⟩
      · have e1 : f_X9_rack S x1 x2 x3 = f_X9_refuse S (-3) := by unfold f_X9_rack; rw [if_pos h1, if_pos h4, if_neg h2]
        rw [e1]
        have e2 : f_X10_rack (f_X9_refuse S (-3)).2 x1 x2 x3 = f_X10_refuses (f_X9_refuse S (-3)).2 (-3) := by
          unfold f_X10_rack
          rw [wj3, wj2, if_pos h1, if_pos h4, if_neg h2]
        rw [e2]
        exact ⟨rfl, rel_ref h _⟩
    · have e1 : f_X9_rack S x1 x2 x3 = f_X9_refuse S (-3) := by unfold f_X9_rack; rw [if_pos h1, if_neg h4]
      rw [e1]
      have e2 : f_X10_rack (f_X9_refuse S (-3)).2 x1 x2 x3 = f_X10_refuses (f_X9_refuse S (-3)).2 (-3) := by
        unfold f_X10_rack
        rw [wj3, wj2, if_pos h1, if_neg h4]
      rw [e2]
      exact ⟨rfl, rel_ref h _⟩
  · have e1 : f_X9_rack S x1 x2 x3 = f_X9_refuse S (-2) := by unfold f_X9_rack; rw [if_neg h1]
    rw [e1]
    have e2 : f_X10_rack (f_X9_refuse S (-2)).2 x1 x2 x3 = f_X10_refuses (f_X9_refuse S (-2)).2 (-2) := by
      unfold f_X10_rack
      rw [wj3, if_neg h1]
    rw [e2]
    exact ⟨rfl, rel_ref h _⟩

set_option maxRecDepth 100000 in
theorem sm_lay {n : Nat} {S : SS} (hn : n < 600) (h : Rel n S) (x1 x2 x3 : Int32) : (f_X9_lay S x1 x2 x3).1 = (f_X10_lay (f_X9_lay S x1 x2 x3).2 x1 x2 x3).1 ∧ Rel n (f_X10_lay (f_X9_lay S x1 x2 x3).2 x1 x2 x3).2 := by
  obtain ⟨hM, hN, hH, hW, hT, hY, hK, hKB, hG, hGB, hL⟩ := id h
  by_cases h1 : wi x1 4 = true
  · have hj := vp_lt (wi_in h1 (N := 4) (by decide) (by decide))
    have hv1 := wi_in h1 (N := 4) (by decide) (by decide)
    by_cases h2 : wi x3 10 = true
    · have hj3 := vp_lt (wi_in h2 (N := 10) (by decide) (by decide))
      have e3 : pA S 10 x1.toNatClampNeg x2 = pL (S.1 18 9 x1.toNatClampNeg) x2 := by unfold pA; rw [(hK _ hj).1]; exact pA_pL (hK _ hj).2.1 (by decide)
      have e4 := hH _ hj3
      have hk2 : ∀ k, k < n → S.1 18 2 k = S.1 16 k 4 ∧ (S.1 16 k 4 = 0 ∨ S.1 16 k 4 = 1 ∨ S.1 16 k 4 = 2 ∨ S.1 16 k 4 = 3) := fun k hk => (hT k hk).1
      by_cases h5 : pA S 10 x1.toNatClampNeg x2 = 0
      · have hw2 := pA_0 h5
        have hv2 : vp_in x2 10 := wi_le hw2 (sz_le (hK _ hj).2.1 (by decide)) (by decide)
        have e5 : pS S (S.2 1 0 x3.toNatClampNeg) (S.1 10 x1.toNatClampNeg 2) = pO S (S.1 18 0 x3.toNatClampNeg) (S.1 18 10 x1.toNatClampNeg) := by rw [(hK _ hj).2.2.1]; exact pS_pO _ hn (fun k q => hW _ _ _ _ q) hk2 e4
        by_cases h6 : pS S (S.2 1 0 x3.toNatClampNeg) (S.1 10 x1.toNatClampNeg 2) = 0
        · have e1 : f_X9_lay S x1 x2 x3 = f_X9_fail S 5 := by unfold f_X9_lay; rw [if_pos h1, if_pos h2, if_pos h5]; cases hr : S.2 1 0 x3.toNatClampNeg <;> rw [hr] at h6 <;> exact if_pos h6
          rw [e1]
          have e2 : f_X10_lay (f_X9_fail S 5).2 x1 x2 x3 = f_X10_fails (f_X9_fail S 5).2 5 := by
            unfold f_X10_lay
            rw [wj3, wj9, if_pos h1, if_pos h2, if_pos (show pL ((f_X9_fail S 5).2.1 18 9 x1.toNatClampNeg) x2 = 0 from e3.symm.trans h5), if_pos (show pO (f_X9_fail S 5).2 ((f_X9_fail S 5).2.1 18 0 x3.toNatClampNeg) ((f_X9_fail S 5).2.1 18 10 x1.toNatClampNeg) = 0 from e5.symm.trans h6)]
          rw [e2]
          exact ⟨rfl, rel_fail h _ (by unfold vp_in; decide)⟩
        · have hK2 : Rack (S.1 18 9) (S.1 18 10) (upd (S.1 18 11) (10 * x1.toNatClampNeg + x2.toNatClampNeg) (S.1 18 0 x3.toNatClampNeg)) (fun t => S.1 10 t 0) (fun t => S.1 10 t 2) ((uR S 11 x1.toNatClampNeg x2.toNatClampNeg (S.2 1 0 x3.toNatClampNeg)).2 11) := rack_lay hK (vp_lt hv2) e4 (uR_row _ _ _ _ _) (fun t ht => wR_ne S 11 _ _ (fun q => ht q.2))
          have e1 : f_X9_lay S x1 x2 x3 = f_X9_done (uR S 11 x1.toNatClampNeg x2.toNatClampNeg (S.2 1 0 x3.toNatClampNeg)) 1 := by unfold f_X9_lay; rw [if_pos h1, if_pos h2, if_pos h5]; cases hr : S.2 1 0 x3.toNatClampNeg <;> rw [hr] at h6 <;> exact if_neg h6
          rw [e1]
          have e2 : f_X10_lay (f_X9_done (uR S 11 x1.toNatClampNeg x2.toNatClampNeg (S.2 1 0 x3.toNatClampNeg)) 1).2 x1 x2 x3 = f_X10_says (uI (f_X9_done (uR S 11 x1.toNatClampNeg x2.toNatClampNeg (S.2 1 0 x3.toNatClampNeg)) 1).2 18 11 (10 * x1.toNatClampNeg + x2.toNatClampNeg) (S.1 18 0 x3.toNatClampNeg)) 1 := by
            unfold f_X10_lay
            rw [wj3, wj9, if_pos h1, if_pos h2, if_pos (show pL ((f_X9_done (uR S 11 x1.toNatClampNeg x2.toNatClampNeg (S.2 1 0 x3.toNatClampNeg)) 1).2.1 18 9 x1.toNatClampNeg) x2 = 0 from e3.symm.trans h5), if_neg (show ¬ pO (f_X9_done (uR S 11 x1.toNatClampNeg x2.toNatClampNeg (S.2 1 0 x3.toNatClampNeg)) 1).2 ((f_X9_done (uR S 11 x1.toNatClampNeg x2.toNatClampNeg (S.2 1 0 x3.toNatClampNeg)) 1).2.1 18 0 x3.toNatClampNeg) ((f_X9_done (uR S 11 x1.toNatClampNeg x2.toNatClampNeg (S.2 1 0 x3.toNatClampNeg)) 1).2.1 18 10 x1.toNatClampNeg) = 0 from fun q => h6 (e5.trans q)), ixc (c := 10) 10 hv1 hv2 rfl (by decide) (by decide) (by decide)]
            rfl
          rw [e2]
          exact ⟨rfl, misc_ref hM 0, hN, hH, wf_uR hW (fun k q => hW _ _ _ _ q), hT, hY, hK2, rackB_set hKB _ e4 (fun k q => by have := hW _ _ _ _ q; omega), hG, hGB, hL⟩
      · have e1 : f_X9_lay S x1 x2 x3 = f_X9_fail S (pA S 10 x1.toNatClampNeg x2) := by unfold f_X9_lay; rw [if_pos h1, if_pos h2, if_neg h5]
        rw [e1]
        have e2 : f_X10_lay (f_X9_fail S (pA S 10 x1.toNatClampNeg x2)).2 x1 x2 x3 = f_X10_fails (f_X9_fail S (pA S 10 x1.toNatClampNeg x2)).2 (pA S 10 x1.toNatClampNeg x2) := by
          unfold f_X10_lay
          rw [wj3, wj9, if_pos h1, if_pos h2, show pL ((f_X9_fail S (pA S 10 x1.toNatClampNeg x2)).2.1 18 9 x1.toNatClampNeg) x2 = pA S 10 x1.toNatClampNeg x2 from e3.symm, if_neg h5]
        rw [e2]
        exact ⟨rfl, rel_fail h _ pA_in⟩
    · have e1 : f_X9_lay S x1 x2 x3 = f_X9_refuse S (-2) := by unfold f_X9_lay; rw [if_pos h1, if_neg h2]
      rw [e1]
      have e2 : f_X10_lay (f_X9_refuse S (-2)).2 x1 x2 x3 = f_X10_refuses (f_X9_refuse S (-2)).2 (-2) := by
        unfold f_X10_lay
        rw [wj3, wj9, if_pos h1, if_neg h2]
      rw [e2]
      exact ⟨rfl, rel_ref h _⟩
  · have e1 : f_X9_lay S x1 x2 x3 = f_X9_refuse S (-2) := by unfold f_X9_lay; rw [if_neg h1]
    rw [e1]
    have e2 : f_X10_lay (f_X9_refuse S (-2)).2 x1 x2 x3 = f_X10_refuses (f_X9_refuse S (-2)).2 (-2) := by
      unfold f_X10_lay
      rw [wj3, if_neg h1]
    rw [e2]
    exact ⟨rfl, rel_ref h _⟩

set_option maxRecDepth 100000 in
theorem sm_fetch {n : Nat} {S : SS} (hn : n < 600) (h : Rel n S) (x1 x2 x3 x4 : Int32) : (f_X9_fetch S x1 x2 x3 x4).1 = (f_X10_fetch (f_X9_fetch S x1 x2 x3 x4).2 x1 x2 x3 x4).1 ∧ Rel n (f_X10_fetch (f_X9_fetch S x1 x2 x3 x4).2 x1 x2 x3 x4).2 := by
  obtain ⟨hM, hN, hH, hW, hT, hY, hK, hKB, hG, hGB, hL⟩ := id h
  by_cases h1 : wi x1 4 = true
  · have hj := vp_lt (wi_in h1 (N := 4) (by decide) (by decide))
    have hv1 := wi_in h1 (N := 4) (by decide) (by decide)
    by_cases h2 : wi x4 10 = true
    · by_cases h4 : wi x3 3 = true
      · have e3 : pA S 10 x1.toNatClampNeg x2 = pL (S.1 18 9 x1.toNatClampNeg) x2 := by unfold pA; rw [(hK _ hj).1]; exact pA_pL (hK _ hj).2.1 (by decide)
        have hk2 : ∀ k, k < n → S.1 18 2 k = S.1 16 k 4 ∧ (S.1 16 k 4 = 0 ∨ S.1 16 k 4 = 1 ∨ S.1 16 k 4 = 2 ∨ S.1 16 k 4 = 3) := fun k hk => (hT k hk).1
        by_cases h5 : pA S 10 x1.toNatClampNeg x2 = 0
        · have hw2 := pA_0 h5
          have hv2 : vp_in x2 10 := wi_le hw2 (sz_le (hK _ hj).2.1 (by decide)) (by decide)
          have hlt := wi_lt hw2 hv2 (by decide)
          have e4 := (hK _ hj).2.2.2 _ (vp_lt hv2) hlt
          have e5 : pS S (S.2 11 x1.toNatClampNeg x2.toNatClampNeg) x3 = pO S (S.1 18 11 (10 * x1.toNatClampNeg + x2.toNatClampNeg)) x3 := pS_pO _ hn (fun k q => hW _ _ _ _ q) hk2 e4
          by_cases h6 : pS S (S.2 11 x1.toNatClampNeg x2.toNatClampNeg) x3 = 0
          · have e1 : f_X9_fetch S x1 x2 x3 x4 = f_X9_fail S 4 := by unfold f_X9_fetch; rw [if_pos h1, if_pos h2, if_pos h4, if_pos h5]; cases hr : S.2 11 x1.toNatClampNeg x2.toNatClampNeg <;> rw [hr] at h6 <;> exact if_pos h6
            rw [e1]
            have e2 : f_X10_fetch (f_X9_fail S 4).2 x1 x2 x3 x4 = f_X10_fails (f_X9_fail S 4).2 4 := by
              unfold f_X10_fetch
              rw [wj3, wj9, wj2, if_pos h1, if_pos h2, if_pos h4, if_pos (show pL ((f_X9_fail S 4).2.1 18 9 x1.toNatClampNeg) x2 = 0 from e3.symm.trans h5), ixc (c := 10) 10 hv1 hv2 rfl (by decide) (by decide) (by decide), if_pos (show pO (f_X9_fail S 4).2 ((f_X9_fail S 4).2.1 18 11 (10 * x1.toNatClampNeg + x2.toNatClampNeg)) x3 = 0 from e5.symm.trans h6)]
            rw [e2]
            exact ⟨rfl, rel_fail h _ four_in⟩
          · have e1 : f_X9_fetch S x1 x2 x3 x4 = f_X9_done (uR S 1 0 x4.toNatClampNeg (S.2 11 x1.toNatClampNeg x2.toNatClampNeg)) 1 := by unfold f_X9_fetch; rw [if_pos h1, if_pos h2, if_pos h4, if_pos h5]; cases hr : S.2 11 x1.toNatClampNeg x2.toNatClampNeg <;> rw [hr] at h6 <;> exact if_neg h6
            rw [e1]
            have e2 : f_X10_fetch (f_X9_done (uR S 1 0 x4.toNatClampNeg (S.2 11 x1.toNatClampNeg x2.toNatClampNeg)) 1).2 x1 x2 x3 x4 = f_X10_says (uI (f_X9_done (uR S 1 0 x4.toNatClampNeg (S.2 11 x1.toNatClampNeg x2.toNatClampNeg)) 1).2 18 0 x4.toNatClampNeg (S.1 18 11 (10 * x1.toNatClampNeg + x2.toNatClampNeg))) 1 := by
              unfold f_X10_fetch
              rw [wj3, wj9, wj2, if_pos h1, if_pos h2, if_pos h4, if_pos (show pL ((f_X9_done (uR S 1 0 x4.toNatClampNeg (S.2 11 x1.toNatClampNeg x2.toNatClampNeg)) 1).2.1 18 9 x1.toNatClampNeg) x2 = 0 from e3.symm.trans h5), ixc (c := 10) 10 hv1 hv2 rfl (by decide) (by decide) (by decide), if_neg (show ¬ pO (f_X9_done (uR S 1 0 x4.toNatClampNeg (S.2 11 x1.toNatClampNeg x2.toNatClampNeg)) 1).2 ((f_X9_done (uR S 1 0 x4.toNatClampNeg (S.2 11 x1.toNatClampNeg x2.toNatClampNeg)) 1).2.1 18 11 (10 * x1.toNatClampNeg + x2.toNatClampNeg)) x3 = 0 from fun q => h6 (e5.trans q))]
              rfl
            rw [e2]
            exact ⟨rfl, misc_ref hM 0, hN, hook_set hH _ e4, wf_uR hW (fun k q => hW _ _ _ _ q), hT, hY, hK, hKB, hG, hGB, hL⟩
        · have e1 : f_X9_fetch S x1 x2 x3 x4 = f_X9_fail S (pA S 10 x1.toNatClampNeg x2) := by unfold f_X9_fetch; rw [if_pos h1, if_pos h2, if_pos h4, if_neg h5]
          rw [e1]
          have e2 : f_X10_fetch (f_X9_fail S (pA S 10 x1.toNatClampNeg x2)).2 x1 x2 x3 x4 = f_X10_fails (f_X9_fail S (pA S 10 x1.toNatClampNeg x2)).2 (pA S 10 x1.toNatClampNeg x2) := by
            unfold f_X10_fetch
            rw [wj3, wj9, wj2, if_pos h1, if_pos h2, if_pos h4, show pL ((f_X9_fail S (pA S 10 x1.toNatClampNeg x2)).2.1 18 9 x1.toNatClampNeg) x2 = pA S 10 x1.toNatClampNeg x2 from e3.symm, if_neg h5]
          rw [e2]
          exact ⟨rfl, rel_fail h _ pA_in⟩
      · have e1 : f_X9_fetch S x1 x2 x3 x4 = f_X9_refuse S (-3) := by unfold f_X9_fetch; rw [if_pos h1, if_pos h2, if_neg h4]
        rw [e1]
        have e2 : f_X10_fetch (f_X9_refuse S (-3)).2 x1 x2 x3 x4 = f_X10_refuses (f_X9_refuse S (-3)).2 (-3) := by
          unfold f_X10_fetch
          rw [wj3, wj9, wj2, if_pos h1, if_pos h2, if_neg h4]
        rw [e2]
        exact ⟨rfl, rel_ref h _⟩
    · have e1 : f_X9_fetch S x1 x2 x3 x4 = f_X9_refuse S (-2) := by unfold f_X9_fetch; rw [if_pos h1, if_neg h2]
      rw [e1]
      have e2 : f_X10_fetch (f_X9_refuse S (-2)).2 x1 x2 x3 x4 = f_X10_refuses (f_X9_refuse S (-2)).2 (-2) := by
        unfold f_X10_fetch
        rw [wj3, wj9, if_pos h1, if_neg h2]
      rw [e2]
      exact ⟨rfl, rel_ref h _⟩
  · have e1 : f_X9_fetch S x1 x2 x3 x4 = f_X9_refuse S (-2) := by unfold f_X9_fetch; rw [if_neg h1]
    rw [e1]
    have e2 : f_X10_fetch (f_X9_refuse S (-2)).2 x1 x2 x3 x4 = f_X10_refuses (f_X9_refuse S (-2)).2 (-2) := by
      unfold f_X10_fetch
      rw [wj3, if_neg h1]
    rw [e2]
    exact ⟨rfl, rel_ref h _⟩
