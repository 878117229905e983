theorem lt_succ {x : Int32} {N : Nat} (hN : N + 1 < 2 ^ 31) : x ≤ nI N ↔ x < nI (N + 1) := by
  rw [Int32.le_iff_toInt_le, Int32.lt_iff_toInt_lt, nI_toInt hN, nI_toInt (by omega)]
  omega
theorem wjN {x : Int32} {N : Nat} (hN : N + 1 < 2 ^ 31) : wj x 0 (nI N) = wi x (nI (N + 1)) := by
  unfold wj wi
  rw [decide_eq_decide.mpr (lt_succ hN)]
theorem wj9 (x : Int32) : wj x 0 9 = wi x 10 := wjN (N := 9) (by decide)
theorem wj3 (x : Int32) : wj x 0 3 = wi x 4 := wjN (N := 3) (by decide)
theorem wj2 (x : Int32) : wj x 0 2 = wi x 3 := wjN (N := 2) (by decide)
theorem wj1 (x : Int32) : wj x 0 1 = wi x 2 := wjN (N := 1) (by decide)
theorem misc_ref {a b c d : Nat → Int32} (h : Misc a b c d) (v : Int32) : Misc (upd a 17 v) b (upd c 9 v) d := by
  obtain ⟨h1, h2, h3, h4⟩ := h
  exact ⟨by simp [upd], by simpa [upd] using h2, by simpa [upd] using h3, h4⟩
theorem misc_upd {b d : Nat → Int32} (h : ∀ j, j < 7 → b j = d j) {v : Nat} (hv : v < 7) : ∀ j, j < 7 → upd b v (b v + 1) j = upd d v (d v + 1) j := by
  intro j hj
  unfold upd
  split
  · rw [h v hv]
  · exact h j hj
theorem misc_fail {a b c d : Nat → Int32} (h : Misc a b c d) (v : Int32) (hv : vp_in v 7) : Misc (upd (upd a 18 v) 17 ((-10) - v)) (upd b v.toNatClampNeg (b v.toNatClampNeg + 1)) (upd (upd c 7 v) 9 ((-10) - v)) (upd d v.toNatClampNeg (d v.toNatClampNeg + 1)) := by
  obtain ⟨h1, h2, h3, h4⟩ := h
  exact ⟨by simp [upd], by simp [upd], by simpa [upd] using h3, misc_upd h4 (vp_lt hv)⟩
theorem misc_fail0 {a b c d : Nat → Int32} (h : Misc a b c d) (v : Int32) (hv : vp_in v 7) : Misc (upd (upd (upd a 17 0) 18 v) 17 ((-10) - v)) (upd b v.toNatClampNeg (b v.toNatClampNeg + 1)) (upd (upd c 7 v) 9 ((-10) - v)) (upd d v.toNatClampNeg (d v.toNatClampNeg + 1)) := by
  obtain ⟨h1, h2, h3, h4⟩ := h
  exact ⟨by simp [upd], by simp [upd], by simpa [upd] using h3, misc_upd h4 (vp_lt hv)⟩
theorem misc_use {a b c d : Nat → Int32} (h : Misc a b c d) : Misc (upd (upd a 17 0) 20 (a 20 + 1)) b (upd (upd c 8 (c 8 + 1)) 9 0) d := by
  obtain ⟨h1, h2, h3, h4⟩ := h
  exact ⟨by simp [upd], by simpa [upd] using h2, by simp [upd, h3], h4⟩
theorem rel_ref {n : Nat} {S : SS} (h : Rel n S) (v : Int32) : Rel n (f_X10_refuses (f_X9_refuse S v).2 v).2 := ⟨misc_ref h.1 v, h.2⟩
theorem rel_fail {n : Nat} {S : SS} (h : Rel n S) (v : Int32) (hv : vp_in v 7) : Rel n (f_X10_fails (f_X9_fail S v).2 v).2 := ⟨misc_fail h.1 v hv, h.2⟩
theorem rel_ref0 {n : Nat} {S : SS} (h : Rel n S) (v : Int32) : Rel n (uI (f_X9_refuseWithZero S v).2 17 0 17 v) := ⟨misc_ref h.1 v, h.2⟩
theorem rel_fail0 {n : Nat} {S : SS} (h : Rel n S) (v : Int32) (hv : vp_in v 7) : Rel n (f_X10_fails (uI (f_X9_failWithZero S v).2 17 0 17 0) v).2 := ⟨misc_fail0 h.1 v hv, h.2⟩
theorem hk_none {a : Nat → Int32} {r : Nat → Option Nat} (h : Hook a r) {j : Nat} (hj : j < 10) (hr : r j = none) : a j = -1 := by
  rw [h j hj, hr]
  rfl
theorem hk_some {a : Nat → Int32} {r : Nat → Option Nat} (h : Hook a r) {j t : Nat} (hj : j < 10) (hr : r j = some t) : a j = nI t := by
  rw [h j hj, hr]
  rfl
theorem one_in : vp_in 1 7 := by unfold vp_in; decide
theorem four_in : vp_in 4 7 := by unfold vp_in; decide
theorem hook_set {a : Nat → Int32} {r : Nat → Option Nat} (h : Hook a r) (j : Nat) {v : Int32} {o : Option Nat} (hv : v = oI o) : Hook (upd a j v) (va_up r j o) := by
  intro q hq
  unfold upd va_up
  split
  · exact hv
  · exact h q hq
theorem uR_row (S : SS) (f i k : Nat) (v : Option Nat) : (uR S f i k v).2 f i = va_up (S.2 f i) k v := wR_eq S f i _
theorem wf_uR {n : Nat} {S : SS} (h : Wf n S.2) {f i j : Nat} {v : Option Nat} (hv : ∀ k, v = some k → k < n) : Wf n (uR S f i j v).2 := by
  intro g q w k hk
  rw [uR_at] at hk
  split at hk
  · exact hv k hk
  · exact h g q w k hk
theorem sm_hang {n : Nat} {S : SS} (hn : n < 600) (h : Rel n S) (x1 x2 : Int32) : (f_X9_hang S x1 x2).1 = (f_X10_hang (f_X9_hang S x1 x2).2 x1 x2).1 ∧ Rel n (f_X10_hang (f_X9_hang S x1 x2).2 x1 x2).2 := by
  obtain ⟨hM, hN, hH, hW, hT, hY, hK, hKB, hG, hGB, hL⟩ := id h
  by_cases h1 : wi x1 10 = true
  · by_cases h2 : wi x2 10 = true
    · have hj2 := vp_lt (wi_in h2 (N := 10) (by decide) (by decide))
      cases hr : S.2 1 0 x2.toNatClampNeg with
      | none =>
        have e1 : f_X9_hang S x1 x2 = f_X9_done (uR S 1 0 x1.toNatClampNeg none) 0 := by unfold f_X9_hang; simp only [if_pos h1, if_pos h2, hr]
        rw [e1]
        have e3 := hk_none hH hj2 hr
        have e2 : f_X10_hang (f_X9_done (uR S 1 0 x1.toNatClampNeg none) 0).2 x1 x2 = f_X10_says (uI (f_X9_done (uR S 1 0 x1.toNatClampNeg none) 0).2 18 0 x1.toNatClampNeg (S.1 18 0 x2.toNatClampNeg)) 0 := by
          unfold f_X10_hang
          rw [wj9, wj9, if_pos h1, if_pos h2, if_pos (show (f_X9_done (uR S 1 0 x1.toNatClampNeg none) 0).2.1 18 0 x2.toNatClampNeg = -1 from e3)]
          rfl
        rw [e2]
        exact ⟨rfl, misc_ref hM 0, hN, hook_set hH _ e3, wf_uR hW (fun k q => by cases q), hT, hY, hK, hKB, hG, hGB, hL⟩
      | some t =>
        have e1 : f_X9_hang S x1 x2 = f_X9_done (uR S 1 0 x1.toNatClampNeg (some t)) 1 := by unfold f_X9_hang; simp only [if_pos h1, if_pos h2, hr]
        rw [e1]
        have e3 := hk_some hH hj2 hr
        have ht := hW _ _ _ _ hr
        have e2 : f_X10_hang (f_X9_done (uR S 1 0 x1.toNatClampNeg (some t)) 1).2 x1 x2 = f_X10_says (uI (f_X9_done (uR S 1 0 x1.toNatClampNeg (some t)) 1).2 18 0 x1.toNatClampNeg (S.1 18 0 x2.toNatClampNeg)) 1 := by
          unfold f_X10_hang
          rw [wj9, wj9, if_pos h1, if_pos h2, if_neg (show ¬ (f_X9_done (uR S 1 0 x1.toNatClampNeg (some t)) 1).2.1 18 0 x2.toNatClampNeg = -1 from fun q => nI_nm1 (k := t) (by omega) (e3.symm.trans q))]
          rfl
        rw [e2]
        exact ⟨rfl, misc_ref hM 0, hN, hook_set hH _ e3, wf_uR hW (fun k q => by cases q; exact ht), hT, hY, hK, hKB, hG, hGB, hL⟩
    · have e1 : f_X9_hang S x1 x2 = f_X9_refuse S (-2) := by unfold f_X9_hang; rw [if_pos h1, if_neg h2]
      rw [e1]
      have e2 : f_X10_hang (f_X9_refuse S (-2)).2 x1 x2 = f_X10_refuses (f_X9_refuse S (-2)).2 (-2) := by unfold f_X10_hang; rw [wj9, wj9, if_pos h1, if_neg h2]
      rw [e2]
      exact ⟨rfl, rel_ref h _⟩
  · have e1 : f_X9_hang S x1 x2 = f_X9_refuse S (-2) := by unfold f_X9_hang; rw [if_neg h1]
    rw [e1]
    have e2 : f_X10_hang (f_X9_refuse S (-2)).2 x1 x2 = f_X10_refuses (f_X9_refuse S (-2)).2 (-2) := by unfold f_X10_hang; rw [wj9, if_neg h1]
    rw [e2]
    exact ⟨rfl, rel_ref h _⟩
