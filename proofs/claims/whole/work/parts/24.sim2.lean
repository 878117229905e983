theorem vK_eq {S : SS} {t : Nat} (h : S.1 16 t 4 = 0 ∨ S.1 16 t 4 = 1 ∨ S.1 16 t 4 = 2 ∨ S.1 16 t 4 = 3) : vK S t = S.1 16 t 4 := by
  unfold vK
  rcases h with q | q | q | q <;> rw [q] <;> rfl
theorem pB_0 {k : Int32} (h : ¬ (k = 1 ∨ k = 2)) : pB k = 0 := by
  unfold pB
  rw [if_neg (fun q => h (Or.inl q)), if_neg (fun q => h (Or.inr q))]
theorem pB_1 {k : Int32} (h : k = 1 ∨ k = 2) : ¬ pB k = 0 := by
  unfold pB
  rcases h with q | q <;> rw [q] <;> decide
theorem mW_eq {S S' : SS} {t : Nat} {v : Int32} (hv : v.toNatClampNeg = t) (h2 : S'.1 18 2 t = S.1 16 t 4) (h3 : S'.1 18 3 t = S.1 16 t 0) : mW S' v = vW S t := by
  unfold mW vW
  rw [hv, h2, h3]
theorem tool_set {n : Nat} {k2 k3 k4 k5 k6 k2' k3' k4' k5' k6' : Nat → Int32} {t t' : Nat → Nat → Int32} (h : Tool n k2 k3 k4 k5 k6 t) (q : Nat) (hne : ∀ k, k ≠ q → k2' k = k2 k ∧ k3' k = k3 k ∧ k4' k = k4 k ∧ k5' k = k5 k ∧ k6' k = k6 k ∧ t' k = t k) (hq : Tl (k2' q) (k3' q) (k4' q) (k5' q) (k6' q) (t' q)) : Tool n k2' k3' k4' k5' k6' t' := by
  intro k hk
  by_cases e : k = q
  · subst e; exact hq
  · obtain ⟨a, b, c, d, f, g⟩ := hne k e
    rw [a, b, c, d, f, g]
    exact h k hk
theorem row1 (S : SS) (f i k : Nat) (v : Int32) : (uI S f i k v).1 f i = upd (S.1 f i) k v := wI_eq S f i _
theorem rowN (S : SS) (f i k : Nat) (v : Int32) {j : Nat} (h : j ≠ i) : (uI S f i k v).1 f j = S.1 f j := wI_ne S f i _ (fun q => h q.2)
theorem updN (f : Nat → Int32) (k : Nat) (v : Int32) {j : Nat} (h : j ≠ k) : upd f k v j = f j := by simp [upd, h]
theorem updS (f : Nat → Int32) (k : Nat) (v : Int32) : upd f k v k = v := by simp [upd]

theorem misc_let {a b c d : Nat → Int32} (x : Int32) (h : Misc a b (upd c 9 x) d) {v w : Int32} (hv : v = w) : Misc (upd a 17 v) b (upd (upd c 9 x) 9 w) d := by
  obtain ⟨h1, h2, h3, h4⟩ := h
  exact ⟨by simp [upd, hv], by simpa [upd] using h2, by simpa [upd] using h3, h4⟩
theorem rel_let {n : Nat} {S : SS} (h : Rel n S) (v : Int32) (hv : vp_in v 7) (j : Nat) (q : S.1 18 16 j = S.1 6 0 j) : Rel n (uI (f_X10_fails (uI (f_X9_fail S v).2 0 0 9 ((f_X9_fail S v).2.1 6 0 j)) v).2 17 0 17 ((f_X10_fails (uI (f_X9_fail S v).2 0 0 9 ((f_X9_fail S v).2.1 6 0 j)) v).2.1 18 16 j)) := ⟨misc_let _ (misc_fail h.1 v hv) q, h.2⟩

set_option maxRecDepth 100000 in
theorem sm_unhang {n : Nat} {S : SS} (hn : n < 600) (h : Rel n S) (x1 : Int32) : (f_X9_unhang S x1).1 = (f_X10_unhang (f_X9_unhang S x1).2 x1).1 ∧ Rel n (f_X10_unhang (f_X9_unhang S x1).2 x1).2 := by
  obtain ⟨hM, hN, hH, hW, hT, hY, hK, hKB, hG, hGB, hL⟩ := id h
  by_cases h1 : wi x1 10 = true
  · have hj := vp_lt (wi_in h1 (N := 10) (by decide) (by decide))
    cases hr : S.2 1 0 x1.toNatClampNeg with
    | none =>
      have e3 := hk_none hH hj hr
      have e1 : f_X9_unhang S x1 = f_X9_done (uR S 1 0 x1.toNatClampNeg none) 0 := by unfold f_X9_unhang; simp only [if_pos h1, hr]
      rw [e1]
      have e2 : f_X10_unhang (f_X9_done (uR S 1 0 x1.toNatClampNeg none) 0).2 x1 = f_X10_says (uI (f_X9_done (uR S 1 0 x1.toNatClampNeg none) 0).2 18 0 x1.toNatClampNeg (-1)) 0 := by
        unfold f_X10_unhang
        rw [wj9, if_pos h1, if_pos (show (f_X9_done (uR S 1 0 x1.toNatClampNeg none) 0).2.1 18 0 x1.toNatClampNeg = -1 from e3)]
      rw [e2]
      exact ⟨rfl, misc_ref hM 0, hN, hook_set hH _ rfl, wf_uR hW (fun k q => by cases q), hT, hY, hK, hKB, hG, hGB, hL⟩
    | some t =>
      have e3 := hk_some hH hj hr
      have ht := hW _ _ _ _ hr
      have hc : (nI t).toNatClampNeg = t := nI_clamp (by omega)
      have hne : ¬ nI t = -1 := nI_nm1 (by omega)
      obtain ⟨⟨q1, q2⟩, q3, q4, q5, q6⟩ := hT t ht
      have e1 : f_X9_unhang S x1 = f_X9_done (uR S 1 0 x1.toNatClampNeg none) 1 := by unfold f_X9_unhang; simp only [if_pos h1, hr]
      rw [e1]
      have e2 : f_X10_unhang (f_X9_done (uR S 1 0 x1.toNatClampNeg none) 1).2 x1 = f_X10_says (uI (f_X9_done (uR S 1 0 x1.toNatClampNeg none) 1).2 18 0 x1.toNatClampNeg (-1)) 1 := by
        unfold f_X10_unhang
        rw [wj9, if_pos h1, if_neg (show ¬ (f_X9_done (uR S 1 0 x1.toNatClampNeg none) 1).2.1 18 0 x1.toNatClampNeg = -1 from fun q => hne (e3.symm.trans q))]
      rw [e2]
      exact ⟨rfl, misc_ref hM 0, hN, hook_set hH _ rfl, wf_uR hW (fun k q => by cases q), hT, hY, hK, hKB, hG, hGB, hL⟩
  · have e1 : f_X9_unhang S x1 = f_X9_refuse S (-2) := by unfold f_X9_unhang; rw [if_neg h1]
    rw [e1]
    have e2 : f_X10_unhang (f_X9_refuse S (-2)).2 x1 = f_X10_refuses (f_X9_refuse S (-2)).2 (-2) := by
      unfold f_X10_unhang
      rw [wj9, if_neg h1]
    rw [e2]
    exact ⟨rfl, rel_ref h _⟩

set_option maxRecDepth 100000 in
theorem sm_kind {n : Nat} {S : SS} (hn : n < 600) (h : Rel n S) (x1 : Int32) : (f_X9_kind S x1).1 = (f_X10_kind (f_X9_kind S x1).2 x1).1 ∧ Rel n (f_X10_kind (f_X9_kind S x1).2 x1).2 := by
  obtain ⟨hM, hN, hH, hW, hT, hY, hK, hKB, hG, hGB, hL⟩ := id h
  by_cases h1 : wi x1 10 = true
  · have hj := vp_lt (wi_in h1 (N := 10) (by decide) (by decide))
    cases hr : S.2 1 0 x1.toNatClampNeg with
    | none =>
      have e3 := hk_none hH hj hr
      have e1 : f_X9_kind S x1 = f_X9_done S (-1) := by unfold f_X9_kind; simp only [if_pos h1, hr]
      rw [e1]
      have e2 : f_X10_kind (f_X9_done S (-1)).2 x1 = f_X10_says (f_X9_done S (-1)).2 (-1) := by
        unfold f_X10_kind
        rw [wj9, if_pos h1, if_pos (show (f_X9_done S (-1)).2.1 18 0 x1.toNatClampNeg = -1 from e3)]
      rw [e2]
      exact ⟨rfl, misc_ref hM 0, hN, hH, hW, hT, hY, hK, hKB, hG, hGB, hL⟩
    | some t =>
      have e3 := hk_some hH hj hr
      have ht := hW _ _ _ _ hr
      have hc : (nI t).toNatClampNeg = t := nI_clamp (by omega)
      have hne : ¬ nI t = -1 := nI_nm1 (by omega)
      obtain ⟨⟨q1, q2⟩, q3, q4, q5, q6⟩ := hT t ht
      have e1 : f_X9_kind S x1 = f_X9_done S (vK S t) := by unfold f_X9_kind; simp only [if_pos h1, hr]
      rw [e1]
      have e2 : f_X10_kind (f_X9_done S (vK S t)).2 x1 = f_X10_says (f_X9_done S (vK S t)).2 (S.1 18 2 t) := by
        unfold f_X10_kind
        rw [wj9, if_pos h1, if_neg (show ¬ (f_X9_done S (vK S t)).2.1 18 0 x1.toNatClampNeg = -1 from fun q => hne (e3.symm.trans q))]
        rw [show (f_X9_done S (vK S t)).2.1 18 0 x1.toNatClampNeg = nI t from e3, hc]
        rfl
      rw [e2]
      exact ⟨(vK_eq q2).trans q1.symm, misc_ref hM 0, hN, hH, hW, hT, hY, hK, hKB, hG, hGB, hL⟩
  · have e1 : f_X9_kind S x1 = f_X9_refuse S (-2) := by unfold f_X9_kind; rw [if_neg h1]
    rw [e1]
    have e2 : f_X10_kind (f_X9_refuse S (-2)).2 x1 = f_X10_refuses (f_X9_refuse S (-2)).2 (-2) := by
      unfold f_X10_kind
      rw [wj9, if_neg h1]
    rw [e2]
    exact ⟨rfl, rel_ref h _⟩

set_option maxRecDepth 100000 in
theorem sm_card {n : Nat} {S : SS} (hn : n < 600) (h : Rel n S) (x1 x2 : Int32) : (f_X9_card S x1 x2).1 = (f_X10_card (f_X9_card S x1 x2).2 x1 x2).1 ∧ Rel n (f_X10_card (f_X9_card S x1 x2).2 x1 x2).2 := by
  obtain ⟨hM, hN, hH, hW, hT, hY, hK, hKB, hG, hGB, hL⟩ := id h
  by_cases h1 : wi x1 10 = true
  · have hj := vp_lt (wi_in h1 (N := 10) (by decide) (by decide))
    cases hr : S.2 1 0 x1.toNatClampNeg with
    | none =>
      have e3 := hk_none hH hj hr
      have e1 : f_X9_card S x1 x2 = f_X9_fail S 1 := by unfold f_X9_card; simp only [if_pos h1, hr]
      rw [e1]
      have e2 : f_X10_card (f_X9_fail S 1).2 x1 x2 = f_X10_fails (f_X9_fail S 1).2 1 := by
        unfold f_X10_card
        rw [wj9, if_pos h1, if_pos (show (f_X9_fail S 1).2.1 18 0 x1.toNatClampNeg = -1 from e3)]
      rw [e2]
      exact ⟨rfl, rel_fail h _ one_in⟩
    | some t =>
      have e3 := hk_some hH hj hr
      have ht := hW _ _ _ _ hr
      have hc : (nI t).toNatClampNeg = t := nI_clamp (by omega)
      have hne : ¬ nI t = -1 := nI_nm1 (by omega)
      obtain ⟨⟨q1, q2⟩, q3, q4, q5, q6⟩ := hT t ht
      have hT2 : Tool n (S.1 18 2) (S.1 18 3) (S.1 18 4) ((upd (S.1 18 5) t 1)) ((upd (S.1 18 6) t x2)) ((uI (uI S 16 t 1 1) 16 t 2 x2).1 16) := tool_set hT t (fun k hk => ⟨rfl, rfl, rfl, updN _ _ _ hk, updN _ _ _ hk, Eq.trans (rowN _ _ _ _ _ hk) (rowN _ _ _ _ _ hk)⟩) (by
        rw [show (uI (uI S 16 t 1 1) 16 t 2 x2).1 16 t = upd (upd (S.1 16 t) 1 1) 2 x2 from by rw [row1, row1]]
        exact ⟨⟨q1, q2⟩, q3, q4, updS _ _ _, fun _ => updS _ _ _⟩)
      have e1 : f_X9_card S x1 x2 = f_X9_done (uI (uI S 16 t 1 1) 16 t 2 x2) 1 := by unfold f_X9_card; simp only [if_pos h1, hr]
      rw [e1]
      have e2 : f_X10_card (f_X9_done (uI (uI S 16 t 1 1) 16 t 2 x2) 1).2 x1 x2 = f_X10_says (uI (uI (f_X9_done (uI (uI S 16 t 1 1) 16 t 2 x2) 1).2 18 5 t 1) 18 6 t x2) 1 := by
        unfold f_X10_card
        rw [wj9, if_pos h1, if_neg (show ¬ (f_X9_done (uI (uI S 16 t 1 1) 16 t 2 x2) 1).2.1 18 0 x1.toNatClampNeg = -1 from fun q => hne (e3.symm.trans q))]
        rw [show (f_X9_done (uI (uI S 16 t 1 1) 16 t 2 x2) 1).2.1 18 0 x1.toNatClampNeg = nI t from e3, hc]
      rw [e2]
      exact ⟨rfl, misc_ref hM 0, hN, hH, hW, hT2, hY, hK, hKB, hG, hGB, hL⟩
  · have e1 : f_X9_card S x1 x2 = f_X9_refuse S (-2) := by unfold f_X9_card; rw [if_neg h1]
    rw [e1]
    have e2 : f_X10_card (f_X9_refuse S (-2)).2 x1 x2 = f_X10_refuses (f_X9_refuse S (-2)).2 (-2) := by
      unfold f_X10_card
      rw [wj9, if_neg h1]
    rw [e2]
    exact ⟨rfl, rel_ref h _⟩

set_option maxRecDepth 100000 in
theorem sm_uncard {n : Nat} {S : SS} (hn : n < 600) (h : Rel n S) (x1 : Int32) : (f_X9_uncard S x1).1 = (f_X10_uncard (f_X9_uncard S x1).2 x1).1 ∧ Rel n (f_X10_uncard (f_X9_uncard S x1).2 x1).2 := by
  obtain ⟨hM, hN, hH, hW, hT, hY, hK, hKB, hG, hGB, hL⟩ := id h
  by_cases h1 : wi x1 10 = true
  · have hj := vp_lt (wi_in h1 (N := 10) (by decide) (by decide))
    cases hr : S.2 1 0 x1.toNatClampNeg with
    | none =>
      have e3 := hk_none hH hj hr
      have e1 : f_X9_uncard S x1 = f_X9_fail S 1 := by unfold f_X9_uncard; simp only [if_pos h1, hr]
      rw [e1]
      have e2 : f_X10_uncard (f_X9_fail S 1).2 x1 = f_X10_fails (f_X9_fail S 1).2 1 := by
        unfold f_X10_uncard
        rw [wj9, if_pos h1, if_pos (show (f_X9_fail S 1).2.1 18 0 x1.toNatClampNeg = -1 from e3)]
      rw [e2]
      exact ⟨rfl, rel_fail h _ one_in⟩
    | some t =>
      have e3 := hk_some hH hj hr
      have ht := hW _ _ _ _ hr
      have hc : (nI t).toNatClampNeg = t := nI_clamp (by omega)
      have hne : ¬ nI t = -1 := nI_nm1 (by omega)
      obtain ⟨⟨q1, q2⟩, q3, q4, q5, q6⟩ := hT t ht
      have hT2 : Tool n (S.1 18 2) (S.1 18 3) (S.1 18 4) ((upd (S.1 18 5) t 0)) (S.1 18 6) ((uI S 16 t 1 0).1 16) := tool_set hT t (fun k hk => ⟨rfl, rfl, rfl, updN _ _ _ hk, rfl, rowN _ _ _ _ _ hk⟩) (by
        rw [show (uI S 16 t 1 0).1 16 t = upd (S.1 16 t) 1 0 from by rw [row1]]
        exact ⟨⟨q1, q2⟩, q3, q4, updS _ _ _, fun q => absurd rfl q⟩)
      have e1 : f_X9_uncard S x1 = f_X9_done (uI S 16 t 1 0) 1 := by unfold f_X9_uncard; simp only [if_pos h1, hr]
      rw [e1]
      have e2 : f_X10_uncard (f_X9_done (uI S 16 t 1 0) 1).2 x1 = f_X10_says (uI (f_X9_done (uI S 16 t 1 0) 1).2 18 5 t 0) 1 := by
        unfold f_X10_uncard
        rw [wj9, if_pos h1, if_neg (show ¬ (f_X9_done (uI S 16 t 1 0) 1).2.1 18 0 x1.toNatClampNeg = -1 from fun q => hne (e3.symm.trans q))]
        rw [show (f_X9_done (uI S 16 t 1 0) 1).2.1 18 0 x1.toNatClampNeg = nI t from e3, hc]
      rw [e2]
      exact ⟨rfl, misc_ref hM 0, hN, hH, hW, hT2, hY, hK, hKB, hG, hGB, hL⟩
  · have e1 : f_X9_uncard S x1 = f_X9_refuse S (-2) := by unfold f_X9_uncard; rw [if_neg h1]
    rw [e1]
    have e2 : f_X10_uncard (f_X9_refuse S (-2)).2 x1 = f_X10_refuses (f_X9_refuse S (-2)).2 (-2) := by
      unfold f_X10_uncard
      rw [wj9, if_neg h1]
    rw [e2]
    exact ⟨rfl, rel_ref h _⟩

set_option maxRecDepth 100000 in
theorem sm_rename {n : Nat} {S : SS} (hn : n < 600) (h : Rel n S) (x1 x2 : Int32) : (f_X9_rename S x1 x2).1 = (f_X10_rename (f_X9_rename S x1 x2).2 x1 x2).1 ∧ Rel n (f_X10_rename (f_X9_rename S x1 x2).2 x1 x2).2 := by
  obtain ⟨hM, hN, hH, hW, hT, hY, hK, hKB, hG, hGB, hL⟩ := id h
  by_cases h1 : wi x1 10 = true
  · have hj := vp_lt (wi_in h1 (N := 10) (by decide) (by decide))
    cases hr : S.2 1 0 x1.toNatClampNeg with
    | none =>
      have e3 := hk_none hH hj hr
      have e1 : f_X9_rename S x1 x2 = f_X9_fail S 1 := by unfold f_X9_rename; simp only [if_pos h1, hr]
      rw [e1]
      have e2 : f_X10_rename (f_X9_fail S 1).2 x1 x2 = f_X10_fails (f_X9_fail S 1).2 1 := by
        unfold f_X10_rename
        rw [wj9, if_pos h1, if_pos (show (f_X9_fail S 1).2.1 18 0 x1.toNatClampNeg = -1 from e3)]
      rw [e2]
      exact ⟨rfl, rel_fail h _ one_in⟩
    | some t =>
      have e3 := hk_some hH hj hr
      have ht := hW _ _ _ _ hr
      have hc : (nI t).toNatClampNeg = t := nI_clamp (by omega)
      have hne : ¬ nI t = -1 := nI_nm1 (by omega)
      obtain ⟨⟨q1, q2⟩, q3, q4, q5, q6⟩ := hT t ht
      by_cases h5 : S.1 16 t 1 = 0
      · have e1 : f_X9_rename S x1 x2 = f_X9_fail S 1 := by unfold f_X9_rename; simp only [if_pos h1, hr, if_pos h5]
        rw [e1]
        have e2 : f_X10_rename (f_X9_fail S 1).2 x1 x2 = f_X10_fails (f_X9_fail S 1).2 1 := by
          unfold f_X10_rename
          rw [wj9, if_pos h1, if_neg (show ¬ (f_X9_fail S 1).2.1 18 0 x1.toNatClampNeg = -1 from fun q => hne (e3.symm.trans q))]
          rw [show (f_X9_fail S 1).2.1 18 0 x1.toNatClampNeg = nI t from e3, hc]
          rw [if_pos (show (f_X9_fail S 1).2.1 18 5 t = 0 from q5.trans h5)]
        rw [e2]
        exact ⟨rfl, rel_fail h _ one_in⟩
      · have hT2 : Tool n (S.1 18 2) (S.1 18 3) (S.1 18 4) (S.1 18 5) ((upd (S.1 18 6) t x2)) ((uI S 16 t 2 x2).1 16) := tool_set hT t (fun k hk => ⟨rfl, rfl, rfl, rfl, updN _ _ _ hk, rowN _ _ _ _ _ hk⟩) (by
          rw [show (uI S 16 t 2 x2).1 16 t = upd (S.1 16 t) 2 x2 from by rw [row1]]
          exact ⟨⟨q1, q2⟩, q3, q4, q5, fun _ => updS _ _ _⟩)
        have e1 : f_X9_rename S x1 x2 = f_X9_done (uI S 16 t 2 x2) 1 := by unfold f_X9_rename; simp only [if_pos h1, hr, if_neg h5]
        rw [e1]
        have e2 : f_X10_rename (f_X9_done (uI S 16 t 2 x2) 1).2 x1 x2 = f_X10_says (uI (f_X9_done (uI S 16 t 2 x2) 1).2 18 6 t x2) 1 := by
          unfold f_X10_rename
          rw [wj9, if_pos h1, if_neg (show ¬ (f_X9_done (uI S 16 t 2 x2) 1).2.1 18 0 x1.toNatClampNeg = -1 from fun q => hne (e3.symm.trans q))]
          rw [show (f_X9_done (uI S 16 t 2 x2) 1).2.1 18 0 x1.toNatClampNeg = nI t from e3, hc]
          rw [if_neg (show ¬ (f_X9_done (uI S 16 t 2 x2) 1).2.1 18 5 t = 0 from fun q => h5 (q5.symm.trans q))]
        rw [e2]
        exact ⟨rfl, misc_ref hM 0, hN, hH, hW, hT2, hY, hK, hKB, hG, hGB, hL⟩
  · have e1 : f_X9_rename S x1 x2 = f_X9_refuse S (-2) := by unfold f_X9_rename; rw [if_neg h1]
    rw [e1]
    have e2 : f_X10_rename (f_X9_refuse S (-2)).2 x1 x2 = f_X10_refuses (f_X9_refuse S (-2)).2 (-2) := by
      unfold f_X10_rename
      rw [wj9, if_neg h1]
    rw [e2]
    exact ⟨rfl, rel_ref h _⟩

set_option maxRecDepth 100000 in
theorem sm_hone {n : Nat} {S : SS} (hn : n < 600) (h : Rel n S) (x1 x2 : Int32) : (f_X9_hone S x1 x2).1 = (f_X10_hone (f_X9_hone S x1 x2).2 x1 x2).1 ∧ Rel n (f_X10_hone (f_X9_hone S x1 x2).2 x1 x2).2 := by
  obtain ⟨hM, hN, hH, hW, hT, hY, hK, hKB, hG, hGB, hL⟩ := id h
  by_cases h1 : wi x1 10 = true
  · have hj := vp_lt (wi_in h1 (N := 10) (by decide) (by decide))
    cases hr : S.2 1 0 x1.toNatClampNeg with
    | none =>
      have e3 := hk_none hH hj hr
      have e1 : f_X9_hone S x1 x2 = f_X9_fail S 1 := by unfold f_X9_hone; simp only [if_pos h1, hr]
      rw [e1]
      have e2 : f_X10_hone (f_X9_fail S 1).2 x1 x2 = f_X10_fails (f_X9_fail S 1).2 1 := by
        unfold f_X10_hone
        rw [wj9, if_pos h1, if_pos (show (f_X9_fail S 1).2.1 18 0 x1.toNatClampNeg = -1 from e3)]
      rw [e2]
      exact ⟨rfl, rel_fail h _ one_in⟩
    | some t =>
      have e3 := hk_some hH hj hr
      have ht := hW _ _ _ _ hr
      have hc : (nI t).toNatClampNeg = t := nI_clamp (by omega)
      have hne : ¬ nI t = -1 := nI_nm1 (by omega)
      obtain ⟨⟨q1, q2⟩, q3, q4, q5, q6⟩ := hT t ht
      by_cases h5 : (S.1 16 t 4 = 1 ∨ S.1 16 t 4 = 2)
      · have hT2 : Tool n (S.1 18 2) (S.1 18 3) ((upd (S.1 18 4) t x2)) (S.1 18 5) (S.1 18 6) ((uI S 16 t 3 x2).1 16) := tool_set hT t (fun k hk => ⟨rfl, rfl, updN _ _ _ hk, rfl, rfl, rowN _ _ _ _ _ hk⟩) (by
          rw [show (uI S 16 t 3 x2).1 16 t = upd (S.1 16 t) 3 x2 from by rw [row1]]
          exact ⟨⟨q1, q2⟩, q3, fun _ => updS _ _ _, q5, q6⟩)
        have e1 : f_X9_hone S x1 x2 = f_X9_done (uI S 16 t 3 x2) 1 := by unfold f_X9_hone; simp only [if_pos h1, hr, if_pos h5]
        rw [e1]
        have e2 : f_X10_hone (f_X9_done (uI S 16 t 3 x2) 1).2 x1 x2 = f_X10_says (uI (f_X9_done (uI S 16 t 3 x2) 1).2 18 4 t x2) 1 := by
          unfold f_X10_hone
          rw [wj9, if_pos h1, if_neg (show ¬ (f_X9_done (uI S 16 t 3 x2) 1).2.1 18 0 x1.toNatClampNeg = -1 from fun q => hne (e3.symm.trans q))]
          rw [show (f_X9_done (uI S 16 t 3 x2) 1).2.1 18 0 x1.toNatClampNeg = nI t from e3, hc]
          rw [if_neg (show ¬ pB ((f_X9_done (uI S 16 t 3 x2) 1).2.1 18 2 t) = 0 from pB_1 (by rw [show (f_X9_done (uI S 16 t 3 x2) 1).2.1 18 2 t = S.1 16 t 4 from q1]; exact h5))]
        rw [e2]
        exact ⟨rfl, misc_ref hM 0, hN, hH, hW, hT2, hY, hK, hKB, hG, hGB, hL⟩
      · have e1 : f_X9_hone S x1 x2 = f_X9_fail S 4 := by unfold f_X9_hone; simp only [if_pos h1, hr, if_neg h5]
        rw [e1]
        have e2 : f_X10_hone (f_X9_fail S 4).2 x1 x2 = f_X10_fails (f_X9_fail S 4).2 4 := by
          unfold f_X10_hone
          rw [wj9, if_pos h1, if_neg (show ¬ (f_X9_fail S 4).2.1 18 0 x1.toNatClampNeg = -1 from fun q => hne (e3.symm.trans q))]
          rw [show (f_X9_fail S 4).2.1 18 0 x1.toNatClampNeg = nI t from e3, hc]
          rw [if_pos (show pB ((f_X9_fail S 4).2.1 18 2 t) = 0 from pB_0 (by rw [show (f_X9_fail S 4).2.1 18 2 t = S.1 16 t 4 from q1]; exact h5))]
        rw [e2]
        exact ⟨rfl, rel_fail h _ four_in⟩
  · have e1 : f_X9_hone S x1 x2 = f_X9_refuse S (-2) := by unfold f_X9_hone; rw [if_neg h1]
    rw [e1]
    have e2 : f_X10_hone (f_X9_refuse S (-2)).2 x1 x2 = f_X10_refuses (f_X9_refuse S (-2)).2 (-2) := by
      unfold f_X10_hone
      rw [wj9, if_neg h1]
    rw [e2]
    exact ⟨rfl, rel_ref h _⟩

theorem of_3 {x : Int32} (h : vp_in x 4) (h0 : ¬ x = 0) (h1 : ¬ x = 1) (h2 : ¬ x = 2) : x = 3 := by
  obtain ⟨j, hj, rfl⟩ := vp_in_of h (by decide)
  rcases (show j = 0 ∨ j = 1 ∨ j = 2 ∨ j = 3 by omega) with rfl | rfl | rfl | rfl
  · exact absurd rfl h0
  · exact absurd rfl h1
  · exact absurd rfl h2
  · rfl

set_option maxRecDepth 100000 in
theorem sm_of {n : Nat} {S : SS} (hn : n < 600) (h : Rel n S) (x1 x2 : Int32) : (f_X9_of S x1 x2).1 = (f_X10_of (f_X9_of S x1 x2).2 x1 x2).1 ∧ Rel n (f_X10_of (f_X9_of S x1 x2).2 x1 x2).2 := by
  obtain ⟨hM, hN, hH, hW, hT, hY, hK, hKB, hG, hGB, hL⟩ := id h
  by_cases h1 : wi x1 10 = true
  · have hj := vp_lt (wi_in h1 (N := 10) (by decide) (by decide))
    by_cases h2 : wi x2 4 = true
    · cases hr : S.2 1 0 x1.toNatClampNeg with
      | none =>
        have e3 := hk_none hH hj hr
        have e1 : f_X9_of S x1 x2 = f_X9_failWithZero S 1 := by unfold f_X9_of; simp only [if_pos h1, if_pos h2, hr]
        rw [e1]
        have e2 : f_X10_of (f_X9_failWithZero S 1).2 x1 x2 = (0, (f_X10_fails (uI (f_X9_failWithZero S 1).2 17 0 17 0) 1).2) := by
          unfold f_X10_of
          rw [wj9, wj3, if_pos h1, if_pos h2, if_pos (show (f_X9_failWithZero S 1).2.1 18 0 x1.toNatClampNeg = -1 from e3)]
        rw [e2]
        exact ⟨rfl, by dsimp only; exact rel_fail0 h _ one_in⟩
      | some t =>
        have e3 := hk_some hH hj hr
        have ht := hW _ _ _ _ hr
        have hc : (nI t).toNatClampNeg = t := nI_clamp (by omega)
        have hne : ¬ nI t = -1 := nI_nm1 (by omega)
        obtain ⟨⟨q1, q2⟩, q3, q4, q5, q6⟩ := hT t ht
        by_cases h3 : x2 = 0
        · by_cases h5 : S.1 16 t 1 = 0
          · have e1 : f_X9_of S x1 x2 = f_X9_failWithZero S 1 := by unfold f_X9_of; simp only [if_pos h1, if_pos h2, hr, if_pos h3, if_pos h5]
            rw [e1]
            have e2 : f_X10_of (f_X9_failWithZero S 1).2 x1 x2 = (0, (f_X10_fails (uI (f_X9_failWithZero S 1).2 17 0 17 0) 1).2) := by
              unfold f_X10_of
              rw [wj9, wj3, if_pos h1, if_pos h2, if_neg (show ¬ (f_X9_failWithZero S 1).2.1 18 0 x1.toNatClampNeg = -1 from fun q => hne (e3.symm.trans q))]
              rw [show (f_X9_failWithZero S 1).2.1 18 0 x1.toNatClampNeg = nI t from e3, hc]
              rw [if_pos h3, if_pos (show (f_X9_failWithZero S 1).2.1 18 5 t = 0 from q5.trans h5)]
            rw [e2]
            exact ⟨rfl, by dsimp only; exact rel_fail0 h _ one_in⟩
          · have e1 : f_X9_of S x1 x2 = f_X9_done S (S.1 16 t 2) := by unfold f_X9_of; simp only [if_pos h1, if_pos h2, hr, if_pos h3, if_neg h5]
            rw [e1]
            have e2 : f_X10_of (f_X9_done S (S.1 16 t 2)).2 x1 x2 = (S.1 18 6 t, uI (f_X9_done S (S.1 16 t 2)).2 17 0 17 0) := by
              unfold f_X10_of
              rw [wj9, wj3, if_pos h1, if_pos h2, if_neg (show ¬ (f_X9_done S (S.1 16 t 2)).2.1 18 0 x1.toNatClampNeg = -1 from fun q => hne (e3.symm.trans q))]
              rw [show (f_X9_done S (S.1 16 t 2)).2.1 18 0 x1.toNatClampNeg = nI t from e3, hc]
              rw [if_pos h3, if_neg (show ¬ (f_X9_done S (S.1 16 t 2)).2.1 18 5 t = 0 from fun q => h5 (q5.symm.trans q)), if_neg (show ¬ x2 = 3 by rw [h3]; decide)]
              rfl
            rw [e2]
            exact ⟨(q6 h5).symm, misc_ref hM 0, hN, hH, hW, hT, hY, hK, hKB, hG, hGB, hL⟩
        · by_cases h4 : x2 = 1
          · have e1 : f_X9_of S x1 x2 = f_X9_done S (S.1 16 t 0) := by unfold f_X9_of; simp only [if_pos h1, if_pos h2, hr, if_neg h3, if_pos h4]
            rw [e1]
            have e2 : f_X10_of (f_X9_done S (S.1 16 t 0)).2 x1 x2 = (S.1 18 3 t, uI (f_X9_done S (S.1 16 t 0)).2 17 0 17 0) := by
              unfold f_X10_of
              rw [wj9, wj3, if_pos h1, if_pos h2, if_neg (show ¬ (f_X9_done S (S.1 16 t 0)).2.1 18 0 x1.toNatClampNeg = -1 from fun q => hne (e3.symm.trans q))]
              rw [show (f_X9_done S (S.1 16 t 0)).2.1 18 0 x1.toNatClampNeg = nI t from e3, hc]
              rw [if_neg h3, if_neg (by rw [h4]; decide), if_pos h4]
              rfl
            rw [e2]
            exact ⟨q3.symm, misc_ref hM 0, hN, hH, hW, hT, hY, hK, hKB, hG, hGB, hL⟩
          · by_cases h6 : x2 = 2
            · have e1 : f_X9_of S x1 x2 = f_X9_done S (vW S t) := by unfold f_X9_of; simp only [if_pos h1, if_pos h2, hr, if_neg h3, if_neg h4, if_pos h6]
              rw [e1]
              have e2 : f_X10_of (f_X9_done S (vW S t)).2 x1 x2 = (mW (uI (f_X9_done S (vW S t)).2 17 0 17 0) (nI t), uI (f_X9_done S (vW S t)).2 17 0 17 0) := by
                unfold f_X10_of
                rw [wj9, wj3, if_pos h1, if_pos h2, if_neg (show ¬ (f_X9_done S (vW S t)).2.1 18 0 x1.toNatClampNeg = -1 from fun q => hne (e3.symm.trans q))]
                rw [if_neg h3, if_neg (show ¬ x2 = 3 by rw [h6]; decide), if_neg h4, if_pos h6]
                rw [show (f_X9_done S (vW S t)).2.1 18 0 x1.toNatClampNeg = nI t from e3]
              rw [e2]
              exact ⟨(mW_eq hc q1 q3).symm, misc_ref hM 0, hN, hH, hW, hT, hY, hK, hKB, hG, hGB, hL⟩
            · have h7 : x2 = 3 := of_3 (wi_in h2 (N := 4) (by decide) (by decide)) h3 h4 h6
              by_cases h5 : (S.1 16 t 4 = 1 ∨ S.1 16 t 4 = 2)
              · have e1 : f_X9_of S x1 x2 = f_X9_done S (S.1 16 t 3) := by unfold f_X9_of; simp only [if_pos h1, if_pos h2, hr, if_neg h3, if_neg h4, if_neg h6]; unfold f_X9_edgeOf; rw [if_pos h5]
                rw [e1]
                have e2 : f_X10_of (f_X9_done S (S.1 16 t 3)).2 x1 x2 = (S.1 18 4 t, uI (f_X9_done S (S.1 16 t 3)).2 17 0 17 0) := by
                  unfold f_X10_of
                  rw [wj9, wj3, if_pos h1, if_pos h2, if_neg (show ¬ (f_X9_done S (S.1 16 t 3)).2.1 18 0 x1.toNatClampNeg = -1 from fun q => hne (e3.symm.trans q))]
                  rw [show (f_X9_done S (S.1 16 t 3)).2.1 18 0 x1.toNatClampNeg = nI t from e3, hc]
                  rw [if_neg h3, if_pos h7, if_neg (show ¬ pB ((f_X9_done S (S.1 16 t 3)).2.1 18 2 t) = 0 from pB_1 (by rw [show (f_X9_done S (S.1 16 t 3)).2.1 18 2 t = S.1 16 t 4 from q1]; exact h5)), if_neg h4, if_neg h6]
                  rfl
                rw [e2]
                exact ⟨(q4 h5).symm, misc_ref hM 0, hN, hH, hW, hT, hY, hK, hKB, hG, hGB, hL⟩
              · have e1 : f_X9_of S x1 x2 = f_X9_failWithZero S 4 := by unfold f_X9_of; simp only [if_pos h1, if_pos h2, hr, if_neg h3, if_neg h4, if_neg h6]; unfold f_X9_edgeOf; rw [if_neg h5]
                rw [e1]
                have e2 : f_X10_of (f_X9_failWithZero S 4).2 x1 x2 = (0, (f_X10_fails (uI (f_X9_failWithZero S 4).2 17 0 17 0) 4).2) := by
                  unfold f_X10_of
                  rw [wj9, wj3, if_pos h1, if_pos h2, if_neg (show ¬ (f_X9_failWithZero S 4).2.1 18 0 x1.toNatClampNeg = -1 from fun q => hne (e3.symm.trans q))]
                  rw [show (f_X9_failWithZero S 4).2.1 18 0 x1.toNatClampNeg = nI t from e3, hc]
                  rw [if_neg h3, if_pos h7, if_pos (show pB ((f_X9_failWithZero S 4).2.1 18 2 t) = 0 from pB_0 (by rw [show (f_X9_failWithZero S 4).2.1 18 2 t = S.1 16 t 4 from q1]; exact h5))]
                rw [e2]
                exact ⟨rfl, by dsimp only; exact rel_fail0 h _ four_in⟩
    · have e1 : f_X9_of S x1 x2 = f_X9_refuseWithZero S (-3) := by unfold f_X9_of; rw [if_pos h1, if_neg h2]
      rw [e1]
      have e2 : f_X10_of (f_X9_refuseWithZero S (-3)).2 x1 x2 = (0, uI (f_X9_refuseWithZero S (-3)).2 17 0 17 (-3)) := by
        unfold f_X10_of
        rw [wj9, wj3, if_pos h1, if_neg h2]
      rw [e2]
      exact ⟨rfl, rel_ref0 h _⟩
  · have e1 : f_X9_of S x1 x2 = f_X9_refuseWithZero S (-2) := by unfold f_X9_of; rw [if_neg h1]
    rw [e1]
    have e2 : f_X10_of (f_X9_refuseWithZero S (-2)).2 x1 x2 = (0, uI (f_X9_refuseWithZero S (-2)).2 17 0 17 (-2)) := by
      unfold f_X10_of
      rw [wj9, if_neg h1]
    rw [e2]
    exact ⟨rfl, rel_ref0 h _⟩

theorem alm_set {s15 s16 a b : Nat → Int32} (h : Alm s15 s16 a b) (j : Nat) (v w : Int32) : Alm (upd s15 j v) (upd s16 j w) (upd a j v) (upd b j w) := by
  intro k hk
  unfold upd
  split
  · exact ⟨rfl, rfl⟩
  · exact h k hk
theorem alm_set1 {s15 s16 a b : Nat → Int32} (h : Alm s15 s16 a b) (j : Nat) (v : Int32) : Alm (upd s15 j v) s16 (upd a j v) b := by
  intro k hk
  refine ⟨?_, (h k hk).2⟩
  unfold upd
  split
  · rfl
  · exact (h k hk).1

set_option maxRecDepth 100000 in
theorem sm_alarm {n : Nat} {S : SS} (hn : n < 600) (h : Rel n S) (x1 x2 : Int32) : (f_X9_alarm S x1 x2).1 = (f_X10_alarm (f_X9_alarm S x1 x2).2 x1 x2).1 ∧ Rel n (f_X10_alarm (f_X9_alarm S x1 x2).2 x1 x2).2 := by
  obtain ⟨hM, hN, hH, hW, hT, hY, hK, hKB, hG, hGB, hL⟩ := id h
  by_cases h1 : wi x1 4 = true
  · have hj := vp_lt (wi_in h1 (N := 4) (by decide) (by decide))
    obtain ⟨q1, q2⟩ := hL _ hj
    by_cases h5 : S.1 5 0 x1.toNatClampNeg = 0
    · have e1 : f_X9_alarm S x1 x2 = f_X9_done (uI (uI S 5 0 x1.toNatClampNeg 1) 6 0 x1.toNatClampNeg x2) 1 := by unfold f_X9_alarm; rw [if_pos h1, if_pos h5]
      rw [e1]
      have e2 : f_X10_alarm (f_X9_done (uI (uI S 5 0 x1.toNatClampNeg 1) 6 0 x1.toNatClampNeg x2) 1).2 x1 x2 = f_X10_says (uI (uI (f_X9_done (uI (uI S 5 0 x1.toNatClampNeg 1) 6 0 x1.toNatClampNeg x2) 1).2 18 15 x1.toNatClampNeg 1) 18 16 x1.toNatClampNeg x2) 1 := by
        unfold f_X10_alarm
        rw [wj3, if_pos h1, if_pos (show (f_X9_done (uI (uI S 5 0 x1.toNatClampNeg 1) 6 0 x1.toNatClampNeg x2) 1).2.1 18 15 x1.toNatClampNeg = 0 from q1.trans h5)]
      rw [e2]
      exact ⟨rfl, misc_ref hM 0, hN, hH, hW, hT, hY, hK, hKB, hG, hGB, alm_set hL _ _ _⟩
    · have e1 : f_X9_alarm S x1 x2 = f_X9_done (uI (uI S 5 0 x1.toNatClampNeg 1) 6 0 x1.toNatClampNeg x2) 0 := by unfold f_X9_alarm; rw [if_pos h1, if_neg h5]
      rw [e1]
      have e2 : f_X10_alarm (f_X9_done (uI (uI S 5 0 x1.toNatClampNeg 1) 6 0 x1.toNatClampNeg x2) 0).2 x1 x2 = f_X10_says (uI (uI (f_X9_done (uI (uI S 5 0 x1.toNatClampNeg 1) 6 0 x1.toNatClampNeg x2) 0).2 18 15 x1.toNatClampNeg 1) 18 16 x1.toNatClampNeg x2) 0 := by
        unfold f_X10_alarm
        rw [wj3, if_pos h1, if_neg (show ¬ (f_X9_done (uI (uI S 5 0 x1.toNatClampNeg 1) 6 0 x1.toNatClampNeg x2) 0).2.1 18 15 x1.toNatClampNeg = 0 from fun q => h5 (q1.symm.trans q))]
      rw [e2]
      exact ⟨rfl, misc_ref hM 0, hN, hH, hW, hT, hY, hK, hKB, hG, hGB, alm_set hL _ _ _⟩
  · have e1 : f_X9_alarm S x1 x2 = f_X9_refuse S (-2) := by unfold f_X9_alarm; rw [if_neg h1]
    rw [e1]
    have e2 : f_X10_alarm (f_X9_refuse S (-2)).2 x1 x2 = f_X10_refuses (f_X9_refuse S (-2)).2 (-2) := by
      unfold f_X10_alarm
      rw [wj3, if_neg h1]
    rw [e2]
    exact ⟨rfl, rel_ref h _⟩

set_option maxRecDepth 100000 in
theorem sm_calm {n : Nat} {S : SS} (hn : n < 600) (h : Rel n S) (x1 : Int32) : (f_X9_calm S x1).1 = (f_X10_calm (f_X9_calm S x1).2 x1).1 ∧ Rel n (f_X10_calm (f_X9_calm S x1).2 x1).2 := by
  obtain ⟨hM, hN, hH, hW, hT, hY, hK, hKB, hG, hGB, hL⟩ := id h
  by_cases h1 : wi x1 4 = true
  · have hj := vp_lt (wi_in h1 (N := 4) (by decide) (by decide))
    obtain ⟨q1, q2⟩ := hL _ hj
    by_cases h5 : S.1 5 0 x1.toNatClampNeg = 0
    · have e1 : f_X9_calm S x1 = f_X9_done (uI S 5 0 x1.toNatClampNeg 0) 0 := by unfold f_X9_calm; rw [if_pos h1, if_pos h5]
      rw [e1]
      have e2 : f_X10_calm (f_X9_done (uI S 5 0 x1.toNatClampNeg 0) 0).2 x1 = f_X10_says (uI (f_X9_done (uI S 5 0 x1.toNatClampNeg 0) 0).2 18 15 x1.toNatClampNeg 0) 0 := by
        unfold f_X10_calm
        rw [wj3, if_pos h1, if_pos (show (f_X9_done (uI S 5 0 x1.toNatClampNeg 0) 0).2.1 18 15 x1.toNatClampNeg = 0 from q1.trans h5)]
      rw [e2]
      exact ⟨rfl, misc_ref hM 0, hN, hH, hW, hT, hY, hK, hKB, hG, hGB, alm_set1 hL _ _⟩
    · have e1 : f_X9_calm S x1 = f_X9_done (uI S 5 0 x1.toNatClampNeg 0) 1 := by unfold f_X9_calm; rw [if_pos h1, if_neg h5]
      rw [e1]
      have e2 : f_X10_calm (f_X9_done (uI S 5 0 x1.toNatClampNeg 0) 1).2 x1 = f_X10_says (uI (f_X9_done (uI S 5 0 x1.toNatClampNeg 0) 1).2 18 15 x1.toNatClampNeg 0) 1 := by
        unfold f_X10_calm
        rw [wj3, if_pos h1, if_neg (show ¬ (f_X9_done (uI S 5 0 x1.toNatClampNeg 0) 1).2.1 18 15 x1.toNatClampNeg = 0 from fun q => h5 (q1.symm.trans q))]
      rw [e2]
      exact ⟨rfl, misc_ref hM 0, hN, hH, hW, hT, hY, hK, hKB, hG, hGB, alm_set1 hL _ _⟩
  · have e1 : f_X9_calm S x1 = f_X9_refuse S (-2) := by unfold f_X9_calm; rw [if_neg h1]
    rw [e1]
    have e2 : f_X10_calm (f_X9_refuse S (-2)).2 x1 = f_X10_refuses (f_X9_refuse S (-2)).2 (-2) := by
      unfold f_X10_calm
      rw [wj3, if_neg h1]
    rw [e2]
    exact ⟨rfl, rel_ref h _⟩

set_option maxRecDepth 100000 in
theorem sm_let {n : Nat} {S : SS} (hn : n < 600) (h : Rel n S) (x1 : Int32) : (f_X9_let S x1).1 = (f_X10_let (f_X9_let S x1).2 x1).1 ∧ Rel n (f_X10_let (f_X9_let S x1).2 x1).2 := by
  obtain ⟨hM, hN, hH, hW, hT, hY, hK, hKB, hG, hGB, hL⟩ := id h
  by_cases h1 : wi x1 4 = true
  · have hj := vp_lt (wi_in h1 (N := 4) (by decide) (by decide))
    obtain ⟨q1, q2⟩ := hL _ hj
    by_cases h5 : S.1 5 0 x1.toNatClampNeg = 0
    · have e1 : f_X9_let S x1 = f_X9_fail S 1 := by unfold f_X9_let; rw [if_pos h1, if_pos h5]
      rw [e1]
      have e2 : f_X10_let (f_X9_fail S 1).2 x1 = f_X10_fails (f_X9_fail S 1).2 1 := by
        unfold f_X10_let
        rw [wj3, if_pos h1, if_pos (show (f_X9_fail S 1).2.1 18 15 x1.toNatClampNeg = 0 from q1.trans h5)]
      rw [e2]
      exact ⟨rfl, rel_fail h _ one_in⟩
    · have e1 : f_X9_let S x1 = ((f_X9_fail S 6).1, uI (f_X9_fail S 6).2 0 0 9 ((f_X9_fail S 6).2.1 6 0 x1.toNatClampNeg)) := by unfold f_X9_let; rw [if_pos h1, if_neg h5]
      rw [e1]
      have e2 : f_X10_let (((f_X9_fail S 6).1, uI (f_X9_fail S 6).2 0 0 9 ((f_X9_fail S 6).2.1 6 0 x1.toNatClampNeg))).2 x1 = ((f_X10_fails (((f_X9_fail S 6).1, uI (f_X9_fail S 6).2 0 0 9 ((f_X9_fail S 6).2.1 6 0 x1.toNatClampNeg))).2 6).1, uI (f_X10_fails (((f_X9_fail S 6).1, uI (f_X9_fail S 6).2 0 0 9 ((f_X9_fail S 6).2.1 6 0 x1.toNatClampNeg))).2 6).2 17 0 17 ((f_X10_fails (((f_X9_fail S 6).1, uI (f_X9_fail S 6).2 0 0 9 ((f_X9_fail S 6).2.1 6 0 x1.toNatClampNeg))).2 6).2.1 18 16 x1.toNatClampNeg)) := by
        unfold f_X10_let
        rw [wj3, if_pos h1, if_neg (show ¬ (((f_X9_fail S 6).1, uI (f_X9_fail S 6).2 0 0 9 ((f_X9_fail S 6).2.1 6 0 x1.toNatClampNeg))).2.1 18 15 x1.toNatClampNeg = 0 from fun q => h5 (q1.symm.trans q))]
      rw [e2]
      exact ⟨rfl, by dsimp only; exact rel_let h 6 (by unfold vp_in; decide) _ q2⟩
  · have e1 : f_X9_let S x1 = f_X9_refuse S (-2) := by unfold f_X9_let; rw [if_neg h1]
    rw [e1]
    have e2 : f_X10_let (f_X9_refuse S (-2)).2 x1 = f_X10_refuses (f_X9_refuse S (-2)).2 (-2) := by
      unfold f_X10_let
      rw [wj3, if_neg h1]
    rw [e2]
    exact ⟨rfl, rel_ref h _⟩

theorem sm_why {n : Nat} {S : SS} (hn : n < 600) (h : Rel n S) : (f_X9_why S).1 = (f_X10_why (f_X9_why S).2).1 ∧ Rel n (f_X10_why (f_X9_why S).2).2 := ⟨h.1.1.symm, h⟩
theorem sm_count {n : Nat} {S : SS} (hn : n < 600) (h : Rel n S) (x1 : Int32) : (f_X9_count S x1).1 = (f_X10_count (f_X9_count S x1).2 x1).1 ∧ Rel n (f_X10_count (f_X9_count S x1).2 x1).2 := by
  have eS : (f_X9_count S x1).2 = S := by
    unfold f_X9_count
    repeat' split
    all_goals rfl
  have eM : (f_X10_count S x1).2 = S := by
    unfold f_X10_count
    repeat' split
    all_goals rfl
  rw [eS, eM]
  refine ⟨?_, h⟩
  obtain ⟨⟨m1, m2, m3, m4⟩, -⟩ := h
  unfold f_X9_count f_X10_count
  by_cases h0 : x1 = 0
  · subst h0
    rw [if_pos rfl, if_pos (by decide), if_pos rfl]
    exact m2.symm
  · by_cases h7 : x1 = 7
    · subst h7
      rw [if_neg h0, if_pos rfl, if_pos (by decide), if_neg h0, if_pos rfl]
      exact m3.symm
    · rw [if_neg h0, if_neg h7]
      by_cases hw : wj x1 0 7 = true
      · have hv := cnt7 (wj_in (N := 7) hw (by decide) (by decide)) h7
        have hv2 := vp_in_iff.mp hv
        have hx0 : ¬ x1.toInt = 0 := lv_neT (k := 0) h0 (by decide)
        have e1 : (1 : Int32).toInt = 1 := by decide
        have e6 : (6 : Int32).toInt = 6 := by decide
        have n1 : ¬ x1 < 1 := fun q => by
          have := Int32.lt_iff_toInt_lt.mp q
          omega
        have n6 : ¬ 6 < x1 := fun q => by
          have := Int32.lt_iff_toInt_lt.mp q
          omega
        rw [if_pos hw, if_neg h0, if_neg h7, if_neg n1, if_neg n6]
        exact (m4 _ (vp_lt hv)).symm
      · rw [if_neg hw]
        by_cases a1 : x1 < 1
        · rw [if_pos a1]
        · by_cases a2 : 6 < x1
          · rw [if_neg a1, if_pos a2]
          · exfalso
            apply hw
            have := vp_in_iff.mp (cnt_in a1 a2)
            unfold wj
            simp only [Bool.and_eq_true, decide_eq_true_eq]
            refine ⟨Int32.le_iff_toInt_le.mpr ?_, Int32.le_iff_toInt_le.mpr ?_⟩
            · have e1 : (0 : Int32).toInt = 0 := by decide
              omega
            · have e1 : (7 : Int32).toInt = 7 := by decide
              omega
