theorem two_mul (x : Int32) : 2 * x = x + x := by
  have : (2 : Int32) = 1 + 1 := rfl
  rw [this, Int32.add_mul, Int32.one_mul]

set_option maxRecDepth 100000 in
theorem sm_use {n : Nat} {S : SS} (hn : n < 600) (h : Rel n S) (x1 x2 : Int32) : (f_X9_use S x1 x2).1 = (f_X10_use (f_X9_use S x1 x2).2 x1 x2).1 ∧ Rel n (f_X10_use (f_X9_use S x1 x2).2 x1 x2).2 := by
  obtain ⟨hM, hN, hH, hW, hT, hY, hK, hKB, hG, hGB, hL⟩ := id h
  by_cases h1 : wi x1 10 = true
  · have hj := vp_lt (wi_in h1 (N := 10) (by decide) (by decide))
    cases hr : S.2 1 0 x1.toNatClampNeg with
    | none =>
      have e3 := hk_none hH hj hr
      have e1 : f_X9_use S x1 x2 = f_X9_failWithZero S 1 := by unfold f_X9_use; simp only [if_pos h1, hr]
      rw [e1]
      have e2 : f_X10_use (f_X9_failWithZero S 1).2 x1 x2 = (0, (f_X10_fails (uI (f_X9_failWithZero S 1).2 17 0 17 0) 1).2) := by
        unfold f_X10_use
        rw [wj9, if_pos h1, if_pos (show (f_X9_failWithZero S 1).2.1 18 0 x1.toNatClampNeg = -1 from e3)]
      rw [e2]
      exact ⟨rfl, by dsimp only; exact rel_fail0 h _ one_in⟩
    | some t =>
      have e3 := hk_some hH hj hr
      have ht := hW _ _ _ _ hr
      have hc : (nI t).toNatClampNeg = t := nI_clamp (by omega)
      have hne : ¬ nI t = -1 := nI_nm1 (by omega)
      obtain ⟨⟨q1, q2⟩, q3, q4, q5, q6⟩ := hT t ht
      rcases q2 with z | z | z | z
      · have z2 : S.1 18 2 t = 0 := q1.trans z
        have hT2 : Tool n (S.1 18 2) ((upd (S.1 18 3) t ((S.1 18 3 t) + x2))) (S.1 18 4) (S.1 18 5) (S.1 18 6) ((uI (uI S 0 0 8 ((S.1 0 0 8) + 1)) 16 t 0 ((S.1 16 t 0) + x2)).1 16) := tool_set hT t (fun k hk => ⟨rfl, updN _ _ _ hk, rfl, rfl, rfl, rowN _ _ _ _ _ hk⟩) (by
          rw [show (uI (uI S 0 0 8 ((S.1 0 0 8) + 1)) 16 t 0 ((S.1 16 t 0) + x2)).1 16 t = upd (S.1 16 t) 0 ((S.1 16 t 0) + x2) from by rw [row1]; rfl]
          exact ⟨⟨q1, Or.inl z⟩, by rw [updS, q3]; rfl, fun q => absurd q (fun q => by rcases q with q | q <;> exact absurd (z.symm.trans q) (by decide)), q5, q6⟩)
        have e1 : f_X9_use S x1 x2 = f_X9_done (uI (uI S 0 0 8 ((S.1 0 0 8) + 1)) 16 t 0 ((S.1 16 t 0) + x2)) (2 * x2) := by unfold f_X9_use; simp only [if_pos h1, hr]; rw [show f_work (uI S 0 0 8 ((S.1 0 0 8) + 1)) t x2 = f_X4_work (uI S 0 0 8 ((S.1 0 0 8) + 1)) t x2 from by unfold f_work; rw [if_pos (show (uI S 0 0 8 ((S.1 0 0 8) + 1)).1 16 t 4 = 0 from z)]]; rfl
        rw [e1]
        have e2 : f_X10_use (f_X9_done (uI (uI S 0 0 8 ((S.1 0 0 8) + 1)) 16 t 0 ((S.1 16 t 0) + x2)) (2 * x2)).2 x1 x2 = ((x2 + x2), uI (uI (uI (f_X9_done (uI (uI S 0 0 8 ((S.1 0 0 8) + 1)) 16 t 0 ((S.1 16 t 0) + x2)) (2 * x2)).2 17 0 17 0) 17 0 20 ((S.1 17 0 20) + 1)) 18 3 t ((S.1 18 3 t) + x2)) := by
          unfold f_X10_use
          rw [wj9, if_pos h1, if_neg (show ¬ (f_X9_done (uI (uI S 0 0 8 ((S.1 0 0 8) + 1)) 16 t 0 ((S.1 16 t 0) + x2)) (2 * x2)).2.1 18 0 x1.toNatClampNeg = -1 from fun q => hne (e3.symm.trans q))]
          rw [show (f_X9_done (uI (uI S 0 0 8 ((S.1 0 0 8) + 1)) 16 t 0 ((S.1 16 t 0) + x2)) (2 * x2)).2.1 18 0 x1.toNatClampNeg = nI t from e3]
          unfold f_X10_used
          rw [hc, if_pos (show (uI (f_X9_done (uI (uI S 0 0 8 ((S.1 0 0 8) + 1)) 16 t 0 ((S.1 16 t 0) + x2)) (2 * x2)).2 17 0 17 0).1 18 2 t = 0 from z2)]
          rfl
        rw [e2]
        exact ⟨two_mul x2, misc_use hM, hN, hH, hW, hT2, hY, hK, hKB, hG, hGB, hL⟩
      · have z2 : S.1 18 2 t = 1 := q1.trans z
        have hT2 : Tool n (S.1 18 2) (S.1 18 3) ((upd (S.1 18 4) t ((S.1 18 4 t) - x2))) (S.1 18 5) (S.1 18 6) ((uI (uI S 0 0 8 ((S.1 0 0 8) + 1)) 16 t 3 ((S.1 16 t 3) - x2)).1 16) := tool_set hT t (fun k hk => ⟨rfl, rfl, updN _ _ _ hk, rfl, rfl, rowN _ _ _ _ _ hk⟩) (by
          rw [show (uI (uI S 0 0 8 ((S.1 0 0 8) + 1)) 16 t 3 ((S.1 16 t 3) - x2)).1 16 t = upd (S.1 16 t) 3 ((S.1 16 t 3) - x2) from by rw [row1]; rfl]
          exact ⟨⟨q1, Or.inr (Or.inl z)⟩, q3, fun _ => by rw [updS, q4 (Or.inl z)]; rfl, q5, q6⟩)
        have e1 : f_X9_use S x1 x2 = f_X9_done (uI (uI S 0 0 8 ((S.1 0 0 8) + 1)) 16 t 3 ((S.1 16 t 3) - x2)) (x2 + (S.1 16 t 0)) := by unfold f_X9_use; simp only [if_pos h1, hr]; rw [show f_work (uI S 0 0 8 ((S.1 0 0 8) + 1)) t x2 = f_X0_work (uI S 0 0 8 ((S.1 0 0 8) + 1)) t x2 from by unfold f_work; rw [if_neg (by rw [(show (uI S 0 0 8 ((S.1 0 0 8) + 1)).1 16 t 4 = 1 from z)]; decide), if_pos (show (uI S 0 0 8 ((S.1 0 0 8) + 1)).1 16 t 4 = 1 from z)]]; rfl
        rw [e1]
        have e2 : f_X10_use (f_X9_done (uI (uI S 0 0 8 ((S.1 0 0 8) + 1)) 16 t 3 ((S.1 16 t 3) - x2)) (x2 + (S.1 16 t 0))).2 x1 x2 = ((x2 + (S.1 18 3 t)), uI (uI (uI (f_X9_done (uI (uI S 0 0 8 ((S.1 0 0 8) + 1)) 16 t 3 ((S.1 16 t 3) - x2)) (x2 + (S.1 16 t 0))).2 17 0 17 0) 17 0 20 ((S.1 17 0 20) + 1)) 18 4 t ((S.1 18 4 t) - x2)) := by
          unfold f_X10_use
          rw [wj9, if_pos h1, if_neg (show ¬ (f_X9_done (uI (uI S 0 0 8 ((S.1 0 0 8) + 1)) 16 t 3 ((S.1 16 t 3) - x2)) (x2 + (S.1 16 t 0))).2.1 18 0 x1.toNatClampNeg = -1 from fun q => hne (e3.symm.trans q))]
          rw [show (f_X9_done (uI (uI S 0 0 8 ((S.1 0 0 8) + 1)) 16 t 3 ((S.1 16 t 3) - x2)) (x2 + (S.1 16 t 0))).2.1 18 0 x1.toNatClampNeg = nI t from e3]
          unfold f_X10_used
          rw [hc, if_neg (by rw [(show (uI (f_X9_done (uI (uI S 0 0 8 ((S.1 0 0 8) + 1)) 16 t 3 ((S.1 16 t 3) - x2)) (x2 + (S.1 16 t 0))).2 17 0 17 0).1 18 2 t = 1 from z2)]; decide), if_pos (show (uI (f_X9_done (uI (uI S 0 0 8 ((S.1 0 0 8) + 1)) 16 t 3 ((S.1 16 t 3) - x2)) (x2 + (S.1 16 t 0))).2 17 0 17 0).1 18 2 t = 1 from z2)]
          rfl
        rw [e2]
        exact ⟨by show _ = (x2 + S.1 18 3 t); rw [q3]; rfl, misc_use hM, hN, hH, hW, hT2, hY, hK, hKB, hG, hGB, hL⟩
      · have z2 : S.1 18 2 t = 2 := q1.trans z
        have hT2 : Tool n (S.1 18 2) (S.1 18 3) ((upd (S.1 18 4) t (((S.1 18 4 t) - x2) + 1))) (S.1 18 5) (S.1 18 6) ((uI (uI (uI S 0 0 8 ((S.1 0 0 8) + 1)) 16 t 3 ((S.1 16 t 3) - x2)) 16 t 3 (((S.1 16 t 3) - x2) + 1)).1 16) := tool_set hT t (fun k hk => ⟨rfl, rfl, updN _ _ _ hk, rfl, rfl, Eq.trans (rowN _ _ _ _ _ hk) (rowN _ _ _ _ _ hk)⟩) (by
          rw [show (uI (uI (uI S 0 0 8 ((S.1 0 0 8) + 1)) 16 t 3 ((S.1 16 t 3) - x2)) 16 t 3 (((S.1 16 t 3) - x2) + 1)).1 16 t = upd (upd (S.1 16 t) 3 ((S.1 16 t 3) - x2)) 3 (((S.1 16 t 3) - x2) + 1) from by rw [row1, row1]; rfl]
          exact ⟨⟨q1, Or.inr (Or.inr (Or.inl z))⟩, q3, fun _ => by rw [updS, q4 (Or.inr z)]; rfl, q5, q6⟩)
        have e1 : f_X9_use S x1 x2 = f_X9_done (uI (uI (uI S 0 0 8 ((S.1 0 0 8) + 1)) 16 t 3 ((S.1 16 t 3) - x2)) 16 t 3 (((S.1 16 t 3) - x2) + 1)) ((x2 + (S.1 16 t 0)) + 1) := by unfold f_X9_use; simp only [if_pos h1, hr]; rw [show f_work (uI S 0 0 8 ((S.1 0 0 8) + 1)) t x2 = f_X1_work (uI S 0 0 8 ((S.1 0 0 8) + 1)) t x2 from by unfold f_work; rw [if_neg (by rw [(show (uI S 0 0 8 ((S.1 0 0 8) + 1)).1 16 t 4 = 2 from z)]; decide), if_neg (by rw [(show (uI S 0 0 8 ((S.1 0 0 8) + 1)).1 16 t 4 = 2 from z)]; decide), if_pos (show (uI S 0 0 8 ((S.1 0 0 8) + 1)).1 16 t 4 = 2 from z)]]; rfl
        rw [e1]
        have e2 : f_X10_use (f_X9_done (uI (uI (uI S 0 0 8 ((S.1 0 0 8) + 1)) 16 t 3 ((S.1 16 t 3) - x2)) 16 t 3 (((S.1 16 t 3) - x2) + 1)) ((x2 + (S.1 16 t 0)) + 1)).2 x1 x2 = (((x2 + (S.1 18 3 t)) + 1), uI (uI (uI (f_X9_done (uI (uI (uI S 0 0 8 ((S.1 0 0 8) + 1)) 16 t 3 ((S.1 16 t 3) - x2)) 16 t 3 (((S.1 16 t 3) - x2) + 1)) ((x2 + (S.1 16 t 0)) + 1)).2 17 0 17 0) 17 0 20 ((S.1 17 0 20) + 1)) 18 4 t (((S.1 18 4 t) - x2) + 1)) := by
          unfold f_X10_use
          rw [wj9, if_pos h1, if_neg (show ¬ (f_X9_done (uI (uI (uI S 0 0 8 ((S.1 0 0 8) + 1)) 16 t 3 ((S.1 16 t 3) - x2)) 16 t 3 (((S.1 16 t 3) - x2) + 1)) ((x2 + (S.1 16 t 0)) + 1)).2.1 18 0 x1.toNatClampNeg = -1 from fun q => hne (e3.symm.trans q))]
          rw [show (f_X9_done (uI (uI (uI S 0 0 8 ((S.1 0 0 8) + 1)) 16 t 3 ((S.1 16 t 3) - x2)) 16 t 3 (((S.1 16 t 3) - x2) + 1)) ((x2 + (S.1 16 t 0)) + 1)).2.1 18 0 x1.toNatClampNeg = nI t from e3]
          unfold f_X10_used
          rw [hc, if_neg (by rw [(show (uI (f_X9_done (uI (uI (uI S 0 0 8 ((S.1 0 0 8) + 1)) 16 t 3 ((S.1 16 t 3) - x2)) 16 t 3 (((S.1 16 t 3) - x2) + 1)) ((x2 + (S.1 16 t 0)) + 1)).2 17 0 17 0).1 18 2 t = 2 from z2)]; decide), if_neg (by rw [(show (uI (f_X9_done (uI (uI (uI S 0 0 8 ((S.1 0 0 8) + 1)) 16 t 3 ((S.1 16 t 3) - x2)) 16 t 3 (((S.1 16 t 3) - x2) + 1)) ((x2 + (S.1 16 t 0)) + 1)).2 17 0 17 0).1 18 2 t = 2 from z2)]; decide), if_pos (show (uI (f_X9_done (uI (uI (uI S 0 0 8 ((S.1 0 0 8) + 1)) 16 t 3 ((S.1 16 t 3) - x2)) 16 t 3 (((S.1 16 t 3) - x2) + 1)) ((x2 + (S.1 16 t 0)) + 1)).2 17 0 17 0).1 18 2 t = 2 from z2)]
          rfl
        rw [e2]
        exact ⟨by show _ = (x2 + S.1 18 3 t) + 1; rw [q3]; rfl, misc_use hM, hN, hH, hW, hT2, hY, hK, hKB, hG, hGB, hL⟩
      · have z2 : S.1 18 2 t = 3 := q1.trans z
        have hT2 : Tool n (S.1 18 2) ((upd (S.1 18 3) t ((S.1 18 3 t) + 1))) (S.1 18 4) (S.1 18 5) (S.1 18 6) ((uI (uI S 0 0 8 ((S.1 0 0 8) + 1)) 16 t 0 ((S.1 16 t 0) + 1)).1 16) := tool_set hT t (fun k hk => ⟨rfl, updN _ _ _ hk, rfl, rfl, rfl, rowN _ _ _ _ _ hk⟩) (by
          rw [show (uI (uI S 0 0 8 ((S.1 0 0 8) + 1)) 16 t 0 ((S.1 16 t 0) + 1)).1 16 t = upd (S.1 16 t) 0 ((S.1 16 t 0) + 1) from by rw [row1]; rfl]
          exact ⟨⟨q1, Or.inr (Or.inr (Or.inr z))⟩, by rw [updS, q3]; rfl, fun q => absurd q (fun q => by rcases q with q | q <;> exact absurd (z.symm.trans q) (by decide)), q5, q6⟩)
        have e1 : f_X9_use S x1 x2 = f_X9_done (uI (uI S 0 0 8 ((S.1 0 0 8) + 1)) 16 t 0 ((S.1 16 t 0) + 1)) (S.1 16 t 0) := by unfold f_X9_use; simp only [if_pos h1, hr]; rw [show f_work (uI S 0 0 8 ((S.1 0 0 8) + 1)) t x2 = f_X2_work (uI S 0 0 8 ((S.1 0 0 8) + 1)) t x2 from by unfold f_work; rw [if_neg (by rw [(show (uI S 0 0 8 ((S.1 0 0 8) + 1)).1 16 t 4 = 3 from z)]; decide), if_neg (by rw [(show (uI S 0 0 8 ((S.1 0 0 8) + 1)).1 16 t 4 = 3 from z)]; decide), if_neg (by rw [(show (uI S 0 0 8 ((S.1 0 0 8) + 1)).1 16 t 4 = 3 from z)]; decide)]]; rfl
        rw [e1]
        have e2 : f_X10_use (f_X9_done (uI (uI S 0 0 8 ((S.1 0 0 8) + 1)) 16 t 0 ((S.1 16 t 0) + 1)) (S.1 16 t 0)).2 x1 x2 = ((S.1 18 3 t), uI (uI (uI (f_X9_done (uI (uI S 0 0 8 ((S.1 0 0 8) + 1)) 16 t 0 ((S.1 16 t 0) + 1)) (S.1 16 t 0)).2 17 0 17 0) 17 0 20 ((S.1 17 0 20) + 1)) 18 3 t ((S.1 18 3 t) + 1)) := by
          unfold f_X10_use
          rw [wj9, if_pos h1, if_neg (show ¬ (f_X9_done (uI (uI S 0 0 8 ((S.1 0 0 8) + 1)) 16 t 0 ((S.1 16 t 0) + 1)) (S.1 16 t 0)).2.1 18 0 x1.toNatClampNeg = -1 from fun q => hne (e3.symm.trans q))]
          rw [show (f_X9_done (uI (uI S 0 0 8 ((S.1 0 0 8) + 1)) 16 t 0 ((S.1 16 t 0) + 1)) (S.1 16 t 0)).2.1 18 0 x1.toNatClampNeg = nI t from e3]
          unfold f_X10_used
          rw [hc, if_neg (by rw [(show (uI (f_X9_done (uI (uI S 0 0 8 ((S.1 0 0 8) + 1)) 16 t 0 ((S.1 16 t 0) + 1)) (S.1 16 t 0)).2 17 0 17 0).1 18 2 t = 3 from z2)]; decide), if_neg (by rw [(show (uI (f_X9_done (uI (uI S 0 0 8 ((S.1 0 0 8) + 1)) 16 t 0 ((S.1 16 t 0) + 1)) (S.1 16 t 0)).2 17 0 17 0).1 18 2 t = 3 from z2)]; decide), if_neg (by rw [(show (uI (f_X9_done (uI (uI S 0 0 8 ((S.1 0 0 8) + 1)) 16 t 0 ((S.1 16 t 0) + 1)) (S.1 16 t 0)).2 17 0 17 0).1 18 2 t = 3 from z2)]; decide)]
          rfl
        rw [e2]
        exact ⟨q3.symm, misc_use hM, hN, hH, hW, hT2, hY, hK, hKB, hG, hGB, hL⟩
  · have e1 : f_X9_use S x1 x2 = f_X9_refuseWithZero S (-2) := by unfold f_X9_use; rw [if_neg h1]
    rw [e1]
    have e2 : f_X10_use (f_X9_refuseWithZero S (-2)).2 x1 x2 = (0, uI (f_X9_refuseWithZero S (-2)).2 17 0 17 (-2)) := by
      unfold f_X10_use
      rw [wj9, if_neg h1]
    rw [e2]
    exact ⟨rfl, rel_ref0 h _⟩

theorem wf_mono {n : Nat} {R : Nat → Nat → Nat → Option Nat} (h : Wf n R) : Wf (n + 1) R := fun f i j k q => Nat.lt_succ_of_lt (h f i j k q)
theorem kd_of {x : Int32} (h : vp_in x 4) : x = 0 ∨ x = 1 ∨ x = 2 ∨ x = 3 := by
  obtain ⟨j, hj, rfl⟩ := vp_in_of h (by decide)
  rcases (show j = 0 ∨ j = 1 ∨ j = 2 ∨ j = 3 by omega) with rfl | rfl | rfl | rfl
  · exact Or.inl rfl
  · exact Or.inr (Or.inl rfl)
  · exact Or.inr (Or.inr (Or.inl rfl))
  · exact Or.inr (Or.inr (Or.inr rfl))
theorem tool_new {n : Nat} {k2 k3 k4 k5 k6 : Nat → Int32} {t t' : Nat → Nat → Int32} (h : Tool n k2 k3 k4 k5 k6 t) {x : Int32} (hx : vp_in x 4) (hn : t' n = rT x) (hne : ∀ k, k ≠ n → t' k = t k) : Tool (n + 1) (upd k2 n x) (upd k3 n 0) (upd k4 n 100) (upd k5 n 0) k6 t' := by
  intro k hk
  by_cases e : k = n
  · subst e
    rw [hn, updS, updS, updS, updS]
    exact ⟨⟨rfl, kd_of hx⟩, rfl, fun q => (if_pos q).symm, rfl, fun q => absurd rfl q⟩
  · rw [hne k e, updN _ _ _ e, updN _ _ _ e, updN _ _ _ e, updN _ _ _ e]
    exact h k (by omega)

theorem misc_tool {a b c d : Nat → Int32} (h : Misc a b c d) {v : Int32} : Misc (upd (upd a 1 v) 17 0) b (upd c 9 0) d := by
  obtain ⟨h1, h2, h3, h4⟩ := h
  exact ⟨by simp [upd], by simpa [upd] using h2, by simpa [upd] using h3, h4⟩

set_option maxRecDepth 100000 in
theorem sm_tool {n : Nat} {S : SS} (hn : n < 600) (h : Rel n S) (x1 x2 : Int32) (h1 : wi x1 10 = true) (h2 : wi x2 4 = true) : (f_tool S n x1 x2).1 = (f_X10_tool (f_tool S n x1 x2).2 x1 x2).1 ∧ Rel (n + 1) (f_X10_tool (f_tool S n x1 x2).2 x1 x2).2 := by
  obtain ⟨hM, hN, hH, hW, hT, hY, hK, hKB, hG, hGB, hL⟩ := id h
  have hj := vp_lt (wi_in h1 (N := 10) (by decide) (by decide))
  have hv2 := wi_in h2 (N := 4) (by decide) (by decide)
  have hc : (nI n).toNatClampNeg = n := nI_clamp (by omega)
  have hT2 : Tool (n + 1) (upd (S.1 18 2) n x2) (upd (S.1 18 3) n 0) (upd (S.1 18 4) n 100) (upd (S.1 18 5) n 0) (S.1 18 6) ((uR (wI S 16 n (rT x2)) 1 0 x1.toNatClampNeg (some n)).1 16) := tool_new hT hv2 (wI_eq S 16 n _) (fun k hk => wI_ne S 16 n _ (fun q => hk q.2))
  have hW2 : Wf (n + 1) (uR (wI S 16 n (rT x2)) 1 0 x1.toNatClampNeg (some n)).2 := wf_uR (S := wI S 16 n (rT x2)) (wf_mono hW) (fun k q => by cases q; omega)
  cases hr : S.2 1 0 x1.toNatClampNeg with
  | none =>
    have e3 := hk_none hH hj hr
    have e1 : f_tool S n x1 x2 = f_X9_done (uR (wI S 16 n (rT x2)) 1 0 x1.toNatClampNeg (some n)) 0 := by unfold f_tool; simp only [hr]; rfl
    rw [e1]
    have e2 : f_X10_tool (f_X9_done (uR (wI S 16 n (rT x2)) 1 0 x1.toNatClampNeg (some n)) 0).2 x1 x2 = f_X10_says (uI (uI (uI (uI (uI (uI (f_X9_done (uR (wI S 16 n (rT x2)) 1 0 x1.toNatClampNeg (some n)) 0).2 18 2 n x2) 18 3 n 0) 18 4 n 100) 18 5 n 0) 18 0 x1.toNatClampNeg (nI n)) 17 0 1 (nI n + 1)) 0 := by
      unfold f_X10_tool
      rw [wj9, wj3, if_pos h1, if_pos h2, if_pos (show (f_X9_done (uR (wI S 16 n (rT x2)) 1 0 x1.toNatClampNeg (some n)) 0).2.1 18 0 x1.toNatClampNeg = -1 from e3), show (f_X9_done (uR (wI S 16 n (rT x2)) 1 0 x1.toNatClampNeg (some n)) 0).2.1 17 0 1 = nI n from hN, hc]
    rw [e2]
    exact ⟨rfl, misc_tool hM, nI_1 n, hook_set hH _ rfl, hW2, hT2, hY, hK, hKB, hG, hGB, hL⟩
  | some t =>
    have e3 := hk_some hH hj hr
    have ht := hW _ _ _ _ hr
    have e1 : f_tool S n x1 x2 = f_X9_done (uR (wI S 16 n (rT x2)) 1 0 x1.toNatClampNeg (some n)) 1 := by unfold f_tool; simp only [hr]; rfl
    rw [e1]
    have e2 : f_X10_tool (f_X9_done (uR (wI S 16 n (rT x2)) 1 0 x1.toNatClampNeg (some n)) 1).2 x1 x2 = f_X10_says (uI (uI (uI (uI (uI (uI (f_X9_done (uR (wI S 16 n (rT x2)) 1 0 x1.toNatClampNeg (some n)) 1).2 18 2 n x2) 18 3 n 0) 18 4 n 100) 18 5 n 0) 18 0 x1.toNatClampNeg (nI n)) 17 0 1 (nI n + 1)) 1 := by
      unfold f_X10_tool
      rw [wj9, wj3, if_pos h1, if_pos h2, if_neg (show ¬ (f_X9_done (uR (wI S 16 n (rT x2)) 1 0 x1.toNatClampNeg (some n)) 1).2.1 18 0 x1.toNatClampNeg = -1 from fun q => nI_nm1 (k := t) (by omega) (e3.symm.trans q)), show (f_X9_done (uR (wI S 16 n (rT x2)) 1 0 x1.toNatClampNeg (some n)) 1).2.1 17 0 1 = nI n from hN, hc]
    rw [e2]
    exact ⟨rfl, misc_tool hM, nI_1 n, hook_set hH _ rfl, hW2, hT2, hY, hK, hKB, hG, hGB, hL⟩

theorem sm_tool_a {n : Nat} {S : SS} (h : Rel n S) (x1 x2 : Int32) (h1 : ¬ wi x1 10 = true) : (f_X9_refuse S (-2)).1 = (f_X10_tool (f_X9_refuse S (-2)).2 x1 x2).1 ∧ Rel n (f_X10_tool (f_X9_refuse S (-2)).2 x1 x2).2 := by
  have e2 : f_X10_tool (f_X9_refuse S (-2)).2 x1 x2 = f_X10_refuses (f_X9_refuse S (-2)).2 (-2) := by unfold f_X10_tool; rw [wj9, if_neg h1]
  rw [e2]
  exact ⟨rfl, rel_ref h _⟩
theorem sm_tool_b {n : Nat} {S : SS} (h : Rel n S) (x1 x2 : Int32) (h1 : wi x1 10 = true) (h2 : ¬ wi x2 4 = true) : (f_X9_refuse S (-3)).1 = (f_X10_tool (f_X9_refuse S (-3)).2 x1 x2).1 ∧ Rel n (f_X10_tool (f_X9_refuse S (-3)).2 x1 x2).2 := by
  have e2 : f_X10_tool (f_X9_refuse S (-3)).2 x1 x2 = f_X10_refuses (f_X9_refuse S (-3)).2 (-3) := by unfold f_X10_tool; rw [wj9, wj3, if_pos h1, if_neg h2]
  rw [e2]
  exact ⟨rfl, rel_ref h _⟩
