/-- the class's cells of C, the reference's of M -/
def Rel2 (n : Nat) (C M : SS) : Prop := Misc (M.1 17 0) (M.1 18 19) (C.1 0 0) (C.1 7 0) ∧ M.1 17 0 1 = nI n ∧ Hook (M.1 18 0) (C.2 1 0) ∧ Wf n C.2 ∧ Tool n (M.1 18 2) (M.1 18 3) (M.1 18 4) (M.1 18 5) (M.1 18 6) (C.1 16) ∧ Tray (M.1 18 7) (M.1 18 8) (fun t => C.1 8 t 0) (C.1 9) ∧ Rack (M.1 18 9) (M.1 18 10) (M.1 18 11) (fun t => C.1 10 t 0) (fun t => C.1 10 t 2) (C.2 11) ∧ RackB n (M.1 18 11) ∧ Grid (M.1 18 12) (M.1 18 13) (M.1 18 14) (fun t => C.1 12 t 0) (fun t => C.1 14 t 0) (C.1 15) ∧ GridB (M.1 18 13) (fun t => C.1 14 t 0) ∧ Alm (M.1 18 15) (M.1 18 16) (C.1 5 0) (C.1 6 0)
theorem misc_use2 {a b c d : Nat → Int32} (h : Misc a b c d) : Misc (upd a 20 (a 20 + 1)) b (upd c 8 (c 8 + 1)) d := by
  obtain ⟨h1, h2, h3, h4⟩ := h
  exact ⟨by simpa [upd] using h1, by simpa [upd] using h2, by simp [upd, h3], h4⟩

set_option maxRecDepth 100000 in
theorem wu {n : Nat} {C M : SS} (hn : n < 600) (h : Rel2 n C M) {t : Nat} (ht : t < n) (x : Int32) : (f_work (uI C 0 0 8 ((C.1 0 0 8) + 1)) t x).1 = (f_X10_used M (nI t) x).1 ∧ Rel2 n (f_work (uI C 0 0 8 ((C.1 0 0 8) + 1)) t x).2 (f_X10_used M (nI t) x).2 := by
  obtain ⟨hM, hN, hH, hW, hT, hY, hK, hKB, hG, hGB, hL⟩ := id h
  have hc : (nI t).toNatClampNeg = t := nI_clamp (by omega)
  obtain ⟨⟨q1, q2⟩, q3, q4, q5, q6⟩ := hT t ht
  rcases q2 with z | z | z | z
  · have z2 : M.1 18 2 t = 0 := q1.trans z
    have hT2 : Tool n (M.1 18 2) (upd (M.1 18 3) t ((M.1 18 3 t) + x)) (M.1 18 4) (M.1 18 5) (M.1 18 6) ((uI (uI C 0 0 8 ((C.1 0 0 8) + 1)) 16 t 0 ((C.1 16 t 0) + x)).1 16) := tool_set hT t (fun k hk => ⟨rfl, updN _ _ _ hk, rfl, rfl, rfl, rowN _ _ _ _ _ hk⟩) (by
      rw [show (uI (uI C 0 0 8 ((C.1 0 0 8) + 1)) 16 t 0 ((C.1 16 t 0) + x)).1 16 t = upd (C.1 16 t) 0 ((C.1 16 t 0) + x) from by rw [row1]; rfl]
      exact ⟨⟨q1, Or.inl z⟩, by rw [updS, q3]; rfl, fun q => absurd q (fun q => by rcases q with q | q <;> exact absurd (z.symm.trans q) (by decide)), q5, q6⟩)
    have e1 : f_work (uI C 0 0 8 ((C.1 0 0 8) + 1)) t x = f_X4_work (uI C 0 0 8 ((C.1 0 0 8) + 1)) t x := by unfold f_work; rw [if_pos (show (uI C 0 0 8 ((C.1 0 0 8) + 1)).1 16 t 4 = 0 from z)]
    have e2 : f_X10_used M (nI t) x = ((x + x), uI (uI M 17 0 20 ((M.1 17 0 20) + 1)) 18 3 t ((M.1 18 3 t) + x)) := by unfold f_X10_used; rw [hc, if_pos (show M.1 18 2 t = 0 from z2)]
    rw [e1, e2]
    exact ⟨two_mul x, misc_use2 hM, hN, hH, hW, hT2, hY, hK, hKB, hG, hGB, hL⟩
  · have z2 : M.1 18 2 t = 1 := q1.trans z
    have hT2 : Tool n (M.1 18 2) (M.1 18 3) (upd (M.1 18 4) t ((M.1 18 4 t) - x)) (M.1 18 5) (M.1 18 6) ((uI (uI C 0 0 8 ((C.1 0 0 8) + 1)) 16 t 3 ((C.1 16 t 3) - x)).1 16) := tool_set hT t (fun k hk => ⟨rfl, rfl, updN _ _ _ hk, rfl, rfl, rowN _ _ _ _ _ hk⟩) (by
      rw [show (uI (uI C 0 0 8 ((C.1 0 0 8) + 1)) 16 t 3 ((C.1 16 t 3) - x)).1 16 t = upd (C.1 16 t) 3 ((C.1 16 t 3) - x) from by rw [row1]; rfl]
      exact ⟨⟨q1, Or.inr (Or.inl z)⟩, q3, fun _ => by rw [updS, q4 (Or.inl z)]; rfl, q5, q6⟩)
    have e1 : f_work (uI C 0 0 8 ((C.1 0 0 8) + 1)) t x = f_X0_work (uI C 0 0 8 ((C.1 0 0 8) + 1)) t x := by unfold f_work; rw [if_neg (by rw [(show (uI C 0 0 8 ((C.1 0 0 8) + 1)).1 16 t 4 = 1 from z)]; decide), if_pos (show (uI C 0 0 8 ((C.1 0 0 8) + 1)).1 16 t 4 = 1 from z)]
    have e2 : f_X10_used M (nI t) x = ((x + (M.1 18 3 t)), uI (uI M 17 0 20 ((M.1 17 0 20) + 1)) 18 4 t ((M.1 18 4 t) - x)) := by unfold f_X10_used; rw [hc, if_neg (by rw [(show M.1 18 2 t = 1 from z2)]; decide), if_pos (show M.1 18 2 t = 1 from z2)]
    rw [e1, e2]
    exact ⟨by show x + C.1 16 t 0 = x + M.1 18 3 t; rw [q3], misc_use2 hM, hN, hH, hW, hT2, hY, hK, hKB, hG, hGB, hL⟩
  · have z2 : M.1 18 2 t = 2 := q1.trans z
    have hT2 : Tool n (M.1 18 2) (M.1 18 3) (upd (M.1 18 4) t (((M.1 18 4 t) - x) + 1)) (M.1 18 5) (M.1 18 6) ((uI (uI (uI C 0 0 8 ((C.1 0 0 8) + 1)) 16 t 3 ((C.1 16 t 3) - x)) 16 t 3 (((C.1 16 t 3) - x) + 1)).1 16) := tool_set hT t (fun k hk => ⟨rfl, rfl, updN _ _ _ hk, rfl, rfl, Eq.trans (rowN _ _ _ _ _ hk) (rowN _ _ _ _ _ hk)⟩) (by
      rw [show (uI (uI (uI C 0 0 8 ((C.1 0 0 8) + 1)) 16 t 3 ((C.1 16 t 3) - x)) 16 t 3 (((C.1 16 t 3) - x) + 1)).1 16 t = upd (upd (C.1 16 t) 3 ((C.1 16 t 3) - x)) 3 (((C.1 16 t 3) - x) + 1) from by rw [row1, row1]; rfl]
      exact ⟨⟨q1, Or.inr (Or.inr (Or.inl z))⟩, q3, fun _ => by rw [updS, q4 (Or.inr z)]; rfl, q5, q6⟩)
    have e1 : f_work (uI C 0 0 8 ((C.1 0 0 8) + 1)) t x = f_X1_work (uI C 0 0 8 ((C.1 0 0 8) + 1)) t x := by unfold f_work; rw [if_neg (by rw [(show (uI C 0 0 8 ((C.1 0 0 8) + 1)).1 16 t 4 = 2 from z)]; decide), if_neg (by rw [(show (uI C 0 0 8 ((C.1 0 0 8) + 1)).1 16 t 4 = 2 from z)]; decide), if_pos (show (uI C 0 0 8 ((C.1 0 0 8) + 1)).1 16 t 4 = 2 from z)]
    have e2 : f_X10_used M (nI t) x = (((x + (M.1 18 3 t)) + 1), uI (uI M 17 0 20 ((M.1 17 0 20) + 1)) 18 4 t (((M.1 18 4 t) - x) + 1)) := by unfold f_X10_used; rw [hc, if_neg (by rw [(show M.1 18 2 t = 2 from z2)]; decide), if_neg (by rw [(show M.1 18 2 t = 2 from z2)]; decide), if_pos (show M.1 18 2 t = 2 from z2)]
    rw [e1, e2]
    exact ⟨by show x + C.1 16 t 0 + 1 = x + M.1 18 3 t + 1; rw [q3], misc_use2 hM, hN, hH, hW, hT2, hY, hK, hKB, hG, hGB, hL⟩
  · have z2 : M.1 18 2 t = 3 := q1.trans z
    have hT2 : Tool n (M.1 18 2) (upd (M.1 18 3) t ((M.1 18 3 t) + 1)) (M.1 18 4) (M.1 18 5) (M.1 18 6) ((uI (uI C 0 0 8 ((C.1 0 0 8) + 1)) 16 t 0 ((C.1 16 t 0) + 1)).1 16) := tool_set hT t (fun k hk => ⟨rfl, updN _ _ _ hk, rfl, rfl, rfl, rowN _ _ _ _ _ hk⟩) (by
      rw [show (uI (uI C 0 0 8 ((C.1 0 0 8) + 1)) 16 t 0 ((C.1 16 t 0) + 1)).1 16 t = upd (C.1 16 t) 0 ((C.1 16 t 0) + 1) from by rw [row1]; rfl]
      exact ⟨⟨q1, Or.inr (Or.inr (Or.inr z))⟩, by rw [updS, q3]; rfl, fun q => absurd q (fun q => by rcases q with q | q <;> exact absurd (z.symm.trans q) (by decide)), q5, q6⟩)
    have e1 : f_work (uI C 0 0 8 ((C.1 0 0 8) + 1)) t x = f_X2_work (uI C 0 0 8 ((C.1 0 0 8) + 1)) t x := by unfold f_work; rw [if_neg (by rw [(show (uI C 0 0 8 ((C.1 0 0 8) + 1)).1 16 t 4 = 3 from z)]; decide), if_neg (by rw [(show (uI C 0 0 8 ((C.1 0 0 8) + 1)).1 16 t 4 = 3 from z)]; decide), if_neg (by rw [(show (uI C 0 0 8 ((C.1 0 0 8) + 1)).1 16 t 4 = 3 from z)]; decide)]
    have e2 : f_X10_used M (nI t) x = ((M.1 18 3 t), uI (uI M 17 0 20 ((M.1 17 0 20) + 1)) 18 3 t ((M.1 18 3 t) + 1)) := by unfold f_X10_used; rw [hc, if_neg (by rw [(show M.1 18 2 t = 3 from z2)]; decide), if_neg (by rw [(show M.1 18 2 t = 3 from z2)]; decide), if_neg (by rw [(show M.1 18 2 t = 3 from z2)]; decide)]
    rw [e1, e2]
    exact ⟨q3.symm, misc_use2 hM, hN, hH, hW, hT2, hY, hK, hKB, hG, hGB, hL⟩

theorem two_in : vp_in 2 7 := by unfold vp_in; decide
theorem rel2_fail {n : Nat} {C M : SS} (h : Rel2 n C M) (v : Int32) (hv : vp_in v 7) : Rel2 n (f_X9_fail C v).2 (f_X10_fails M v).2 := ⟨misc_fail h.1 v hv, h.2⟩
set_option maxRecDepth 100000 in
theorem sh_sim {n : Nat} (hn : n < 600) {x3 x4 a : Int32} {j t : Nat} (ht : t < 4) (hj : j < 10) (hv4 : vp_in x4 4) (h4 : x4.toNatClampNeg = t) : ∀ (r i : Nat) (C M : SS), i + r ≤ 9 → Rel2 n C M → (shL (nI j) x3 t a r i C).1 = (smL (nI j) x3 x4 a r i M).1 ∧ Rel2 n (shL (nI j) x3 t a r i C).2 (smL (nI j) x3 x4 a r i M).2
  | 0, i, C, M, _, h => ⟨rfl, misc_ref h.1 0, h.2⟩
  | r + 1, i, C, M, hi, h => by
    obtain ⟨hM, hN, hH, hW, hT, hY, hK, hKB, hG, hGB, hL⟩ := id h
    have hy : nI j + nI i = nI (j + i) := nI_add j i
    have hcy : (nI j + nI i).toNatClampNeg = j + i := by rw [hy]; exact nI_clamp (by omega)
    have hci : (nI i).toNatClampNeg = i := nI_clamp (by omega)
    by_cases h9 : j + i < 10
    · have w1 : wi (nI j + nI i) 10 = true := by
        rw [hy]
        unfold wi
        simp only [Bool.and_eq_true, decide_eq_true_eq]
        exact ⟨nI_pos' (by omega), nI_lt (b := 10) h9 (by decide)⟩
      have w2 : (nI j + nI i) ≤ 9 := by rw [hy]; exact nI_le (b := 9) (by omega) (by decide)
      cases hr : C.2 1 0 (j + i) with
      | none =>
        have e1 : f_X9_shiftOnce C t (nI j + nI i) x3 (nI i) = (1, C) := by unfold f_X9_shiftOnce; rw [if_pos w1, hcy]; simp only [hr]
        have e2 : shL (nI j) x3 t a (r + 1) i C = f_X9_fail C 1 := by unfold shL; rw [e1]; exact if_neg (show ¬ (1 : Int32) = 0 by decide)
        have e3 : smL (nI j) x3 x4 a (r + 1) i M = f_X10_fails M 1 := by unfold smL; rw [if_pos w2, hcy, if_pos (hk_none hH h9 hr)]
        rw [e2, e3]
        exact ⟨rfl, rel2_fail h 1 one_in⟩
      | some q =>
        have e4 := hk_some hH h9 hr
        have hq := hW _ _ _ _ hr
        have hne : ¬ M.1 18 0 (j + i) = -1 := by rw [e4]; exact nI_nm1 (by omega)
        obtain ⟨a1, a2⟩ := wu hn h hq x3
        obtain ⟨Wd, hWd⟩ : ∃ w, w = f_work (uI C 0 0 8 ((C.1 0 0 8) + 1)) q x3 := ⟨_, rfl⟩
        obtain ⟨Us, hUs⟩ : ∃ w, w = f_X10_used M (nI q) x3 := ⟨_, rfl⟩
        rw [← hWd, ← hUs] at a1 a2
        obtain ⟨bM, bN, bH, bW, bT, bY, bK, bKB, bG, bGB, bL⟩ := id a2
        obtain ⟨z1, z2, z3⟩ := bY t ht
        have z1 : Us.2.1 18 7 t = Wd.2.1 8 t 0 := z1
        by_cases c1 : Wd.2.1 8 t 0 = -1
        · have p1 : pA Wd.2 8 t (nI i) = 1 := by unfold pA; rw [if_pos c1]
          have e1 : f_X9_shiftOnce C t (nI j + nI i) x3 (nI i) = (1, Wd.2) := by
            unfold f_X9_shiftOnce; rw [if_pos w1, hcy]; simp only [hr]; rw [← hWd, p1]; exact if_neg (by decide)
          have e2 : shL (nI j) x3 t a (r + 1) i C = f_X9_fail Wd.2 1 := by unfold shL; rw [e1]; exact if_neg (show ¬ (1 : Int32) = 0 by decide)
          have e3 : smL (nI j) x3 x4 a (r + 1) i M = f_X10_fails Us.2 1 := by
            unfold smL
            rw [if_pos w2, hcy, if_neg hne, e4, ← hUs, h4, if_neg (show ¬ 0 ≤ Us.2.1 18 7 t by rw [z1, c1]; decide)]
          rw [e2, e3]
          exact ⟨rfl, rel2_fail a2 1 one_in⟩
        · have l0 : 0 ≤ Us.2.1 18 7 t := by rw [z1]; exact le_of_sz z2 c1
          by_cases c2 : wi (nI i) (Wd.2.1 8 t 0) = true
          · have p1 : pA Wd.2 8 t (nI i) = 0 := by unfold pA; rw [if_neg c1, if_pos c2]
            have l1 : nI i < Us.2.1 18 7 t := by
              rw [z1]
              unfold wi at c2
              simp only [Bool.and_eq_true, decide_eq_true_eq] at c2
              exact c2.2
            have e1 : f_X9_shiftOnce C t (nI j + nI i) x3 (nI i) = (0, uI Wd.2 9 t i Wd.1) := by
              unfold f_X9_shiftOnce; rw [if_pos w1, hcy]; simp only [hr]; rw [← hWd, p1, hci]; exact if_pos rfl
            have e2 : shL (nI j) x3 t a (r + 1) i C = shL (nI j) x3 t a r (i + 1) (uI Wd.2 9 t i Wd.1) := by
              conv => lhs; unfold shL
              rw [e1]
              exact if_pos rfl
            have e3 : smL (nI j) x3 x4 a (r + 1) i M = smL (nI j) x3 x4 a r (i + 1) (uI Us.2 18 8 (20 * t + i) Us.1) := by
              conv => lhs; unfold smL
              rw [if_pos w2, hcy, if_neg hne, e4, ← hUs, h4, if_pos l0, if_pos l1, ixn (c := 20) 20 hv4 rfl (by omega) (by decide), h4]
            rw [e2, e3]
            have hY2 : Tray (Us.2.1 18 7) (upd (Us.2.1 18 8) (20 * t + i) Us.1) (fun t => Wd.2.1 8 t 0) ((uI Wd.2 9 t i Wd.1).1 9) := tray_put bY (by omega) (by rw [row1, a1]) (fun k hk => rowN _ _ _ _ _ hk)
            exact sh_sim hn ht hj hv4 h4 r (i + 1) _ _ (by omega) ⟨bM, bN, bH, bW, bT, hY2, bK, bKB, bG, bGB, bL⟩
          · have p1 : pA Wd.2 8 t (nI i) = 2 := by unfold pA; rw [if_neg c1, if_neg c2]
            have l1 : ¬ nI i < Us.2.1 18 7 t := by
              rw [z1]
              intro ql
              apply c2
              unfold wi
              simp only [Bool.and_eq_true, decide_eq_true_eq]
              exact ⟨nI_pos' (by omega), ql⟩
            have e1 : f_X9_shiftOnce C t (nI j + nI i) x3 (nI i) = (2, Wd.2) := by
              unfold f_X9_shiftOnce; rw [if_pos w1, hcy]; simp only [hr]; rw [← hWd, p1]; exact if_neg (by decide)
            have e2 : shL (nI j) x3 t a (r + 1) i C = f_X9_fail Wd.2 2 := by unfold shL; rw [e1]; exact if_neg (show ¬ (2 : Int32) = 0 by decide)
            have e3 : smL (nI j) x3 x4 a (r + 1) i M = f_X10_fails Us.2 2 := by
              unfold smL
              rw [if_pos w2, hcy, if_neg hne, e4, ← hUs, h4, if_pos l0, if_neg l1]
            rw [e2, e3]
            exact ⟨rfl, rel2_fail a2 2 two_in⟩
    · have w1 : ¬ wi (nI j + nI i) 10 = true := by
        rw [hy]
        unfold wi
        simp only [Bool.and_eq_true, decide_eq_true_eq]
        exact fun q => nI_nlt (a := j + i) (b := 10) (by omega) (by omega) q.2
      have w2 : ¬ (nI j + nI i) ≤ 9 := by rw [hy]; exact nI_ge (a := 9) (b := j + i) (by omega) (by omega)
      have e1 : f_X9_shiftOnce C t (nI j + nI i) x3 (nI i) = (2, C) := by unfold f_X9_shiftOnce; rw [if_neg w1]
      have e2 : shL (nI j) x3 t a (r + 1) i C = f_X9_fail C 2 := by unfold shL; rw [e1]; exact if_neg (show ¬ (2 : Int32) = 0 by decide)
      have e3 : smL (nI j) x3 x4 a (r + 1) i M = f_X10_fails M 2 := by unfold smL; rw [if_neg w2]
      rw [e2, e3]
      exact ⟨rfl, rel2_fail h 2 two_in⟩
/-- the class's cells are the same -/
def Kc (S S' : SS) : Prop := (∀ f, f ≠ 17 → f ≠ 18 → S'.1 f = S.1 f) ∧ S'.2 = S.2
theorem Kc.rf (S : SS) : Kc S S := ⟨fun _ _ _ => rfl, rfl⟩
theorem Kc.tr {S S' S'' : SS} (h : Kc S S') (h' : Kc S' S'') : Kc S S'' := ⟨fun f a b => (h'.1 f a b).trans (h.1 f a b), h'.2.trans h.2⟩
theorem Kc.u7 {S : SS} {i k : Nat} {v : Int32} : Kc S (uI S 17 i k v) := ⟨fun f a _ => by funext j; exact wI_ne S 17 i _ (fun q => a q.1), rfl⟩
theorem Kc.u8 {S : SS} {i k : Nat} {v : Int32} : Kc S (uI S 18 i k v) := ⟨fun f _ b => by funext j; exact wI_ne S 18 i _ (fun q => b q.1), rfl⟩
theorem kc_fails (S : SS) (v : Int32) : Kc S (f_X10_fails S v).2 := Kc.u7.tr (Kc.u8.tr Kc.u7)
theorem kc_used (S : SS) (t x : Int32) : Kc S (f_X10_used S t x).2 := by
  unfold f_X10_used
  split
  · exact Kc.u7.tr Kc.u8
  · split
    · exact Kc.u7.tr Kc.u8
    · split
      · exact Kc.u7.tr Kc.u8
      · exact Kc.u7.tr Kc.u8
theorem kc_smL (x1 x3 x4 a : Int32) : ∀ (r i : Nat) (S : SS), Kc S (smL x1 x3 x4 a r i S).2
  | 0, _, S => Kc.u7
  | r + 1, i, S => by
    unfold smL
    split
    · split
      · exact kc_fails _ _
      · split
        · split
          · exact ((kc_used _ _ _).tr Kc.u8).tr (kc_smL x1 x3 x4 a r (i + 1) _)
          · exact (kc_used _ _ _).tr (kc_fails _ _)
        · exact (kc_used _ _ _).tr (kc_fails _ _)
    · exact kc_fails _ _
theorem rel2_kp {n : Nat} {S M : SS} (h : Rel n S) (k : Kp S M) : Rel2 n S M := by
  unfold Rel2
  rw [k.1, k.2]
  exact h
theorem rel_kc {n : Nat} {C M : SS} (h : Rel2 n C M) (k : Kc C M) : Rel n M := by
  have a0 := k.1 0 (by decide) (by decide)
  have a5 := k.1 5 (by decide) (by decide)
  have a6 := k.1 6 (by decide) (by decide)
  have a7 := k.1 7 (by decide) (by decide)
  have a8 := k.1 8 (by decide) (by decide)
  have a9 := k.1 9 (by decide) (by decide)
  have a10 := k.1 10 (by decide) (by decide)
  have a12 := k.1 12 (by decide) (by decide)
  have a14 := k.1 14 (by decide) (by decide)
  have a15 := k.1 15 (by decide) (by decide)
  have a16 := k.1 16 (by decide) (by decide)
  unfold Rel MiscS Rest
  rw [a0, a5, a6, a7, a8, a9, a10, a12, a14, a15, a16, k.2]
  exact h
theorem sm_shift {n : Nat} {S : SS} (hn : n < 600) (h : Rel n S) (x1 x2 x3 x4 : Int32) : (f_X9_shift S x1 x2 x3 x4).1 = (f_X10_shift (f_X9_shift S x1 x2 x3 x4).2 x1 x2 x3 x4).1 ∧ Rel n (f_X10_shift (f_X9_shift S x1 x2 x3 x4).2 x1 x2 x3 x4).2 := by
  by_cases h1 : wi x1 10 = true
  · by_cases h2 : wi x4 4 = true
    · by_cases h3 : wj x2 0 9 = true
      · have hv2 := wj_in (N := 9) h3 (by decide) (by decide)
        have hv2' := vp_in_iff.mp hv2
        have e0 : (0 : Int32).toInt = 0 := by decide
        have e9 : (9 : Int32).toInt = 9 := by decide
        have n0 : ¬ x2 < 0 := fun q => by
          have := Int32.lt_iff_toInt_lt.mp q
          omega
        have n9 : x2 ≤ 9 := Int32.le_iff_toInt_le.mpr (by omega)
        have hv4 := wi_in h2 (N := 4) (by decide) (by decide)
        obtain ⟨j, hj, rfl⟩ := vp_in_of (wi_in h1 (N := 10) (by decide) (by decide)) (by decide)
        have e1 : f_X9_shift S (nI j) x2 x3 x4 = shL (nI j) x3 x4.toNatClampNeg x2 x2.toNatClampNeg 0 S := by unfold f_X9_shift; rw [if_pos h1, if_pos h2, if_neg n0, if_pos n9]
        have e2 : ∀ T, f_X10_shift T (nI j) x2 x3 x4 = smL (nI j) x3 x4 x2 x2.toNatClampNeg 0 T := fun T => by unfold f_X10_shift; rw [wj9, wj3, if_pos h1, if_pos h2, if_pos h3]
        rw [e1, e2]
        obtain ⟨r1, r2⟩ := sh_sim (x3 := x3) (a := x2) hn (vp_lt hv4) hj hv4 rfl x2.toNatClampNeg 0 S _ (by have := vp_lt hv2; omega) (rel2_kp h (kp_shL (nI j) x3 x4.toNatClampNeg x2 x2.toNatClampNeg 0 S))
        exact ⟨r1, rel_kc r2 (kc_smL _ _ _ _ _ _ _)⟩
      · have e1 : f_X9_shift S x1 x2 x3 x4 = f_X9_refuse S (-3) := by
          unfold f_X9_shift
          rw [if_pos h1, if_pos h2]
          by_cases n0 : x2 < 0
          · rw [if_pos n0]
          · rw [if_neg n0]
            by_cases n9 : x2 ≤ 9
            · exfalso
              apply h3
              unfold wj
              simp only [Bool.and_eq_true, decide_eq_true_eq]
              exact ⟨Int32.not_lt.mp n0, n9⟩
            · rw [if_neg n9]
        rw [e1]
        have e2 : f_X10_shift (f_X9_refuse S (-3)).2 x1 x2 x3 x4 = f_X10_refuses (f_X9_refuse S (-3)).2 (-3) := by unfold f_X10_shift; rw [wj9, wj3, if_pos h1, if_pos h2, if_neg h3]
        rw [e2]
        exact ⟨rfl, rel_ref h _⟩
    · have e1 : f_X9_shift S x1 x2 x3 x4 = f_X9_refuse S (-2) := by unfold f_X9_shift; rw [if_pos h1, if_neg h2]
      rw [e1]
      have e2 : f_X10_shift (f_X9_refuse S (-2)).2 x1 x2 x3 x4 = f_X10_refuses (f_X9_refuse S (-2)).2 (-2) := by unfold f_X10_shift; rw [wj9, wj3, if_pos h1, if_neg h2]
      rw [e2]
      exact ⟨rfl, rel_ref h _⟩
  · have e1 : f_X9_shift S x1 x2 x3 x4 = f_X9_refuse S (-2) := by unfold f_X9_shift; rw [if_neg h1]
    rw [e1]
    have e2 : f_X10_shift (f_X9_refuse S (-2)).2 x1 x2 x3 x4 = f_X10_refuses (f_X9_refuse S (-2)).2 (-2) := by unfold f_X10_shift; rw [wj9, if_neg h1]
    rw [e2]
    exact ⟨rfl, rel_ref h _⟩
