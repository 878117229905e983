/-! the class and the reference side by side -/
def oI (o : Option Nat) : Int32 := match o with
  | none => -1
  | some k => nI k
def szOK (z : Int32) (N : Nat) : Prop := z = -1 ∨ ∃ k, k ≤ N ∧ z = nI k
def Misc (a b c d : Nat → Int32) : Prop := a 17 = c 9 ∧ a 18 = c 7 ∧ a 20 = c 8 ∧ ∀ j, j < 7 → b j = d j
def Hook (a : Nat → Int32) (r : Nat → Option Nat) : Prop := ∀ j, j < 10 → a j = oI (r j)
def Wf (n : Nat) (R : Nat → Nat → Nat → Option Nat) : Prop := ∀ f i j k, R f i j = some k → k < n
def Tl (k2 k3 k4 k5 k6 : Int32) (t : Nat → Int32) : Prop := (k2 = t 4 ∧ (t 4 = 0 ∨ t 4 = 1 ∨ t 4 = 2 ∨ t 4 = 3)) ∧ k3 = t 0 ∧ ((t 4 = 1 ∨ t 4 = 2) → k4 = t 3) ∧ k5 = t 1 ∧ (¬ t 1 = 0 → k6 = t 2)
def Tool (n : Nat) (k2 k3 k4 k5 k6 : Nat → Int32) (t : Nat → Nat → Int32) : Prop := ∀ k, k < n → Tl (k2 k) (k3 k) (k4 k) (k5 k) (k6 k) (t k)
def Tray (s7 s8 z : Nat → Int32) (it : Nat → Nat → Int32) : Prop := ∀ t, t < 4 → s7 t = z t ∧ szOK (z t) 20 ∧ ∀ i, i < 20 → nI i < z t → s8 (20 * t + i) = it t i
def Rack (s9 s10 s11 z so : Nat → Int32) (pl : Nat → Nat → Option Nat) : Prop := ∀ t, t < 4 → s9 t = z t ∧ szOK (z t) 10 ∧ s10 t = so t ∧ ∀ i, i < 10 → nI i < z t → s11 (10 * t + i) = oI (pl t i)
def RackB (n : Nat) (s11 : Nat → Int32) : Prop := ∀ j, j < 40 → s11 j = -1 ∨ ∃ k, k < 600 ∧ s11 j = nI k
def Gr1 (s13 : Int32) (s14 : Nat → Int32) (rz : Int32) (ce : Nat → Int32) (b : Nat) : Prop := s13 = rz ∧ szOK rz 8 ∧ ∀ j, j < 8 → nI j < rz → s14 (b + j) = ce j
def Grid (s12 s13 s14 z rz : Nat → Int32) (ce : Nat → Nat → Int32) : Prop := ∀ g, g < 2 → s12 g = z g ∧ szOK (z g) 8 ∧ ∀ i, i < 8 → nI i < z g → Gr1 (s13 (8 * g + i)) s14 (rz (8 * g + i)) (ce (8 * g + i)) (64 * g + 8 * i)
def GridB (s13 rz : Nat → Int32) : Prop := ∀ x, x < 16 → s13 x ≤ 8 ∧ rz x ≤ 8
def Alm (s15 s16 a b : Nat → Int32) : Prop := ∀ k, k < 4 → s15 k = a k ∧ s16 k = b k
def Rest (n : Nat) (S : SS) : Prop := S.1 17 0 1 = nI n ∧ Hook (S.1 18 0) (S.2 1 0) ∧ Wf n S.2 ∧ Tool n (S.1 18 2) (S.1 18 3) (S.1 18 4) (S.1 18 5) (S.1 18 6) (S.1 16) ∧ Tray (S.1 18 7) (S.1 18 8) (fun t => S.1 8 t 0) (S.1 9) ∧ Rack (S.1 18 9) (S.1 18 10) (S.1 18 11) (fun t => S.1 10 t 0) (fun t => S.1 10 t 2) (S.2 11) ∧ RackB n (S.1 18 11) ∧ Grid (S.1 18 12) (S.1 18 13) (S.1 18 14) (fun t => S.1 12 t 0) (fun t => S.1 14 t 0) (S.1 15) ∧ GridB (S.1 18 13) (fun t => S.1 14 t 0) ∧ Alm (S.1 18 15) (S.1 18 16) (S.1 5 0) (S.1 6 0)
def MiscS (S : SS) : Prop := Misc (S.1 17 0) (S.1 18 19) (S.1 0 0) (S.1 7 0)
def Rel (n : Nat) (S : SS) : Prop := MiscS S ∧ Rest n S
theorem sz_le {z : Int32} {N : Nat} (h : szOK z N) (hN : N < 2 ^ 31) : z ≤ nI N := by
  rcases h with rfl | ⟨k, hk, rfl⟩
  · have : (-1 : Int32) ≤ 0 := by decide
    exact Int32.le_trans this (nI_pos' hN)
  · exact nI_le hk hN
theorem nI_nm1 {k : Nat} (h : k < 2 ^ 31) : ¬ nI k = -1 := fun q => by
  have := nI_pos' h
  rw [q] at this
  exact absurd this (by decide)
theorem oI_in {o : Option Nat} {n : Nat} (h : ∀ k, o = some k → k < n) (hn : n ≤ 600) : oI o = -1 ∨ vp_in (oI o) 600 := by
  cases o with
  | none => exact Or.inl rfl
  | some k => exact Or.inr (vp_in_nI (by have := h k rfl; omega) (by decide))
theorem rel_okC {n : Nat} {S : SS} (h : Rest n S) : okC n S := by
  obtain ⟨hN, hH, hW, hT, hY, hK, hKB, hG, hGB, hL⟩ := h
  exact ⟨hW, fun t ht => sz_le (hY t ht).2.1 (by decide), fun t ht => sz_le (hK t ht).2.1 (by decide), fun t ht => sz_le (hG t ht).2.1 (by decide), fun t ht => (hGB t ht).2⟩
theorem rel_okM {n : Nat} {S : SS} (h : Rest n S) (hn : n < 600) : okM S := by
  obtain ⟨hN, hH, hW, hT, hY, hK, hKB, hG, hGB, hL⟩ := h
  refine ⟨fun j hj => ?_, fun j hj => ?_, ?_, fun t ht => ?_, fun t ht => ?_, fun t ht => ?_, fun t ht => (hGB t ht).1⟩
  · rw [hH j hj]; exact oI_in (fun k q => hW _ _ _ _ q) (by omega)
  · rcases hKB j hj with q | ⟨k, hk, q⟩
    · exact Or.inl q
    · exact Or.inr (by rw [q]; exact vp_in_nI hk (by decide))
  · rw [hN]; exact vp_in_nI hn (by decide)
  · rw [(hY t ht).1]; exact sz_le (hY t ht).2.1 (by decide)
  · rw [(hK t ht).1]; exact sz_le (hK t ht).2.1 (by decide)
  · rw [(hG t ht).1]; exact sz_le (hG t ht).2.1 (by decide)
/-- the reference's cells are the same -/
def Kp (S S' : SS) : Prop := S'.1 17 = S.1 17 ∧ S'.1 18 = S.1 18
theorem Kp.rf (S : SS) : Kp S S := ⟨rfl, rfl⟩
theorem Kp.tr {S S' S'' : SS} (h : Kp S S') (h' : Kp S' S'') : Kp S S'' := ⟨h'.1.trans h.1, h'.2.trans h.2⟩
theorem Kp.wI {S : SS} {f i : Nat} {r : Nat → Int32} (h : f ≠ 17 ∧ f ≠ 18) : Kp S (wI S f i r) := by
  refine ⟨?_, ?_⟩
  · funext j; exact wI_ne S f i r (fun q => h.1 q.1.symm)
  · funext j; exact wI_ne S f i r (fun q => h.2 q.1.symm)
theorem Kp.uI {S : SS} {f i k : Nat} {v : Int32} (h : f ≠ 17 ∧ f ≠ 18) : Kp S (uI S f i k v) := Kp.wI h
theorem Kp.uR {S : SS} {f i k : Nat} {v : Option Nat} : Kp S (uR S f i k v) := ⟨rfl, rfl⟩
theorem Kp.toM {S S' : SS} (h : Kp S S') (ok : okM S) : okM S' := by
  unfold okM at ok ⊢
  rw [h.1, h.2]
  exact ok
theorem kp_done (S : SS) (v : Int32) : Kp S (f_X9_done S v).2 := Kp.uI (by decide)
theorem kp_refuse (S : SS) (v : Int32) : Kp S (f_X9_refuse S v).2 := Kp.uI (by decide)
theorem kp_fail (S : SS) (v : Int32) : Kp S (f_X9_fail S v).2 := (Kp.uI (by decide)).tr ((Kp.uI (by decide)).tr (Kp.uI (by decide)))
theorem kp_refuse0 (S : SS) (v : Int32) : Kp S (f_X9_refuseWithZero S v).2 := kp_refuse S v
theorem kp_fail0 (S : SS) (v : Int32) : Kp S (f_X9_failWithZero S v).2 := kp_fail S v
theorem kp_work (S : SS) (t : Nat) (x : Int32) : Kp S (f_work S t x).2 := by
  unfold f_work
  split
  · exact Kp.uI (by decide)
  · split
    · exact Kp.uI (by decide)
    · split
      · exact (Kp.uI (by decide)).tr (Kp.uI (by decide))
      · exact Kp.uI (by decide)
theorem kp_vanish (S : SS) (f i : Nat) (h : f ≠ 17 ∧ f ≠ 18) : Kp S (f_X5_vanish S f i).2 := by
  unfold f_X5_vanish
  split
  · exact Kp.uI h
  · exact Kp.uI h
theorem kp_row8 (S : SS) (t : Nat) (a : Int32) : Kp S (f_row8 S t a) := (Kp.wI (by decide)).tr (Kp.uI (by decide))
theorem kp_row14 (S : SS) (t : Nat) (a : Int32) : Kp S (f_row14 S t a) := (Kp.wI (by decide)).tr (Kp.uI (by decide))
theorem kp_rack (S : SS) (t : Nat) (so a : Int32) : Kp S (f_rack S t so a) := Kp.tr (S' := zR S 11 t 10) ⟨rfl, rfl⟩ ((Kp.uI (by decide)).tr (Kp.uI (by decide)))
theorem kp_gz (S : SS) (g : Nat) (a : Int32) : ∀ i, Kp S (gz S g a i)
  | 0 => Kp.rf S
  | i + 1 => (kp_gz S g a i).tr (kp_row14 _ _ _)
theorem kp_grid (S : SS) (t : Nat) (x a : Int32) : Kp S (f_grid S t x a) := (kp_gz S t a _).tr (Kp.uI (by decide))
theorem kp_sO (S : SS) (t : Nat) (a b c : Int32) : Kp S (f_X9_shiftOnce S t a b c).2 := by
  unfold f_X9_shiftOnce
  split
  · split
    · exact Kp.rf S
    · split
      · exact (Kp.uI (by decide)).tr ((kp_work _ _ _).tr (Kp.uI (by decide)))
      · exact (Kp.uI (by decide)).tr (kp_work _ _ _)
  · exact Kp.rf S
theorem kp_shL (h f : Int32) (t : Nat) (a : Int32) : ∀ (r i : Nat) (S : SS), Kp S (shL h f t a r i S).2
  | 0, _, S => kp_done S a
  | r + 1, i, S => by
    unfold shL
    split
    · exact (kp_sO _ _ _ _ _).tr (kp_shL h f t a r (i + 1) _)
    · exact (kp_sO _ _ _ _ _).tr (kp_fail _ _)
