theorem okM_8 {S : SS} (ok : okM S) {j k : Nat} {v : Int32} (h : j ≠ 0 ∧ j ≠ 11 ∧ j ≠ 7 ∧ j ≠ 9 ∧ j ≠ 12 ∧ j ≠ 13) : okM (uI S 18 j k v) := by
  obtain ⟨a, b, c, d, e, f, g⟩ := ok
  refine ⟨fun q z => ?_, fun q z => ?_, ?_, fun q z => ?_, fun q z => ?_, fun q z => ?_, fun q z => ?_⟩
  · rw [uI_ni h.1.symm]; exact a q z
  · rw [uI_ni h.2.1.symm]; exact b q z
  · rw [uI_nf (by decide)]; exact c
  · rw [uI_ni h.2.2.1.symm]; exact d q z
  · rw [uI_ni h.2.2.2.1.symm]; exact e q z
  · rw [uI_ni h.2.2.2.2.1.symm]; exact f q z
  · rw [uI_ni h.2.2.2.2.2.symm]; exact g q z
theorem okM_7 {S : SS} (ok : okM S) {k : Nat} {v : Int32} (h : k ≠ 1) : okM (uI S 17 0 k v) := by
  obtain ⟨a, b, c, d, e, f, g⟩ := ok
  refine ⟨fun q z => ?_, fun q z => ?_, ?_, fun q z => ?_, fun q z => ?_, fun q z => ?_, fun q z => ?_⟩
  · rw [uI_nf (by decide)]; exact a q z
  · rw [uI_nf (by decide)]; exact b q z
  · rw [uI_nk h.symm]; exact c
  · rw [uI_nf (by decide)]; exact d q z
  · rw [uI_nf (by decide)]; exact e q z
  · rw [uI_nf (by decide)]; exact f q z
  · rw [uI_nf (by decide)]; exact g q z
theorem okM_fu {S : SS} (ok : okM S) {t x : Int32} : okM (f_X10_used S t x).2 := by
  unfold f_X10_used
  split
  · exact okM_8 (okM_7 ok (by decide)) (by decide)
  · split
    · exact okM_8 (okM_7 ok (by decide)) (by decide)
    · split
      · exact okM_8 (okM_7 ok (by decide)) (by decide)
      · exact okM_8 (okM_7 ok (by decide)) (by decide)
theorem vp_self {x : Int32} {N : Nat} (h : vp_in x N) (hN : N < 2 ^ 31) : x = nI x.toNatClampNeg := by
  obtain ⟨j, hj, rfl⟩ := vp_in_of h hN
  rw [nI_clamp (by omega)]
theorem le_in {x : Int32} {N : Nat} (h1 : 0 ≤ x) (h2 : x ≤ nI N) (hN : N + 1 < 2 ^ 31) : vp_in x (N + 1) := by
  have a := Int32.le_iff_toInt_le.mp h1
  have b := Int32.le_iff_toInt_le.mp h2
  rw [nI_toInt (by omega)] at b
  have e1 : (0 : Int32).toInt = 0 := by decide
  exact vp_in_iff.mpr ⟨by omega, by omega⟩
theorem hk_in {x : Int32} {i : Nat} (h : vp_in x 10) (hi : i < 10) (h9 : (x + nI i) ≤ 9) : vp_in (x + nI i) 10 := by
  obtain ⟨j, hj, rfl⟩ := vp_in_of h (by decide)
  rw [nI_add] at h9 ⊢
  have := (nI_leI (by omega) (by decide)).mp (show nI (j + i) ≤ nI 9 from h9)
  exact vp_in_nI (by omega) (by decide)
def fz (S : SS) (j b : Nat) (v : Int32) : Nat → SS
  | 0 => S
  | i + 1 => uI (fz S j b v i) 18 j (b + i) v
theorem ixn {a : Int32} {A c i : Nat} (C : Int32) (ha : vp_in a A) (hC : C = nI c) (hs : c * A + i < 2 ^ 31) (hA : A < 2 ^ 31) : (C * a + nI i).toNatClampNeg = c * a.toNatClampNeg + i := by
  obtain ⟨j, hj, rfl⟩ := vp_in_of ha hA
  subst hC
  have : c * j ≤ c * A := Nat.mul_le_mul_left c (by omega)
  rw [pk_mul, nI_add, nI_clamp (by omega), nI_clamp (by omega)]
theorem ixn3 {a : Int32} {i j : Nat} (ha : vp_in a 2) (hi : i < 8) (hj : j < 8) : (((64 * a) + (8 * nI i)) + nI j).toNatClampNeg = 64 * a.toNatClampNeg + 8 * i + j := by
  rw [ix3 ha (vp_in_nI hi (by decide)) (vp_in_nI hj (by decide))]
  have := vp_lt ha
  rw [nI_clamp (n := i) (by omega), nI_clamp (n := j) (by omega), nI_clamp (by omega)]

set_option maxHeartbeats 4000000 in
set_option maxRecDepth 100000 in
theorem lp_X10_tray {p : Program} {l : Launch} {e : Env} {R : Room} {s : State} {m : MethodId} {args : Array Value} {below : List Frame} {meth : Method} {c : Code} {Q : State → Prop} {D : va_G} {cy : Nat → ClassId} {sz : Nat} {ad : Nat → Nat → Nat} {n : Nat} {S : SS} {x1 x2 : Int32} (hv : vp_in x1 4) (hv2 : vp_in x2 21) (E : En p s m args meth c cX10_tray 4 (some .int) RX10 D cy sz)
    (kx : ∀ (H : Heap) (locs : List Loc) (ls : Array Slot), Gd D cy sz ad n (fz S 8 (20 * x1.toNatClampNeg) 0 x2.toNatClampNeg) s.heap H locs → lv_has ls 4 [(3, .int (nI x2.toNatClampNeg)), (0, .ref (ad 17 0)), (1, .int x1), (2, .int x2)] → W p l e R s m args below meth c H locs 0 0 Q (F0 m 71 ls [])) : ∀ (k i : Nat), i ≤ x2.toNatClampNeg → x2.toNatClampNeg + 1 ≤ i + k → ∀ (H : Heap) (locs : List Loc) (ls : Array Slot), Gd D cy sz ad n (fz S 8 (20 * x1.toNatClampNeg) 0 i) s.heap H locs → lv_has ls 4 [(3, .int (nI i)), (0, .ref (ad 17 0)), (1, .int x1), (2, .int x2)] → W p l e R s m args below meth c H locs 0 0 Q (F0 m 48 ls []) := by
  obtain ⟨hx, hb, hrt, hml, hown, hw, hlk, hK, hF, hsz⟩ := id E
  intro k
  induction k with
  | zero => intro i g1 g2; exact absurd g2 (by omega)
  | succ k ih =>
    intro i g1 g2 H locs ls G hl
    refine lv_iload_n hx hb dX10_tray_48 rfl (lv_at hl 0 rfl) ?_
    refine lv_iload_n hx hb dX10_tray_49 rfl (lv_at hl 3 rfl) ?_
    refine lv_icmp_ge (tgt := 71) hx hb dX10_tray_50 (by decide) (fun h1 => ?_) (fun h1 => ?_)
    · have e1 : i = x2.toNatClampNeg := ge_eq (N := x2.toNatClampNeg) (by have := vp_lt hv2; omega) g1 (by rw [← vp_self hv2 (by decide)]; exact h1)
      rw [e1] at G hl
      exact kx H locs ls G (lv_sub hl [0, 1, 2, 3] rfl)
    · have hlt : i < x2.toNatClampNeg := lt_of (N := x2.toNatClampNeg) (by have := vp_lt hv2; omega) g1 (by rw [← vp_self hv2 (by decide)]; exact h1)
      refine lv_aload_n hx hb dX10_tray_53 rfl (lv_at hl 1 rfl) ?_
      refine q_get (index := 32) (ref := "ToolRoomModel") E G inX10 17 0 c17 sg_17 rfl 8 (by decide) tb_429 (Or.inl rfl) rfl dX10_tray_54 ?_
      refine lv_bipush (v := 20) hx hb dX10_tray_57 (by decide) ?_
      refine lv_iload_n hx hb dX10_tray_59 rfl (lv_at hl 2 rfl) ?_
      refine lv_imul hx hb dX10_tray_60 ?_
      refine lv_iload_n hx hb dX10_tray_61 rfl (lv_at hl 0 rfl) ?_
      refine lv_iadd hx hb dX10_tray_62 ?_
      refine lv_iconst (v := 0) hx hb dX10_tray_63 (by decide) ?_
      refine q_iast E G 18 8 (c18 8 (by decide)) (fun _ => sa_18_8) (ixv hv (vp_in_nI (show i < 20 by have := vp_lt hv2; omega) (by decide)) 20 rfl (by decide) (by decide) (by decide) (by decide) (by decide)) dX10_tray_64 (fun H locs G => ?_)
      rw [ixn (c := 20) 20 hv rfl (by have := vp_lt hv2; omega) (by decide)] at G
      have G : Gd D cy sz ad n (fz S 8 (20 * x1.toNatClampNeg) 0 (i + 1)) s.heap H locs := G
      refine lv_iinc (v := (nI (i + 1))) (lv' := [(3, .int (nI (i + 1))), (0, .ref (ad 17 0)), (1, .int x1), (2, .int x2)]) hx hb dX10_tray_65 hl (k := 0) rfl (nI_1 i) (by decide) rfl (fun ls hl => ?_)
      refine lv_goto (tgt := 48) hx hb dX10_tray_68 (by decide) ?_
      exact ih (i + 1) (by omega) (by omega) H locs ls G (lv_sub hl [0, 1, 2, 3] rfl)

def f_X10_tray (S : SS) (x1 : Int32) (x2 : Int32) : Int32 × SS := if wj x1 0 3 = true then (if x2 ≤ 20 then (if 0 ≤ x2 then (f_X10_says (fz (uI S 18 7 x1.toNatClampNeg x2) 8 (20 * x1.toNatClampNeg) 0 x2.toNatClampNeg) x2) else (f_X10_fails S 3)) else (f_X10_refuses S (-3))) else (f_X10_refuses S (-2))
set_option maxHeartbeats 4000000 in
set_option maxRecDepth 100000 in
theorem k_X10_tray (l : Launch) (D : va_G) (cy : Nat → ClassId) (sz : Nat) (ad : Nat → Nat → Nat) (n : Nat) (S : SS) (ok : okM S) (x1 : Int32) (x2 : Int32) : CI l yX10_tray cX10_tray 4 (some .int) 1 22 [.ref (ad 17 0), .int x1, .int x2] D cy sz ad n S (f_X10_tray S x1 x2) := by
  refine Met.enter (by decide) (Nat.le_of_ble_eq_true rfl) (fun p e s m args below meth c ls E G hl => ?_)
  have E : En p s m args meth c cX10_tray 4 (some .int) RX10 D cy sz := E
  obtain ⟨hx, hb, hrt, hml, hown, hw, hlk, hK, hF, hsz⟩ := id E
  have hl : lv_has ls 4 [(0, .ref (ad 17 0)), (1, .int x1), (2, .int x2)] := hl
  refine lv_iload_n hx hb dX10_tray_0 rfl (lv_at hl 1 rfl) ?_
  refine lv_iconst (v := 0) hx hb dX10_tray_1 (by decide) ?_
  refine lv_iconst (v := 3) hx hb dX10_tray_2 (by decide) ?_
  by_cases h1 : wj x1 0 3 = true
  · have v2 : vp_in x1 4 := wj_in h1 (by decide) (by decide)
    refine q_cSp E G [] (k_X10_in_t l D cy sz ad n S x1 0 3 h1) tb_489 tb_490 tb_6 tb_491 (nn := 3) (by decide +kernel) ⟨Nat.le_of_ble_eq_true rfl, Nat.le_of_ble_eq_true rfl⟩ rfl hl.1 rfl (Nat.le_of_ble_eq_true rfl) dX10_tray_3 ⟨Nat.zero_le _, Nat.zero_le _⟩ (fun H locs G => ?_)
    refine lv_if_ne (tgt := 16) hx hb dX10_tray_6 (by decide) (fun _ => ?_) (fun h => absurd h (by decide))
    refine lv_iload_n hx hb dX10_tray_16 rfl (lv_at hl 2 rfl) ?_
    refine lv_bipush (v := 20) hx hb dX10_tray_17 (by decide) ?_
    refine lv_icmp_le (tgt := 29) hx hb dX10_tray_19 (by decide) (fun h3 => ?_) (fun h3 => ?_)
    · refine lv_iload_n hx hb dX10_tray_29 rfl (lv_at hl 2 rfl) ?_
      refine lv_if_ge (tgt := 39) hx hb dX10_tray_30 (by decide) (fun h4 => ?_) (fun h4 => ?_)
      · refine lv_aload_n hx hb dX10_tray_39 rfl (lv_at hl 0 rfl) ?_
        refine q_get (index := 29) (ref := "ToolRoomModel") E G inX10 17 0 c17 sg_17 rfl 7 (by decide) tb_428 (Or.inl rfl) rfl dX10_tray_40 ?_
        refine lv_iload_n hx hb dX10_tray_43 rfl (lv_at hl 1 rfl) ?_
        refine lv_iload_n hx hb dX10_tray_44 rfl (lv_at hl 2 rfl) ?_
        refine q_iast E G 18 7 (c18 7 (by decide)) (fun _ => sa_18_7) v2 dX10_tray_45 (fun H locs G => ?_)
        refine lv_iconst (v := 0) hx hb dX10_tray_46 (by decide) ?_
        refine lv_istore_n (lv' := [(3, .int 0), (0, .ref (ad 17 0)), (1, .int x1), (2, .int x2)]) hx hb dX10_tray_47 rfl hl (by decide) rfl (fun ls hl => ?_)
        have hv2 : vp_in x2 21 := le_in h4 h3 (by decide)
        refine lp_X10_tray (S := (uI S 18 7 x1.toNatClampNeg x2)) v2 hv2 E (fun H locs ls G hl => ?_) (x2.toNatClampNeg + 1) 0 (Nat.zero_le _) (by omega) _ _ ls G (lv_sub hl [0, 1, 2, 3] rfl)
        refine lv_aload_n hx hb dX10_tray_71 rfl (lv_at hl 1 rfl) ?_
        refine lv_iload_n hx hb dX10_tray_72 rfl (lv_at hl 3 rfl) ?_
        refine q_cV (rest := []) E G 17 0 c17 sg_17 (C := RX10) (T := TX10) (N := 21) rfl (k_X10_says l D cy sz ad n (fz (uI S 18 7 x1.toNatClampNeg x2) 8 (20 * x1.toNatClampNeg) 0 x2.toNatClampNeg) x2) tb_496 tb_498 tp_9 tb_6 tb_499 (nn := 1) (by decide +kernel) ⟨Nat.le_of_ble_eq_true rfl, Nat.le_of_ble_eq_true rfl⟩ rfl hl.1 rfl (Nat.le_of_ble_eq_true rfl) dX10_tray_73 ⟨Nat.zero_le _, Nat.zero_le _⟩ (fun H locs G => ?_)
        exact q_iret E G (by unfold f_X10_tray; simp only [if_pos h1, if_pos h3, if_pos h4, pr_eta]) dX10_tray_76
      · refine lv_aload_n hx hb dX10_tray_33 rfl (lv_at hl 0 rfl) ?_
        refine lv_iconst (v := 3) hx hb dX10_tray_34 (by decide) ?_
        refine q_cV (rest := []) E G 17 0 c17 sg_17 (C := RX10) (T := TX10) (N := 21) rfl (k_X10_fails l D cy sz ad n S 3 (by unfold vp_in; decide)) tb_516 tb_518 tp_10 tb_6 tb_519 (nn := 1) (by decide +kernel) ⟨Nat.le_of_ble_eq_true rfl, Nat.le_of_ble_eq_true rfl⟩ rfl hl.1 rfl (Nat.le_of_ble_eq_true rfl) dX10_tray_35 ⟨Nat.zero_le _, Nat.zero_le _⟩ (fun H locs G => ?_)
        exact q_iret E G (by unfold f_X10_tray; simp only [if_pos h1, if_pos h3, if_neg h4, pr_eta]) dX10_tray_38
    · refine lv_aload_n hx hb dX10_tray_22 rfl (lv_at hl 0 rfl) ?_
      refine lv_bipush (v := (-3)) hx hb dX10_tray_23 (by decide) ?_
      refine q_cV (rest := []) E G 17 0 c17 sg_17 (C := RX10) (T := TX10) (N := 21) rfl (k_X10_refuses l D cy sz ad n S (-3)) tb_492 tb_494 tp_8 tb_6 tb_495 (nn := 1) (by decide +kernel) ⟨Nat.le_of_ble_eq_true rfl, Nat.le_of_ble_eq_true rfl⟩ rfl hl.1 rfl (Nat.le_of_ble_eq_true rfl) dX10_tray_25 ⟨Nat.zero_le _, Nat.zero_le _⟩ (fun H locs G => ?_)
      exact q_iret E G (by unfold f_X10_tray; simp only [if_pos h1, if_neg h3, pr_eta]) dX10_tray_28
  · refine q_cSp E G [] (k_X10_in_f l D cy sz ad n S x1 0 3 h1) tb_489 tb_490 tb_6 tb_491 (nn := 3) (by decide +kernel) ⟨Nat.le_of_ble_eq_true rfl, Nat.le_of_ble_eq_true rfl⟩ rfl hl.1 rfl (Nat.le_of_ble_eq_true rfl) dX10_tray_3 ⟨Nat.zero_le _, Nat.zero_le _⟩ (fun H locs G => ?_)
    refine lv_if_ne (tgt := 16) hx hb dX10_tray_6 (by decide) (fun h => absurd h (by decide)) (fun _ => ?_)
    refine lv_aload_n hx hb dX10_tray_9 rfl (lv_at hl 0 rfl) ?_
    refine lv_bipush (v := (-2)) hx hb dX10_tray_10 (by decide) ?_
    refine q_cV (rest := []) E G 17 0 c17 sg_17 (C := RX10) (T := TX10) (N := 21) rfl (k_X10_refuses l D cy sz ad n S (-2)) tb_492 tb_494 tp_8 tb_6 tb_495 (nn := 1) (by decide +kernel) ⟨Nat.le_of_ble_eq_true rfl, Nat.le_of_ble_eq_true rfl⟩ rfl hl.1 rfl (Nat.le_of_ble_eq_true rfl) dX10_tray_12 ⟨Nat.zero_le _, Nat.zero_le _⟩ (fun H locs G => ?_)
    exact q_iret E G (by unfold f_X10_tray; simp only [if_neg h1, pr_eta]) dX10_tray_15

set_option maxHeartbeats 4000000 in
set_option maxRecDepth 100000 in
theorem lp_X10_rack {p : Program} {l : Launch} {e : Env} {R : Room} {s : State} {m : MethodId} {args : Array Value} {below : List Frame} {meth : Method} {c : Code} {Q : State → Prop} {D : va_G} {cy : Nat → ClassId} {sz : Nat} {ad : Nat → Nat → Nat} {n : Nat} {S : SS} {x1 x2 x3 : Int32} (hv : vp_in x1 4) (hv2 : vp_in x3 11) (E : En p s m args meth c cX10_rack 5 (some .int) RX10 D cy sz)
    (kx : ∀ (H : Heap) (locs : List Loc) (ls : Array Slot), Gd D cy sz ad n (fz S 11 (10 * x1.toNatClampNeg) (-1) x3.toNatClampNeg) s.heap H locs → lv_has ls 5 [(4, .int (nI x3.toNatClampNeg)), (0, .ref (ad 17 0)), (1, .int x1), (2, .int x2), (3, .int x3)] → W p l e R s m args below meth c H locs 0 0 Q (F0 m 90 ls [])) : ∀ (k i : Nat), i ≤ x3.toNatClampNeg → x3.toNatClampNeg + 1 ≤ i + k → ∀ (H : Heap) (locs : List Loc) (ls : Array Slot), Gd D cy sz ad n (fz S 11 (10 * x1.toNatClampNeg) (-1) i) s.heap H locs → lv_has ls 5 [(4, .int (nI i)), (0, .ref (ad 17 0)), (1, .int x1), (2, .int x2), (3, .int x3)] → W p l e R s m args below meth c H locs 0 0 Q (F0 m 65 ls []) := by
  obtain ⟨hx, hb, hrt, hml, hown, hw, hlk, hK, hF, hsz⟩ := id E
  intro k
  induction k with
  | zero => intro i g1 g2; exact absurd g2 (by omega)
  | succ k ih =>
    intro i g1 g2 H locs ls G hl
    refine lv_iload hx hb dX10_rack_65 (lv_at hl 0 rfl) ?_
    refine lv_iload_n hx hb dX10_rack_67 rfl (lv_at hl 4 rfl) ?_
    refine lv_icmp_ge (tgt := 90) hx hb dX10_rack_68 (by decide) (fun h1 => ?_) (fun h1 => ?_)
    · have e1 : i = x3.toNatClampNeg := ge_eq (N := x3.toNatClampNeg) (by have := vp_lt hv2; omega) g1 (by rw [← vp_self hv2 (by decide)]; exact h1)
      rw [e1] at G hl
      exact kx H locs ls G (lv_sub hl [0, 1, 2, 3, 4] rfl)
    · have hlt : i < x3.toNatClampNeg := lt_of (N := x3.toNatClampNeg) (by have := vp_lt hv2; omega) g1 (by rw [← vp_self hv2 (by decide)]; exact h1)
      refine lv_aload_n hx hb dX10_rack_71 rfl (lv_at hl 1 rfl) ?_
      refine q_get (index := 41) (ref := "ToolRoomModel") E G inX10 17 0 c17 sg_17 rfl 11 (by decide) tb_432 (Or.inl rfl) rfl dX10_rack_72 ?_
      refine lv_bipush (v := 10) hx hb dX10_rack_75 (by decide) ?_
      refine lv_iload_n hx hb dX10_rack_77 rfl (lv_at hl 2 rfl) ?_
      refine lv_imul hx hb dX10_rack_78 ?_
      refine lv_iload hx hb dX10_rack_79 (lv_at hl 0 rfl) ?_
      refine lv_iadd hx hb dX10_rack_81 ?_
      refine lv_iconst (v := (-1)) hx hb dX10_rack_82 (by decide) ?_
      refine q_iast E G 18 11 (c18 11 (by decide)) (fun _ => sa_18_11) (ixv hv (vp_in_nI (show i < 10 by have := vp_lt hv2; omega) (by decide)) 10 rfl (by decide) (by decide) (by decide) (by decide) (by decide)) dX10_rack_83 (fun H locs G => ?_)
      rw [ixn (c := 10) 10 hv rfl (by have := vp_lt hv2; omega) (by decide)] at G
      have G : Gd D cy sz ad n (fz S 11 (10 * x1.toNatClampNeg) (-1) (i + 1)) s.heap H locs := G
      refine lv_iinc (v := (nI (i + 1))) (lv' := [(4, .int (nI (i + 1))), (0, .ref (ad 17 0)), (1, .int x1), (2, .int x2), (3, .int x3)]) hx hb dX10_rack_84 hl (k := 0) rfl (nI_1 i) (by decide) rfl (fun ls hl => ?_)
      refine lv_goto (tgt := 65) hx hb dX10_rack_87 (by decide) ?_
      exact ih (i + 1) (by omega) (by omega) H locs ls G (lv_sub hl [0, 1, 2, 3, 4] rfl)

def f_X10_rack (S : SS) (x1 : Int32) (x2 : Int32) (x3 : Int32) : Int32 × SS := if wj x1 0 3 = true then (if wj x2 0 2 = true then (if x3 ≤ 10 then (if 0 ≤ x3 then (f_X10_says (fz (uI (uI S 18 9 x1.toNatClampNeg x3) 18 10 x1.toNatClampNeg x2) 11 (10 * x1.toNatClampNeg) (-1) x3.toNatClampNeg) x3) else (f_X10_fails S 3)) else (f_X10_refuses S (-3))) else (f_X10_refuses S (-3))) else (f_X10_refuses S (-2))
set_option maxHeartbeats 4000000 in
set_option maxRecDepth 100000 in
theorem k_X10_rack (l : Launch) (D : va_G) (cy : Nat → ClassId) (sz : Nat) (ad : Nat → Nat → Nat) (n : Nat) (S : SS) (ok : okM S) (x1 : Int32) (x2 : Int32) (x3 : Int32) : CI l yX10_rack cX10_rack 5 (some .int) 1 22 [.ref (ad 17 0), .int x1, .int x2, .int x3] D cy sz ad n S (f_X10_rack S x1 x2 x3) := by
  refine Met.enter (by decide) (Nat.le_of_ble_eq_true rfl) (fun p e s m args below meth c ls E G hl => ?_)
  have E : En p s m args meth c cX10_rack 5 (some .int) RX10 D cy sz := E
  obtain ⟨hx, hb, hrt, hml, hown, hw, hlk, hK, hF, hsz⟩ := id E
  have hl : lv_has ls 5 [(0, .ref (ad 17 0)), (1, .int x1), (2, .int x2), (3, .int x3)] := hl
  refine lv_iload_n hx hb dX10_rack_0 rfl (lv_at hl 1 rfl) ?_
  refine lv_iconst (v := 0) hx hb dX10_rack_1 (by decide) ?_
  refine lv_iconst (v := 3) hx hb dX10_rack_2 (by decide) ?_
  by_cases h1 : wj x1 0 3 = true
  · have v2 : vp_in x1 4 := wj_in h1 (by decide) (by decide)
    refine q_cSp E G [] (k_X10_in_t l D cy sz ad n S x1 0 3 h1) tb_489 tb_490 tb_6 tb_491 (nn := 3) (by decide +kernel) ⟨Nat.le_of_ble_eq_true rfl, Nat.le_of_ble_eq_true rfl⟩ rfl hl.1 rfl (Nat.le_of_ble_eq_true rfl) dX10_rack_3 ⟨Nat.zero_le _, Nat.zero_le _⟩ (fun H locs G => ?_)
    refine lv_if_ne (tgt := 16) hx hb dX10_rack_6 (by decide) (fun _ => ?_) (fun h => absurd h (by decide))
    refine lv_iload_n hx hb dX10_rack_16 rfl (lv_at hl 2 rfl) ?_
    refine lv_iconst (v := 0) hx hb dX10_rack_17 (by decide) ?_
    refine lv_iconst (v := 2) hx hb dX10_rack_18 (by decide) ?_
    by_cases h3 : wj x2 0 2 = true
    · have v4 : vp_in x2 3 := wj_in h3 (by decide) (by decide)
      refine q_cSp E G [] (k_X10_in_t l D cy sz ad n S x2 0 2 h3) tb_489 tb_490 tb_6 tb_491 (nn := 3) (by decide +kernel) ⟨Nat.le_of_ble_eq_true rfl, Nat.le_of_ble_eq_true rfl⟩ rfl hl.1 rfl (Nat.le_of_ble_eq_true rfl) dX10_rack_19 ⟨Nat.zero_le _, Nat.zero_le _⟩ (fun H locs G => ?_)
      refine lv_if_eq (tgt := 31) hx hb dX10_rack_22 (by decide) (fun h => absurd h (by decide)) (fun _ => ?_)
      refine lv_iload_n hx hb dX10_rack_25 rfl (lv_at hl 3 rfl) ?_
      refine lv_bipush (v := 10) hx hb dX10_rack_26 (by decide) ?_
      refine lv_icmp_le (tgt := 38) hx hb dX10_rack_28 (by decide) (fun h5 => ?_) (fun h5 => ?_)
      · refine lv_iload_n hx hb dX10_rack_38 rfl (lv_at hl 3 rfl) ?_
        refine lv_if_ge (tgt := 48) hx hb dX10_rack_39 (by decide) (fun h6 => ?_) (fun h6 => ?_)
        · refine lv_aload_n hx hb dX10_rack_48 rfl (lv_at hl 0 rfl) ?_
          refine q_get (index := 35) (ref := "ToolRoomModel") E G inX10 17 0 c17 sg_17 rfl 9 (by decide) tb_430 (Or.inl rfl) rfl dX10_rack_49 ?_
          refine lv_iload_n hx hb dX10_rack_52 rfl (lv_at hl 1 rfl) ?_
          refine lv_iload_n hx hb dX10_rack_53 rfl (lv_at hl 3 rfl) ?_
          refine q_iast E G 18 9 (c18 9 (by decide)) (fun _ => sa_18_9) v2 dX10_rack_54 (fun H locs G => ?_)
          refine lv_aload_n hx hb dX10_rack_55 rfl (lv_at hl 0 rfl) ?_
          refine q_get (index := 38) (ref := "ToolRoomModel") E G inX10 17 0 c17 sg_17 rfl 10 (by decide) tb_431 (Or.inl rfl) rfl dX10_rack_56 ?_
          refine lv_iload_n hx hb dX10_rack_59 rfl (lv_at hl 1 rfl) ?_
          refine lv_iload_n hx hb dX10_rack_60 rfl (lv_at hl 2 rfl) ?_
          refine q_iast E G 18 10 (c18 10 (by decide)) (fun _ => sa_18_10) v2 dX10_rack_61 (fun H locs G => ?_)
          refine lv_iconst (v := 0) hx hb dX10_rack_62 (by decide) ?_
          refine lv_istore (lv' := [(4, .int 0), (0, .ref (ad 17 0)), (1, .int x1), (2, .int x2), (3, .int x3)]) hx hb dX10_rack_63 hl (by decide) rfl (fun ls hl => ?_)
          have hv2 : vp_in x3 11 := le_in h6 h5 (by decide)
          refine lp_X10_rack (S := (uI (uI S 18 9 x1.toNatClampNeg x3) 18 10 x1.toNatClampNeg x2)) v2 hv2 E (fun H locs ls G hl => ?_) (x3.toNatClampNeg + 1) 0 (Nat.zero_le _) (by omega) _ _ ls G (lv_sub hl [0, 1, 2, 3, 4] rfl)
          refine lv_aload_n hx hb dX10_rack_90 rfl (lv_at hl 1 rfl) ?_
          refine lv_iload_n hx hb dX10_rack_91 rfl (lv_at hl 4 rfl) ?_
          refine q_cV (rest := []) E G 17 0 c17 sg_17 (C := RX10) (T := TX10) (N := 21) rfl (k_X10_says l D cy sz ad n (fz (uI (uI S 18 9 x1.toNatClampNeg x3) 18 10 x1.toNatClampNeg x2) 11 (10 * x1.toNatClampNeg) (-1) x3.toNatClampNeg) x3) tb_496 tb_498 tp_9 tb_6 tb_499 (nn := 1) (by decide +kernel) ⟨Nat.le_of_ble_eq_true rfl, Nat.le_of_ble_eq_true rfl⟩ rfl hl.1 rfl (Nat.le_of_ble_eq_true rfl) dX10_rack_92 ⟨Nat.zero_le _, Nat.zero_le _⟩ (fun H locs G => ?_)
          exact q_iret E G (by unfold f_X10_rack; simp only [if_pos h1, if_pos h3, if_pos h5, if_pos h6, pr_eta]) dX10_rack_95
        · refine lv_aload_n hx hb dX10_rack_42 rfl (lv_at hl 0 rfl) ?_
          refine lv_iconst (v := 3) hx hb dX10_rack_43 (by decide) ?_
          refine q_cV (rest := []) E G 17 0 c17 sg_17 (C := RX10) (T := TX10) (N := 21) rfl (k_X10_fails l D cy sz ad n S 3 (by unfold vp_in; decide)) tb_516 tb_518 tp_10 tb_6 tb_519 (nn := 1) (by decide +kernel) ⟨Nat.le_of_ble_eq_true rfl, Nat.le_of_ble_eq_true rfl⟩ rfl hl.1 rfl (Nat.le_of_ble_eq_true rfl) dX10_rack_44 ⟨Nat.zero_le _, Nat.zero_le _⟩ (fun H locs G => ?_)
          exact q_iret E G (by unfold f_X10_rack; simp only [if_pos h1, if_pos h3, if_pos h5, if_neg h6, pr_eta]) dX10_rack_47
      · refine lv_aload_n hx hb dX10_rack_31 rfl (lv_at hl 0 rfl) ?_
        refine lv_bipush (v := (-3)) hx hb dX10_rack_32 (by decide) ?_
        refine q_cV (rest := []) E G 17 0 c17 sg_17 (C := RX10) (T := TX10) (N := 21) rfl (k_X10_refuses l D cy sz ad n S (-3)) tb_492 tb_494 tp_8 tb_6 tb_495 (nn := 1) (by decide +kernel) ⟨Nat.le_of_ble_eq_true rfl, Nat.le_of_ble_eq_true rfl⟩ rfl hl.1 rfl (Nat.le_of_ble_eq_true rfl) dX10_rack_34 ⟨Nat.zero_le _, Nat.zero_le _⟩ (fun H locs G => ?_)
        exact q_iret E G (by unfold f_X10_rack; simp only [if_pos h1, if_pos h3, if_neg h5, pr_eta]) dX10_rack_37
    · refine q_cSp E G [] (k_X10_in_f l D cy sz ad n S x2 0 2 h3) tb_489 tb_490 tb_6 tb_491 (nn := 3) (by decide +kernel) ⟨Nat.le_of_ble_eq_true rfl, Nat.le_of_ble_eq_true rfl⟩ rfl hl.1 rfl (Nat.le_of_ble_eq_true rfl) dX10_rack_19 ⟨Nat.zero_le _, Nat.zero_le _⟩ (fun H locs G => ?_)
      refine lv_if_eq (tgt := 31) hx hb dX10_rack_22 (by decide) (fun _ => ?_) (fun h => absurd h (by decide))
      refine lv_aload_n hx hb dX10_rack_31 rfl (lv_at hl 0 rfl) ?_
      refine lv_bipush (v := (-3)) hx hb dX10_rack_32 (by decide) ?_
      refine q_cV (rest := []) E G 17 0 c17 sg_17 (C := RX10) (T := TX10) (N := 21) rfl (k_X10_refuses l D cy sz ad n S (-3)) tb_492 tb_494 tp_8 tb_6 tb_495 (nn := 1) (by decide +kernel) ⟨Nat.le_of_ble_eq_true rfl, Nat.le_of_ble_eq_true rfl⟩ rfl hl.1 rfl (Nat.le_of_ble_eq_true rfl) dX10_rack_34 ⟨Nat.zero_le _, Nat.zero_le _⟩ (fun H locs G => ?_)
      exact q_iret E G (by unfold f_X10_rack; simp only [if_pos h1, if_neg h3, pr_eta]) dX10_rack_37
  · refine q_cSp E G [] (k_X10_in_f l D cy sz ad n S x1 0 3 h1) tb_489 tb_490 tb_6 tb_491 (nn := 3) (by decide +kernel) ⟨Nat.le_of_ble_eq_true rfl, Nat.le_of_ble_eq_true rfl⟩ rfl hl.1 rfl (Nat.le_of_ble_eq_true rfl) dX10_rack_3 ⟨Nat.zero_le _, Nat.zero_le _⟩ (fun H locs G => ?_)
    refine lv_if_ne (tgt := 16) hx hb dX10_rack_6 (by decide) (fun h => absurd h (by decide)) (fun _ => ?_)
    refine lv_aload_n hx hb dX10_rack_9 rfl (lv_at hl 0 rfl) ?_
    refine lv_bipush (v := (-2)) hx hb dX10_rack_10 (by decide) ?_
    refine q_cV (rest := []) E G 17 0 c17 sg_17 (C := RX10) (T := TX10) (N := 21) rfl (k_X10_refuses l D cy sz ad n S (-2)) tb_492 tb_494 tp_8 tb_6 tb_495 (nn := 1) (by decide +kernel) ⟨Nat.le_of_ble_eq_true rfl, Nat.le_of_ble_eq_true rfl⟩ rfl hl.1 rfl (Nat.le_of_ble_eq_true rfl) dX10_rack_12 ⟨Nat.zero_le _, Nat.zero_le _⟩ (fun H locs G => ?_)
    exact q_iret E G (by unfold f_X10_rack; simp only [if_neg h1, pr_eta]) dX10_rack_15

set_option maxHeartbeats 4000000 in
set_option maxRecDepth 100000 in
theorem lp_X10_gridi {p : Program} {l : Launch} {e : Env} {R : Room} {s : State} {m : MethodId} {args : Array Value} {below : List Frame} {meth : Method} {c : Code} {Q : State → Prop} {D : va_G} {cy : Nat → ClassId} {sz : Nat} {ad : Nat → Nat → Nat} {n : Nat} {S : SS} {x1 x2 x3 : Int32} {i : Nat} (hv : vp_in x1 2) (hv2 : vp_in x3 9) (hi8 : i < 8) (E : En p s m args meth c cX10_grid 6 (some .int) RX10 D cy sz)
    (kx : ∀ (H : Heap) (locs : List Loc) (ls : Array Slot), Gd D cy sz ad n (fz S 14 (64 * x1.toNatClampNeg + 8 * i) 0 x3.toNatClampNeg) s.heap H locs → lv_has ls 6 [(5, .int (nI x3.toNatClampNeg)), (4, .int (nI i)), (0, .ref (ad 17 0)), (1, .int x1), (2, .int x2), (3, .int x3)] → W p l e R s m args below meth c H locs 0 0 Q (F0 m 112 ls [])) : ∀ (k j : Nat), j ≤ x3.toNatClampNeg → x3.toNatClampNeg + 1 ≤ j + k → ∀ (H : Heap) (locs : List Loc) (ls : Array Slot), Gd D cy sz ad n (fz S 14 (64 * x1.toNatClampNeg + 8 * i) 0 j) s.heap H locs → lv_has ls 6 [(5, .int (nI j)), (4, .int (nI i)), (0, .ref (ad 17 0)), (1, .int x1), (2, .int x2), (3, .int x3)] → W p l e R s m args below meth c H locs 0 0 Q (F0 m 81 ls []) := by
  obtain ⟨hx, hb, hrt, hml, hown, hw, hlk, hK, hF, hsz⟩ := id E
  intro k
  induction k with
  | zero => intro j g1 g2; exact absurd g2 (by omega)
  | succ k ih =>
    intro j g1 g2 H locs ls G hl
    refine lv_iload hx hb dX10_grid_81 (lv_at hl 0 rfl) ?_
    refine lv_iload_n hx hb dX10_grid_83 rfl (lv_at hl 5 rfl) ?_
    refine lv_icmp_ge (tgt := 112) hx hb dX10_grid_84 (by decide) (fun h1 => ?_) (fun h1 => ?_)
    · have e1 : j = x3.toNatClampNeg := ge_eq (N := x3.toNatClampNeg) (by have := vp_lt hv2; omega) g1 (by rw [← vp_self hv2 (by decide)]; exact h1)
      rw [e1] at G hl
      exact kx H locs ls G (lv_sub hl [0, 1, 2, 3, 4, 5] rfl)
    · have hlt : j < x3.toNatClampNeg := lt_of (N := x3.toNatClampNeg) (by have := vp_lt hv2; omega) g1 (by rw [← vp_self hv2 (by decide)]; exact h1)
      refine lv_aload_n hx hb dX10_grid_87 rfl (lv_at hl 2 rfl) ?_
      refine q_get (index := 50) (ref := "ToolRoomModel") E G inX10 17 0 c17 sg_17 rfl 14 (by decide) tb_435 (Or.inl rfl) rfl dX10_grid_88 ?_
      refine lv_bipush (v := 64) hx hb dX10_grid_91 (by decide) ?_
      refine lv_iload_n hx hb dX10_grid_93 rfl (lv_at hl 3 rfl) ?_
      refine lv_imul hx hb dX10_grid_94 ?_
      refine lv_bipush (v := 8) hx hb dX10_grid_95 (by decide) ?_
      refine lv_iload hx hb dX10_grid_97 (lv_at hl 1 rfl) ?_
      refine lv_imul hx hb dX10_grid_99 ?_
      refine lv_iadd hx hb dX10_grid_100 ?_
      refine lv_iload hx hb dX10_grid_101 (lv_at hl 0 rfl) ?_
      refine lv_iadd hx hb dX10_grid_103 ?_
      refine lv_iconst (v := 0) hx hb dX10_grid_104 (by decide) ?_
      refine q_iast E G 18 14 (c18 14 (by decide)) (fun _ => sa_18_14) (ix3v hv (vp_in_nI hi8 (by decide)) (vp_in_nI (show j < 8 by have := vp_lt hv2; omega) (by decide))) dX10_grid_105 (fun H locs G => ?_)
      rw [ixn3 hv hi8 (by have := vp_lt hv2; omega)] at G
      have G : Gd D cy sz ad n (fz S 14 (64 * x1.toNatClampNeg + 8 * i) 0 (j + 1)) s.heap H locs := G
      refine lv_iinc (v := (nI (j + 1))) (lv' := [(5, .int (nI (j + 1))), (4, .int (nI i)), (0, .ref (ad 17 0)), (1, .int x1), (2, .int x2), (3, .int x3)]) hx hb dX10_grid_106 hl (k := 0) rfl (nI_1 j) (by decide) rfl (fun ls hl => ?_)
      refine lv_goto (tgt := 81) hx hb dX10_grid_109 (by decide) ?_
      exact ih (j + 1) (by omega) (by omega) H locs ls G (lv_sub hl [0, 1, 2, 3, 4, 5] rfl)

def gm (S : SS) (x1 x3 : Int32) : Nat → SS
  | 0 => S
  | i + 1 => fz (uI (gm S x1 x3 i) 18 13 (8 * x1.toNatClampNeg + i) x3) 14 (64 * x1.toNatClampNeg + 8 * i) 0 x3.toNatClampNeg

set_option maxHeartbeats 4000000 in
set_option maxRecDepth 100000 in
theorem lp_X10_grid {p : Program} {l : Launch} {e : Env} {R : Room} {s : State} {m : MethodId} {args : Array Value} {below : List Frame} {meth : Method} {c : Code} {Q : State → Prop} {D : va_G} {cy : Nat → ClassId} {sz : Nat} {ad : Nat → Nat → Nat} {n : Nat} {S : SS} {x1 x2 x3 : Int32} (hv : vp_in x1 2) (hv2 : vp_in x2 9) (hv3 : vp_in x3 9) (E : En p s m args meth c cX10_grid 6 (some .int) RX10 D cy sz)
    (kx : ∀ (H : Heap) (locs : List Loc) (ls : Array Slot), Gd D cy sz ad n (gm S x1 x3 x2.toNatClampNeg) s.heap H locs → lv_has ls 6 [(4, .int (nI x2.toNatClampNeg)), (0, .ref (ad 17 0)), (1, .int x1), (2, .int x2), (3, .int x3)] → W p l e R s m args below meth c H locs 0 0 Q (F0 m 118 ls [])) : ∀ (k i : Nat), i ≤ x2.toNatClampNeg → x2.toNatClampNeg + 1 ≤ i + k → ∀ (H : Heap) (locs : List Loc) (ls : Array Slot), Gd D cy sz ad n (gm S x1 x3 i) s.heap H locs → lv_has ls 6 [(4, .int (nI i)), (0, .ref (ad 17 0)), (1, .int x1), (2, .int x2), (3, .int x3)] → W p l e R s m args below meth c H locs 0 0 Q (F0 m 59 ls []) := by
  obtain ⟨hx, hb, hrt, hml, hown, hw, hlk, hK, hF, hsz⟩ := id E
  intro k
  induction k with
  | zero => intro i g1 g2; exact absurd g2 (by omega)
  | succ k ih =>
    intro i g1 g2 H locs ls G hl
    refine lv_iload hx hb dX10_grid_59 (lv_at hl 0 rfl) ?_
    refine lv_iload_n hx hb dX10_grid_61 rfl (lv_at hl 3 rfl) ?_
    refine lv_icmp_ge (tgt := 118) hx hb dX10_grid_62 (by decide) (fun h1 => ?_) (fun h1 => ?_)
    · have e1 : i = x2.toNatClampNeg := ge_eq (N := x2.toNatClampNeg) (by have := vp_lt hv2; omega) g1 (by rw [← vp_self hv2 (by decide)]; exact h1)
      rw [e1] at G hl
      exact kx H locs ls G (lv_sub hl [0, 1, 2, 3, 4] rfl)
    · have hlt : i < x2.toNatClampNeg := lt_of (N := x2.toNatClampNeg) (by have := vp_lt hv2; omega) g1 (by rw [← vp_self hv2 (by decide)]; exact h1)
      refine lv_aload_n hx hb dX10_grid_65 rfl (lv_at hl 1 rfl) ?_
      refine q_get (index := 47) (ref := "ToolRoomModel") E G inX10 17 0 c17 sg_17 rfl 13 (by decide) tb_434 (Or.inl rfl) rfl dX10_grid_66 ?_
      refine lv_bipush (v := 8) hx hb dX10_grid_69 (by decide) ?_
      refine lv_iload_n hx hb dX10_grid_71 rfl (lv_at hl 2 rfl) ?_
      refine lv_imul hx hb dX10_grid_72 ?_
      refine lv_iload hx hb dX10_grid_73 (lv_at hl 0 rfl) ?_
      refine lv_iadd hx hb dX10_grid_75 ?_
      refine lv_iload_n hx hb dX10_grid_76 rfl (lv_at hl 4 rfl) ?_
      refine q_iast E G 18 13 (c18 13 (by decide)) (fun _ => sa_18_13) (ixv hv (vp_in_nI (show i < 8 by have := vp_lt hv2; omega) (by decide)) 8 rfl (by decide) (by decide) (by decide) (by decide) (by decide)) dX10_grid_77 (fun H locs G => ?_)
      rw [ixn (c := 8) 8 hv rfl (by have := vp_lt hv2; omega) (by decide)] at G
      refine lv_iconst (v := 0) hx hb dX10_grid_78 (by decide) ?_
      refine lv_istore (lv' := [(5, .int 0), (4, .int (nI i)), (0, .ref (ad 17 0)), (1, .int x1), (2, .int x2), (3, .int x3)]) hx hb dX10_grid_79 hl (by decide) rfl (fun ls hl => ?_)
      refine lp_X10_gridi (S := uI (gm S x1 x3 i) 18 13 (8 * x1.toNatClampNeg + i) x3) hv hv3 (show i < 8 by have := vp_lt hv2; omega) E (fun H locs ls G hl => ?_) (x3.toNatClampNeg + 1) 0 (Nat.zero_le _) (by omega) _ _ ls G (lv_sub hl [0, 1, 2, 3, 4, 5] rfl)
      have G : Gd D cy sz ad n (gm S x1 x3 (i + 1)) s.heap H locs := G
      refine lv_iinc (v := (nI (i + 1))) (lv' := [(4, .int (nI (i + 1))), (5, .int (nI x3.toNatClampNeg)), (0, .ref (ad 17 0)), (1, .int x1), (2, .int x2), (3, .int x3)]) hx hb dX10_grid_112 hl (k := 1) rfl (nI_1 i) (by decide) rfl (fun ls hl => ?_)
      refine lv_goto (tgt := 59) hx hb dX10_grid_115 (by decide) ?_
      exact ih (i + 1) (by omega) (by omega) H locs ls G (lv_sub hl [0, 2, 3, 4, 5] rfl)

def f_X10_grid (S : SS) (x1 : Int32) (x2 : Int32) (x3 : Int32) : Int32 × SS := if wj x1 0 1 = true then (if 8 < x2 then (f_X10_refuses S (-3)) else (if x3 ≤ 8 then (if x2 < 0 then (f_X10_fails S 3) else (if 0 ≤ x3 then (f_X10_says (gm (uI S 18 12 x1.toNatClampNeg x2) x1 x3 x2.toNatClampNeg) x2) else (f_X10_fails S 3))) else (f_X10_refuses S (-3)))) else (f_X10_refuses S (-2))
set_option maxHeartbeats 4000000 in
set_option maxRecDepth 100000 in
theorem k_X10_grid (l : Launch) (D : va_G) (cy : Nat → ClassId) (sz : Nat) (ad : Nat → Nat → Nat) (n : Nat) (S : SS) (ok : okM S) (x1 : Int32) (x2 : Int32) (x3 : Int32) : CI l yX10_grid cX10_grid 6 (some .int) 1 22 [.ref (ad 17 0), .int x1, .int x2, .int x3] D cy sz ad n S (f_X10_grid S x1 x2 x3) := by
  refine Met.enter (by decide) (Nat.le_of_ble_eq_true rfl) (fun p e s m args below meth c ls E G hl => ?_)
  have E : En p s m args meth c cX10_grid 6 (some .int) RX10 D cy sz := E
  obtain ⟨hx, hb, hrt, hml, hown, hw, hlk, hK, hF, hsz⟩ := id E
  have hl : lv_has ls 6 [(0, .ref (ad 17 0)), (1, .int x1), (2, .int x2), (3, .int x3)] := hl
  refine lv_iload_n hx hb dX10_grid_0 rfl (lv_at hl 1 rfl) ?_
  refine lv_iconst (v := 0) hx hb dX10_grid_1 (by decide) ?_
  refine lv_iconst (v := 1) hx hb dX10_grid_2 (by decide) ?_
  by_cases h1 : wj x1 0 1 = true
  · have v2 : vp_in x1 2 := wj_in h1 (by decide) (by decide)
    refine q_cSp E G [] (k_X10_in_t l D cy sz ad n S x1 0 1 h1) tb_489 tb_490 tb_6 tb_491 (nn := 3) (by decide +kernel) ⟨Nat.le_of_ble_eq_true rfl, Nat.le_of_ble_eq_true rfl⟩ rfl hl.1 rfl (Nat.le_of_ble_eq_true rfl) dX10_grid_3 ⟨Nat.zero_le _, Nat.zero_le _⟩ (fun H locs G => ?_)
    refine lv_if_ne (tgt := 16) hx hb dX10_grid_6 (by decide) (fun _ => ?_) (fun h => absurd h (by decide))
    refine lv_iload_n hx hb dX10_grid_16 rfl (lv_at hl 2 rfl) ?_
    refine lv_bipush (v := 8) hx hb dX10_grid_17 (by decide) ?_
    refine lv_icmp_gt (tgt := 28) hx hb dX10_grid_19 (by decide) (fun h3 => ?_) (fun h3 => ?_)
    · refine lv_aload_n hx hb dX10_grid_28 rfl (lv_at hl 0 rfl) ?_
      refine lv_bipush (v := (-3)) hx hb dX10_grid_29 (by decide) ?_
      refine q_cV (rest := []) E G 17 0 c17 sg_17 (C := RX10) (T := TX10) (N := 21) rfl (k_X10_refuses l D cy sz ad n S (-3)) tb_492 tb_494 tp_8 tb_6 tb_495 (nn := 1) (by decide +kernel) ⟨Nat.le_of_ble_eq_true rfl, Nat.le_of_ble_eq_true rfl⟩ rfl hl.1 rfl (Nat.le_of_ble_eq_true rfl) dX10_grid_31 ⟨Nat.zero_le _, Nat.zero_le _⟩ (fun H locs G => ?_)
      exact q_iret E G (by unfold f_X10_grid; simp only [if_pos h1, if_pos h3, pr_eta]) dX10_grid_34
    · refine lv_iload_n hx hb dX10_grid_22 rfl (lv_at hl 3 rfl) ?_
      refine lv_bipush (v := 8) hx hb dX10_grid_23 (by decide) ?_
      refine lv_icmp_le (tgt := 35) hx hb dX10_grid_25 (by decide) (fun h4 => ?_) (fun h4 => ?_)
      · refine lv_iload_n hx hb dX10_grid_35 rfl (lv_at hl 2 rfl) ?_
        refine lv_if_lt (tgt := 43) hx hb dX10_grid_36 (by decide) (fun h5 => ?_) (fun h5 => ?_)
        · refine lv_aload_n hx hb dX10_grid_43 rfl (lv_at hl 0 rfl) ?_
          refine lv_iconst (v := 3) hx hb dX10_grid_44 (by decide) ?_
          refine q_cV (rest := []) E G 17 0 c17 sg_17 (C := RX10) (T := TX10) (N := 21) rfl (k_X10_fails l D cy sz ad n S 3 (by unfold vp_in; decide)) tb_516 tb_518 tp_10 tb_6 tb_519 (nn := 1) (by decide +kernel) ⟨Nat.le_of_ble_eq_true rfl, Nat.le_of_ble_eq_true rfl⟩ rfl hl.1 rfl (Nat.le_of_ble_eq_true rfl) dX10_grid_45 ⟨Nat.zero_le _, Nat.zero_le _⟩ (fun H locs G => ?_)
          exact q_iret E G (by unfold f_X10_grid; simp only [if_pos h1, if_neg h3, if_pos h4, if_pos h5, pr_eta]) dX10_grid_48
        · refine lv_iload_n hx hb dX10_grid_39 rfl (lv_at hl 3 rfl) ?_
          refine lv_if_ge (tgt := 49) hx hb dX10_grid_40 (by decide) (fun h6 => ?_) (fun h6 => ?_)
          · refine lv_aload_n hx hb dX10_grid_49 rfl (lv_at hl 0 rfl) ?_
            refine q_get (index := 44) (ref := "ToolRoomModel") E G inX10 17 0 c17 sg_17 rfl 12 (by decide) tb_433 (Or.inl rfl) rfl dX10_grid_50 ?_
            refine lv_iload_n hx hb dX10_grid_53 rfl (lv_at hl 1 rfl) ?_
            refine lv_iload_n hx hb dX10_grid_54 rfl (lv_at hl 2 rfl) ?_
            refine q_iast E G 18 12 (c18 12 (by decide)) (fun _ => sa_18_12) v2 dX10_grid_55 (fun H locs G => ?_)
            refine lv_iconst (v := 0) hx hb dX10_grid_56 (by decide) ?_
            refine lv_istore (lv' := [(4, .int 0), (0, .ref (ad 17 0)), (1, .int x1), (2, .int x2), (3, .int x3)]) hx hb dX10_grid_57 hl (by decide) rfl (fun ls hl => ?_)
            have hv3 : vp_in x3 9 := le_in h6 h4 (by decide)
            have hv2 : vp_in x2 9 := grd_in h3 h5
            refine lp_X10_grid (S := (uI S 18 12 x1.toNatClampNeg x2)) v2 hv2 hv3 E (fun H locs ls G hl => ?_) (x2.toNatClampNeg + 1) 0 (Nat.zero_le _) (by omega) _ _ ls G (lv_sub hl [0, 1, 2, 3, 4] rfl)
            refine lv_aload_n hx hb dX10_grid_118 rfl (lv_at hl 1 rfl) ?_
            refine lv_iload_n hx hb dX10_grid_119 rfl (lv_at hl 3 rfl) ?_
            refine q_cV (rest := []) E G 17 0 c17 sg_17 (C := RX10) (T := TX10) (N := 21) rfl (k_X10_says l D cy sz ad n (gm (uI S 18 12 x1.toNatClampNeg x2) x1 x3 x2.toNatClampNeg) x2) tb_496 tb_498 tp_9 tb_6 tb_499 (nn := 1) (by decide +kernel) ⟨Nat.le_of_ble_eq_true rfl, Nat.le_of_ble_eq_true rfl⟩ rfl hl.1 rfl (Nat.le_of_ble_eq_true rfl) dX10_grid_120 ⟨Nat.zero_le _, Nat.zero_le _⟩ (fun H locs G => ?_)
            exact q_iret E G (by unfold f_X10_grid; simp only [if_pos h1, if_neg h3, if_pos h4, if_neg h5, if_pos h6, pr_eta]) dX10_grid_123
          · refine lv_aload_n hx hb dX10_grid_43 rfl (lv_at hl 0 rfl) ?_
            refine lv_iconst (v := 3) hx hb dX10_grid_44 (by decide) ?_
            refine q_cV (rest := []) E G 17 0 c17 sg_17 (C := RX10) (T := TX10) (N := 21) rfl (k_X10_fails l D cy sz ad n S 3 (by unfold vp_in; decide)) tb_516 tb_518 tp_10 tb_6 tb_519 (nn := 1) (by decide +kernel) ⟨Nat.le_of_ble_eq_true rfl, Nat.le_of_ble_eq_true rfl⟩ rfl hl.1 rfl (Nat.le_of_ble_eq_true rfl) dX10_grid_45 ⟨Nat.zero_le _, Nat.zero_le _⟩ (fun H locs G => ?_)
            exact q_iret E G (by unfold f_X10_grid; simp only [if_pos h1, if_neg h3, if_pos h4, if_neg h5, if_neg h6, pr_eta]) dX10_grid_48
      · refine lv_aload_n hx hb dX10_grid_28 rfl (lv_at hl 0 rfl) ?_
        refine lv_bipush (v := (-3)) hx hb dX10_grid_29 (by decide) ?_
        refine q_cV (rest := []) E G 17 0 c17 sg_17 (C := RX10) (T := TX10) (N := 21) rfl (k_X10_refuses l D cy sz ad n S (-3)) tb_492 tb_494 tp_8 tb_6 tb_495 (nn := 1) (by decide +kernel) ⟨Nat.le_of_ble_eq_true rfl, Nat.le_of_ble_eq_true rfl⟩ rfl hl.1 rfl (Nat.le_of_ble_eq_true rfl) dX10_grid_31 ⟨Nat.zero_le _, Nat.zero_le _⟩ (fun H locs G => ?_)
        exact q_iret E G (by unfold f_X10_grid; simp only [if_pos h1, if_neg h3, if_neg h4, pr_eta]) dX10_grid_34
  · refine q_cSp E G [] (k_X10_in_f l D cy sz ad n S x1 0 1 h1) tb_489 tb_490 tb_6 tb_491 (nn := 3) (by decide +kernel) ⟨Nat.le_of_ble_eq_true rfl, Nat.le_of_ble_eq_true rfl⟩ rfl hl.1 rfl (Nat.le_of_ble_eq_true rfl) dX10_grid_3 ⟨Nat.zero_le _, Nat.zero_le _⟩ (fun H locs G => ?_)
    refine lv_if_ne (tgt := 16) hx hb dX10_grid_6 (by decide) (fun h => absurd h (by decide)) (fun _ => ?_)
    refine lv_aload_n hx hb dX10_grid_9 rfl (lv_at hl 0 rfl) ?_
    refine lv_bipush (v := (-2)) hx hb dX10_grid_10 (by decide) ?_
    refine q_cV (rest := []) E G 17 0 c17 sg_17 (C := RX10) (T := TX10) (N := 21) rfl (k_X10_refuses l D cy sz ad n S (-2)) tb_492 tb_494 tp_8 tb_6 tb_495 (nn := 1) (by decide +kernel) ⟨Nat.le_of_ble_eq_true rfl, Nat.le_of_ble_eq_true rfl⟩ rfl hl.1 rfl (Nat.le_of_ble_eq_true rfl) dX10_grid_12 ⟨Nat.zero_le _, Nat.zero_le _⟩ (fun H locs G => ?_)
    exact q_iret E G (by unfold f_X10_grid; simp only [if_neg h1, pr_eta]) dX10_grid_15

def smL (x1 x3 x4 a : Int32) : Nat → Nat → SS → Int32 × SS
  | 0, _, S => f_X10_says S a
  | r + 1, i, S => if (x1 + (nI i)) ≤ 9 then (if (S.1 18 0 (x1 + (nI i)).toNatClampNeg) = (-1) then (f_X10_fails S 1) else (if 0 ≤ (((f_X10_used S (S.1 18 0 (x1 + (nI i)).toNatClampNeg) x3).2).1 18 7 x4.toNatClampNeg) then (if (nI i) < (((f_X10_used S (S.1 18 0 (x1 + (nI i)).toNatClampNeg) x3).2).1 18 7 x4.toNatClampNeg) then smL x1 x3 x4 a r (i + 1) (uI ((f_X10_used S (S.1 18 0 (x1 + (nI i)).toNatClampNeg) x3).2) 18 8 ((20 * x4) + (nI i)).toNatClampNeg (f_X10_used S (S.1 18 0 (x1 + (nI i)).toNatClampNeg) x3).1) else (f_X10_fails ((f_X10_used S (S.1 18 0 (x1 + (nI i)).toNatClampNeg) x3).2) 2)) else (f_X10_fails ((f_X10_used S (S.1 18 0 (x1 + (nI i)).toNatClampNeg) x3).2) 1))) else (f_X10_fails S 2)
set_option maxHeartbeats 4000000 in
set_option maxRecDepth 100000 in
theorem lp_X10_shift {p : Program} {l : Launch} {e : Env} {s : State} {m : MethodId} {args : Array Value} {below : List Frame} {meth : Method} {c : Code} {D : va_G} {cy : Nat → ClassId} {sz : Nat} {ad : Nat → Nat → Nat} {n : Nat} {x1 x2 x3 x4 : Int32} (hv : vp_in x1 10) (hv2 : vp_in x2 10) (hv4 : vp_in x4 4) {F : Int32 × SS} (E : En p s m args meth c cX10_shift 7 (some .int) RX10 D cy sz) : ∀ (k i : Nat), i ≤ x2.toNatClampNeg → x2.toNatClampNeg + 1 ≤ i + k → ∀ (S : SS) (H : Heap) (locs : List Loc) (ls : Array Slot), okM S → smL x1 x3 x4 x2 (x2.toNatClampNeg - i) i S = F → Gd D cy sz ad n S s.heap H locs → lv_has ls 7 [(5, .int (nI i)), (0, .ref (ad 17 0)), (1, .int x1), (2, .int x2), (3, .int x3), (4, .int x4)] → W p l e (Rm 1 23 0 0) s m args below meth c H locs 0 0 (MQ below (va_Qi (fun r u => (r, u) = F) (Po D cy sz ad n) (fun q => sz ≤ q)) args s 0 0 (fun q => sz ≤ q)) (F0 m 47 ls []) := by
  obtain ⟨hx, hb, hrt, hml, hown, hw, hlk, hK, hF2, hsz⟩ := id E
  intro k
  induction k with
  | zero => intro i g1 g2; exact absurd g2 (by omega)
  | succ k ih =>
    intro i g1 g2 S H locs ls ok hF G hl
    refine lv_iload hx hb dX10_shift_47 (lv_at hl 0 rfl) ?_
    refine lv_iload_n hx hb dX10_shift_49 rfl (lv_at hl 3 rfl) ?_
    refine lv_icmp_ge (tgt := 158) hx hb dX10_shift_50 (by decide) (fun h1 => ?_) (fun h1 => ?_)
    · have e1 : i = x2.toNatClampNeg := ge_eq (N := x2.toNatClampNeg) (by have := vp_lt hv2; omega) g1 (by rw [← vp_self hv2 (by decide)]; exact h1)
      refine lv_aload_n hx hb dX10_shift_158 rfl (lv_at hl 1 rfl) ?_
      refine lv_iload_n hx hb dX10_shift_159 rfl (lv_at hl 3 rfl) ?_
      refine q_cV (rest := []) E G 17 0 c17 sg_17 (C := RX10) (T := TX10) (N := 21) rfl (k_X10_says l D cy sz ad n S x2) tb_496 tb_498 tp_9 tb_6 tb_499 (nn := 1) (by decide +kernel) ⟨Nat.le_of_ble_eq_true rfl, Nat.le_of_ble_eq_true rfl⟩ rfl hl.1 rfl (Nat.le_of_ble_eq_true rfl) dX10_shift_160 ⟨Nat.zero_le _, Nat.zero_le _⟩ (fun H locs G => ?_)
      exact q_iret E G (by rw [← hF, show x2.toNatClampNeg - i = 0 by omega]; rfl) dX10_shift_163
    · have hlt : i < x2.toNatClampNeg := lt_of (N := x2.toNatClampNeg) (by have := vp_lt hv2; omega) g1 (by rw [← vp_self hv2 (by decide)]; exact h1)
      refine lv_iload_n hx hb dX10_shift_53 rfl (lv_at hl 2 rfl) ?_
      refine lv_iload hx hb dX10_shift_54 (lv_at hl 0 rfl) ?_
      refine lv_iadd hx hb dX10_shift_56 ?_
      refine lv_bipush (v := 9) hx hb dX10_shift_57 (by decide) ?_
      refine lv_icmp_le (tgt := 68) hx hb dX10_shift_59 (by decide) (fun h2 => ?_) (fun h2 => ?_)
      · have v10 : vp_in (x1 + (nI i)) 10 := hk_in hv (show i < 10 by have := vp_lt hv2; omega) h2
        refine lv_aload_n hx hb dX10_shift_68 rfl (lv_at hl 1 rfl) ?_
        refine q_get (index := 7) (ref := "ToolRoomModel") E G inX10 17 0 c17 sg_17 rfl 0 (by decide) tb_421 (Or.inl rfl) rfl dX10_shift_69 ?_
        refine lv_iload_n hx hb dX10_shift_72 rfl (lv_at hl 2 rfl) ?_
        refine lv_iload hx hb dX10_shift_73 (lv_at hl 0 rfl) ?_
        refine lv_iadd hx hb dX10_shift_75 ?_
        refine q_iald E G 18 0 (c18 0 (by decide)) sa_18_0 v10 dX10_shift_76 ?_
        refine lv_iconst (v := (-1)) hx hb dX10_shift_77 (by decide) ?_
        refine lv_icmp_ne (tgt := 87) hx hb dX10_shift_78 (by decide) (fun h3 => ?_) (fun h3 => ?_)
        · have v4 : vp_in (S.1 18 0 (x1 + (nI i)).toNatClampNeg) 600 := (ok.1 _ (vp_lt v10)).resolve_left h3
          refine lv_aload_n hx hb dX10_shift_87 rfl (lv_at hl 1 rfl) ?_
          refine lv_aload_n hx hb dX10_shift_88 rfl (lv_at hl 1 rfl) ?_
          refine q_get (index := 7) (ref := "ToolRoomModel") E G inX10 17 0 c17 sg_17 rfl 0 (by decide) tb_421 (Or.inl rfl) rfl dX10_shift_89 ?_
          refine lv_iload_n hx hb dX10_shift_92 rfl (lv_at hl 2 rfl) ?_
          refine lv_iload hx hb dX10_shift_93 (lv_at hl 0 rfl) ?_
          refine lv_iadd hx hb dX10_shift_95 ?_
          refine q_iald E G 18 0 (c18 0 (by decide)) sa_18_0 v10 dX10_shift_96 ?_
          refine lv_iload_n hx hb dX10_shift_97 rfl (lv_at hl 4 rfl) ?_
          refine q_cV (rest := []) E G 17 0 c17 sg_17 (C := RX10) (T := TX10) (N := 21) rfl (k_X10_used l D cy sz ad n S (S.1 18 0 (x1 + (nI i)).toNatClampNeg) x3 v4) tb_547 tb_549 tp_12 tb_6 tb_550 (nn := 2) (by decide +kernel) ⟨Nat.le_of_ble_eq_true rfl, Nat.le_of_ble_eq_true rfl⟩ rfl hl.1 rfl (Nat.le_of_ble_eq_true rfl) dX10_shift_98 ⟨Nat.zero_le _, Nat.zero_le _⟩ (fun H locs G => ?_)
          refine lv_istore (lv' := [(6, .int (f_X10_used S (S.1 18 0 (x1 + (nI i)).toNatClampNeg) x3).1), (5, .int (nI i)), (0, .ref (ad 17 0)), (1, .int x1), (2, .int x2), (3, .int x3), (4, .int x4)]) hx hb dX10_shift_101 hl (by decide) rfl (fun ls hl => ?_)
          refine lv_aload_n hx hb dX10_shift_103 rfl (lv_at hl 2 rfl) ?_
          refine q_get (index := 29) (ref := "ToolRoomModel") E G inX10 17 0 c17 sg_17 rfl 7 (by decide) tb_428 (Or.inl rfl) rfl dX10_shift_104 ?_
          refine lv_iload hx hb dX10_shift_107 (lv_at hl 6 rfl) ?_
          refine q_iald E G 18 7 (c18 7 (by decide)) sa_18_7 hv4 dX10_shift_109 ?_
          refine lv_if_ge (tgt := 119) hx hb dX10_shift_110 (by decide) (fun h5 => ?_) (fun h5 => ?_)
          · refine lv_iload hx hb dX10_shift_119 (lv_at hl 1 rfl) ?_
            refine lv_aload_n hx hb dX10_shift_121 rfl (lv_at hl 2 rfl) ?_
            refine q_get (index := 29) (ref := "ToolRoomModel") E G inX10 17 0 c17 sg_17 rfl 7 (by decide) tb_428 (Or.inl rfl) rfl dX10_shift_122 ?_
            refine lv_iload hx hb dX10_shift_125 (lv_at hl 6 rfl) ?_
            refine q_iald E G 18 7 (c18 7 (by decide)) sa_18_7 hv4 dX10_shift_127 ?_
            refine lv_icmp_lt (tgt := 137) hx hb dX10_shift_128 (by decide) (fun h6 => ?_) (fun h6 => ?_)
            · refine lv_aload_n hx hb dX10_shift_137 rfl (lv_at hl 2 rfl) ?_
              refine q_get (index := 32) (ref := "ToolRoomModel") E G inX10 17 0 c17 sg_17 rfl 8 (by decide) tb_429 (Or.inl rfl) rfl dX10_shift_138 ?_
              refine lv_bipush (v := 20) hx hb dX10_shift_141 (by decide) ?_
              refine lv_iload hx hb dX10_shift_143 (lv_at hl 6 rfl) ?_
              refine lv_imul hx hb dX10_shift_145 ?_
              refine lv_iload hx hb dX10_shift_146 (lv_at hl 1 rfl) ?_
              refine lv_iadd hx hb dX10_shift_148 ?_
              refine lv_iload hx hb dX10_shift_149 (lv_at hl 0 rfl) ?_
              refine q_iast E G 18 8 (c18 8 (by decide)) (fun _ => sa_18_8) (ixv hv4 (vp_in_nI (show i < 20 by have := vp_lt hv2; omega) (by decide)) 20 rfl (by decide) (by decide) (by decide) (by decide) (by decide)) dX10_shift_151 (fun H locs G => ?_)
              refine lv_iinc (v := (nI (i + 1))) (lv' := [(5, .int (nI (i + 1))), (6, .int (f_X10_used S (S.1 18 0 (x1 + (nI i)).toNatClampNeg) x3).1), (0, .ref (ad 17 0)), (1, .int x1), (2, .int x2), (3, .int x3), (4, .int x4)]) hx hb dX10_shift_152 hl (k := 1) rfl (nI_1 i) (by decide) rfl (fun ls hl => ?_)
              refine lv_goto (tgt := 47) hx hb dX10_shift_155 (by decide) ?_
              exact ih (i + 1) (by omega) (by omega) _ H locs ls (okM_8 (okM_fu ok) (by decide)) (by rw [← hF, show x2.toNatClampNeg - i = (x2.toNatClampNeg - (i + 1)) + 1 by omega]; conv => rhs; unfold smL; simp only [if_pos h2, if_neg h3, if_pos h5, if_pos h6]) G (lv_sub hl [0, 2, 3, 4, 5, 6] rfl)
            · refine lv_aload_n hx hb dX10_shift_131 rfl (lv_at hl 2 rfl) ?_
              refine lv_iconst (v := 2) hx hb dX10_shift_132 (by decide) ?_
              refine q_cV (rest := []) E G 17 0 c17 sg_17 (C := RX10) (T := TX10) (N := 21) rfl (k_X10_fails l D cy sz ad n ((f_X10_used S (S.1 18 0 (x1 + (nI i)).toNatClampNeg) x3).2) 2 (by unfold vp_in; decide)) tb_516 tb_518 tp_10 tb_6 tb_519 (nn := 1) (by decide +kernel) ⟨Nat.le_of_ble_eq_true rfl, Nat.le_of_ble_eq_true rfl⟩ rfl hl.1 rfl (Nat.le_of_ble_eq_true rfl) dX10_shift_133 ⟨Nat.zero_le _, Nat.zero_le _⟩ (fun H locs G => ?_)
              exact q_iret E G (by rw [← hF, show x2.toNatClampNeg - i = (x2.toNatClampNeg - (i + 1)) + 1 by omega]; unfold smL; simp only [if_pos h2, if_neg h3, if_pos h5, if_neg h6, pr_eta]) dX10_shift_136
          · refine lv_aload_n hx hb dX10_shift_113 rfl (lv_at hl 2 rfl) ?_
            refine lv_iconst (v := 1) hx hb dX10_shift_114 (by decide) ?_
            refine q_cV (rest := []) E G 17 0 c17 sg_17 (C := RX10) (T := TX10) (N := 21) rfl (k_X10_fails l D cy sz ad n ((f_X10_used S (S.1 18 0 (x1 + (nI i)).toNatClampNeg) x3).2) 1 (by unfold vp_in; decide)) tb_516 tb_518 tp_10 tb_6 tb_519 (nn := 1) (by decide +kernel) ⟨Nat.le_of_ble_eq_true rfl, Nat.le_of_ble_eq_true rfl⟩ rfl hl.1 rfl (Nat.le_of_ble_eq_true rfl) dX10_shift_115 ⟨Nat.zero_le _, Nat.zero_le _⟩ (fun H locs G => ?_)
            exact q_iret E G (by rw [← hF, show x2.toNatClampNeg - i = (x2.toNatClampNeg - (i + 1)) + 1 by omega]; unfold smL; simp only [if_pos h2, if_neg h3, if_neg h5, pr_eta]) dX10_shift_118
        · refine lv_aload_n hx hb dX10_shift_81 rfl (lv_at hl 1 rfl) ?_
          refine lv_iconst (v := 1) hx hb dX10_shift_82 (by decide) ?_
          refine q_cV (rest := []) E G 17 0 c17 sg_17 (C := RX10) (T := TX10) (N := 21) rfl (k_X10_fails l D cy sz ad n S 1 (by unfold vp_in; decide)) tb_516 tb_518 tp_10 tb_6 tb_519 (nn := 1) (by decide +kernel) ⟨Nat.le_of_ble_eq_true rfl, Nat.le_of_ble_eq_true rfl⟩ rfl hl.1 rfl (Nat.le_of_ble_eq_true rfl) dX10_shift_83 ⟨Nat.zero_le _, Nat.zero_le _⟩ (fun H locs G => ?_)
          exact q_iret E G (by rw [← hF, show x2.toNatClampNeg - i = (x2.toNatClampNeg - (i + 1)) + 1 by omega]; unfold smL; simp only [if_pos h2, if_pos h3, pr_eta]) dX10_shift_86
      · refine lv_aload_n hx hb dX10_shift_62 rfl (lv_at hl 1 rfl) ?_
        refine lv_iconst (v := 2) hx hb dX10_shift_63 (by decide) ?_
        refine q_cV (rest := []) E G 17 0 c17 sg_17 (C := RX10) (T := TX10) (N := 21) rfl (k_X10_fails l D cy sz ad n S 2 (by unfold vp_in; decide)) tb_516 tb_518 tp_10 tb_6 tb_519 (nn := 1) (by decide +kernel) ⟨Nat.le_of_ble_eq_true rfl, Nat.le_of_ble_eq_true rfl⟩ rfl hl.1 rfl (Nat.le_of_ble_eq_true rfl) dX10_shift_64 ⟨Nat.zero_le _, Nat.zero_le _⟩ (fun H locs G => ?_)
        exact q_iret E G (by rw [← hF, show x2.toNatClampNeg - i = (x2.toNatClampNeg - (i + 1)) + 1 by omega]; unfold smL; simp only [if_neg h2, pr_eta]) dX10_shift_67

def f_X10_shift (S : SS) (x1 : Int32) (x2 : Int32) (x3 : Int32) (x4 : Int32) : Int32 × SS := if wj x1 0 9 = true then (if wj x4 0 3 = true then (if wj x2 0 9 = true then smL x1 x3 x4 x2 x2.toNatClampNeg 0 S else (f_X10_refuses S (-3))) else (f_X10_refuses S (-2))) else (f_X10_refuses S (-2))
set_option maxHeartbeats 4000000 in
set_option maxRecDepth 100000 in
theorem k_X10_shift (l : Launch) (D : va_G) (cy : Nat → ClassId) (sz : Nat) (ad : Nat → Nat → Nat) (n : Nat) (S : SS) (ok : okM S) (x1 : Int32) (x2 : Int32) (x3 : Int32) (x4 : Int32) : CI l yX10_shift cX10_shift 7 (some .int) 1 23 [.ref (ad 17 0), .int x1, .int x2, .int x3, .int x4] D cy sz ad n S (f_X10_shift S x1 x2 x3 x4) := by
  refine Met.enter (by decide) (Nat.le_of_ble_eq_true rfl) (fun p e s m args below meth c ls E G hl => ?_)
  have E : En p s m args meth c cX10_shift 7 (some .int) RX10 D cy sz := E
  obtain ⟨hx, hb, hrt, hml, hown, hw, hlk, hK, hF, hsz⟩ := id E
  have hl : lv_has ls 7 [(0, .ref (ad 17 0)), (1, .int x1), (2, .int x2), (3, .int x3), (4, .int x4)] := hl
  refine lv_iload_n hx hb dX10_shift_0 rfl (lv_at hl 1 rfl) ?_
  refine lv_iconst (v := 0) hx hb dX10_shift_1 (by decide) ?_
  refine lv_bipush (v := 9) hx hb dX10_shift_2 (by decide) ?_
  by_cases h1 : wj x1 0 9 = true
  · have v2 : vp_in x1 10 := wj_in h1 (by decide) (by decide)
    refine q_cSp E G [] (k_X10_in_t l D cy sz ad n S x1 0 9 h1) tb_489 tb_490 tb_6 tb_491 (nn := 3) (by decide +kernel) ⟨Nat.le_of_ble_eq_true rfl, Nat.le_of_ble_eq_true rfl⟩ rfl hl.1 rfl (Nat.le_of_ble_eq_true rfl) dX10_shift_4 ⟨Nat.zero_le _, Nat.zero_le _⟩ (fun H locs G => ?_)
    refine lv_if_eq (tgt := 20) hx hb dX10_shift_7 (by decide) (fun h => absurd h (by decide)) (fun _ => ?_)
    refine lv_iload hx hb dX10_shift_10 (lv_at hl 4 rfl) ?_
    refine lv_iconst (v := 0) hx hb dX10_shift_12 (by decide) ?_
    refine lv_iconst (v := 3) hx hb dX10_shift_13 (by decide) ?_
    by_cases h3 : wj x4 0 3 = true
    · have v4 : vp_in x4 4 := wj_in h3 (by decide) (by decide)
      refine q_cSp E G [] (k_X10_in_t l D cy sz ad n S x4 0 3 h3) tb_489 tb_490 tb_6 tb_491 (nn := 3) (by decide +kernel) ⟨Nat.le_of_ble_eq_true rfl, Nat.le_of_ble_eq_true rfl⟩ rfl hl.1 rfl (Nat.le_of_ble_eq_true rfl) dX10_shift_14 ⟨Nat.zero_le _, Nat.zero_le _⟩ (fun H locs G => ?_)
      refine lv_if_ne (tgt := 27) hx hb dX10_shift_17 (by decide) (fun _ => ?_) (fun h => absurd h (by decide))
      refine lv_iload_n hx hb dX10_shift_27 rfl (lv_at hl 2 rfl) ?_
      refine lv_iconst (v := 0) hx hb dX10_shift_28 (by decide) ?_
      refine lv_bipush (v := 9) hx hb dX10_shift_29 (by decide) ?_
      by_cases h5 : wj x2 0 9 = true
      · have v6 : vp_in x2 10 := wj_in h5 (by decide) (by decide)
        refine q_cSp E G [] (k_X10_in_t l D cy sz ad n S x2 0 9 h5) tb_489 tb_490 tb_6 tb_491 (nn := 3) (by decide +kernel) ⟨Nat.le_of_ble_eq_true rfl, Nat.le_of_ble_eq_true rfl⟩ rfl hl.1 rfl (Nat.le_of_ble_eq_true rfl) dX10_shift_31 ⟨Nat.zero_le _, Nat.zero_le _⟩ (fun H locs G => ?_)
        refine lv_if_ne (tgt := 44) hx hb dX10_shift_34 (by decide) (fun _ => ?_) (fun h => absurd h (by decide))
        refine lv_iconst (v := 0) hx hb dX10_shift_44 (by decide) ?_
        refine lv_istore (lv' := [(5, .int 0), (0, .ref (ad 17 0)), (1, .int x1), (2, .int x2), (3, .int x3), (4, .int x4)]) hx hb dX10_shift_45 hl (by decide) rfl (fun ls hl => ?_)
        exact lp_X10_shift v2 v6 v4 E (x2.toNatClampNeg + 1) 0 (Nat.zero_le _) (by omega) S _ _ ls ok (by unfold f_X10_shift; simp only [if_pos h1, if_pos h3, if_pos h5]; rfl) G (lv_sub hl [0, 1, 2, 3, 4, 5] rfl)
      · refine q_cSp E G [] (k_X10_in_f l D cy sz ad n S x2 0 9 h5) tb_489 tb_490 tb_6 tb_491 (nn := 3) (by decide +kernel) ⟨Nat.le_of_ble_eq_true rfl, Nat.le_of_ble_eq_true rfl⟩ rfl hl.1 rfl (Nat.le_of_ble_eq_true rfl) dX10_shift_31 ⟨Nat.zero_le _, Nat.zero_le _⟩ (fun H locs G => ?_)
        refine lv_if_ne (tgt := 44) hx hb dX10_shift_34 (by decide) (fun h => absurd h (by decide)) (fun _ => ?_)
        refine lv_aload_n hx hb dX10_shift_37 rfl (lv_at hl 0 rfl) ?_
        refine lv_bipush (v := (-3)) hx hb dX10_shift_38 (by decide) ?_
        refine q_cV (rest := []) E G 17 0 c17 sg_17 (C := RX10) (T := TX10) (N := 21) rfl (k_X10_refuses l D cy sz ad n S (-3)) tb_492 tb_494 tp_8 tb_6 tb_495 (nn := 1) (by decide +kernel) ⟨Nat.le_of_ble_eq_true rfl, Nat.le_of_ble_eq_true rfl⟩ rfl hl.1 rfl (Nat.le_of_ble_eq_true rfl) dX10_shift_40 ⟨Nat.zero_le _, Nat.zero_le _⟩ (fun H locs G => ?_)
        exact q_iret E G (by unfold f_X10_shift; simp only [if_pos h1, if_pos h3, if_neg h5, pr_eta]) dX10_shift_43
    · refine q_cSp E G [] (k_X10_in_f l D cy sz ad n S x4 0 3 h3) tb_489 tb_490 tb_6 tb_491 (nn := 3) (by decide +kernel) ⟨Nat.le_of_ble_eq_true rfl, Nat.le_of_ble_eq_true rfl⟩ rfl hl.1 rfl (Nat.le_of_ble_eq_true rfl) dX10_shift_14 ⟨Nat.zero_le _, Nat.zero_le _⟩ (fun H locs G => ?_)
      refine lv_if_ne (tgt := 27) hx hb dX10_shift_17 (by decide) (fun h => absurd h (by decide)) (fun _ => ?_)
      refine lv_aload_n hx hb dX10_shift_20 rfl (lv_at hl 0 rfl) ?_
      refine lv_bipush (v := (-2)) hx hb dX10_shift_21 (by decide) ?_
      refine q_cV (rest := []) E G 17 0 c17 sg_17 (C := RX10) (T := TX10) (N := 21) rfl (k_X10_refuses l D cy sz ad n S (-2)) tb_492 tb_494 tp_8 tb_6 tb_495 (nn := 1) (by decide +kernel) ⟨Nat.le_of_ble_eq_true rfl, Nat.le_of_ble_eq_true rfl⟩ rfl hl.1 rfl (Nat.le_of_ble_eq_true rfl) dX10_shift_23 ⟨Nat.zero_le _, Nat.zero_le _⟩ (fun H locs G => ?_)
      exact q_iret E G (by unfold f_X10_shift; simp only [if_pos h1, if_neg h3, pr_eta]) dX10_shift_26
  · refine q_cSp E G [] (k_X10_in_f l D cy sz ad n S x1 0 9 h1) tb_489 tb_490 tb_6 tb_491 (nn := 3) (by decide +kernel) ⟨Nat.le_of_ble_eq_true rfl, Nat.le_of_ble_eq_true rfl⟩ rfl hl.1 rfl (Nat.le_of_ble_eq_true rfl) dX10_shift_4 ⟨Nat.zero_le _, Nat.zero_le _⟩ (fun H locs G => ?_)
    refine lv_if_eq (tgt := 20) hx hb dX10_shift_7 (by decide) (fun _ => ?_) (fun h => absurd h (by decide))
    refine lv_aload_n hx hb dX10_shift_20 rfl (lv_at hl 0 rfl) ?_
    refine lv_bipush (v := (-2)) hx hb dX10_shift_21 (by decide) ?_
    refine q_cV (rest := []) E G 17 0 c17 sg_17 (C := RX10) (T := TX10) (N := 21) rfl (k_X10_refuses l D cy sz ad n S (-2)) tb_492 tb_494 tp_8 tb_6 tb_495 (nn := 1) (by decide +kernel) ⟨Nat.le_of_ble_eq_true rfl, Nat.le_of_ble_eq_true rfl⟩ rfl hl.1 rfl (Nat.le_of_ble_eq_true rfl) dX10_shift_23 ⟨Nat.zero_le _, Nat.zero_le _⟩ (fun H locs G => ?_)
    exact q_iret E G (by unfold f_X10_shift; simp only [if_neg h1, pr_eta]) dX10_shift_26
