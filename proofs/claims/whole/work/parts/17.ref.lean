theorem okM_w {S : SS} (ok : okM S) {v : Int32} : okM (uI S 17 0 17 v) := by
  obtain ⟨a, b, c, d, e, f, g⟩ := ok
  refine ⟨fun j h => ?_, fun j h => ?_, ?_, fun j h => ?_, fun j h => ?_, fun j h => ?_, fun j h => ?_⟩
  · rw [uI_nf (by decide)]; exact a j h
  · rw [uI_nf (by decide)]; exact b j h
  · rw [uI_nk (by decide)]; exact c
  · rw [uI_nf (by decide)]; exact d j h
  · rw [uI_nf (by decide)]; exact e j h
  · rw [uI_nf (by decide)]; exact f j h
  · rw [uI_nf (by decide)]; exact g j h

def f_X10_tool (S : SS) (x1 : Int32) (x2 : Int32) : Int32 × SS := if wj x1 0 9 = true then (if wj x2 0 3 = true then (if (S.1 18 0 x1.toNatClampNeg) = (-1) then (f_X10_says (uI (uI (uI (uI (uI (uI S 18 2 (S.1 17 0 1).toNatClampNeg x2) 18 3 (S.1 17 0 1).toNatClampNeg 0) 18 4 (S.1 17 0 1).toNatClampNeg 100) 18 5 (S.1 17 0 1).toNatClampNeg 0) 18 0 x1.toNatClampNeg (S.1 17 0 1)) 17 0 1 ((S.1 17 0 1) + 1)) 0) else (f_X10_says (uI (uI (uI (uI (uI (uI S 18 2 (S.1 17 0 1).toNatClampNeg x2) 18 3 (S.1 17 0 1).toNatClampNeg 0) 18 4 (S.1 17 0 1).toNatClampNeg 100) 18 5 (S.1 17 0 1).toNatClampNeg 0) 18 0 x1.toNatClampNeg (S.1 17 0 1)) 17 0 1 ((S.1 17 0 1) + 1)) 1)) else (f_X10_refuses S (-3))) else (f_X10_refuses S (-2))
set_option maxHeartbeats 4000000 in
set_option maxRecDepth 100000 in
theorem k_X10_tool (l : Launch) (D : va_G) (cy : Nat → ClassId) (sz : Nat) (ad : Nat → Nat → Nat) (n : Nat) (S : SS) (ok : okM S) (x1 : Int32) (x2 : Int32) : CI l yX10_tool cX10_tool 4 (some .int) 1 22 [.ref (ad 17 0), .int x1, .int x2] D cy sz ad n S (f_X10_tool S x1 x2) := by
  refine Met.enter (by decide) (Nat.le_of_ble_eq_true rfl) (fun p e s m args below meth c ls E G hl => ?_)
  have E : En p s m args meth c cX10_tool 4 (some .int) RX10 D cy sz := E
  obtain ⟨hx, hb, hrt, hml, hown, hw, hlk, hK, hF, hsz⟩ := id E
  have hl : lv_has ls 4 [(0, .ref (ad 17 0)), (1, .int x1), (2, .int x2)] := hl
  refine lv_iload_n hx hb dX10_tool_0 rfl (lv_at hl 1 rfl) ?_
  refine lv_iconst (v := 0) hx hb dX10_tool_1 (by decide) ?_
  refine lv_bipush (v := 9) hx hb dX10_tool_2 (by decide) ?_
  by_cases h1 : wj x1 0 9 = true
  · have v2 : vp_in x1 10 := wj_in h1 (by decide) (by decide)
    refine q_cSp E G [] (k_X10_in_t l D cy sz ad n S x1 0 9 h1) tb_489 tb_490 tb_6 tb_491 (nn := 3) (by decide +kernel) ⟨Nat.le_of_ble_eq_true rfl, Nat.le_of_ble_eq_true rfl⟩ rfl hl.1 rfl (Nat.le_of_ble_eq_true rfl) dX10_tool_4 ⟨Nat.zero_le _, Nat.zero_le _⟩ (fun H locs G => ?_)
    refine lv_if_ne (tgt := 17) hx hb dX10_tool_7 (by decide) (fun _ => ?_) (fun h => absurd h (by decide))
    refine lv_iload_n hx hb dX10_tool_17 rfl (lv_at hl 2 rfl) ?_
    refine lv_iconst (v := 0) hx hb dX10_tool_18 (by decide) ?_
    refine lv_iconst (v := 3) hx hb dX10_tool_19 (by decide) ?_
    by_cases h3 : wj x2 0 3 = true
    · have v4 : vp_in x2 4 := wj_in h3 (by decide) (by decide)
      refine q_cSp E G [] (k_X10_in_t l D cy sz ad n S x2 0 3 h3) tb_489 tb_490 tb_6 tb_491 (nn := 3) (by decide +kernel) ⟨Nat.le_of_ble_eq_true rfl, Nat.le_of_ble_eq_true rfl⟩ rfl hl.1 rfl (Nat.le_of_ble_eq_true rfl) dX10_tool_20 ⟨Nat.zero_le _, Nat.zero_le _⟩ (fun H locs G => ?_)
      refine lv_if_ne (tgt := 33) hx hb dX10_tool_23 (by decide) (fun _ => ?_) (fun h => absurd h (by decide))
      refine lv_aload_n hx hb dX10_tool_33 rfl (lv_at hl 0 rfl) ?_
      refine q_get (index := 7) (ref := "ToolRoomModel") E G inX10 17 0 c17 sg_17 rfl 0 (by decide) tb_421 (Or.inl rfl) rfl dX10_tool_34 ?_
      refine lv_iload_n hx hb dX10_tool_37 rfl (lv_at hl 1 rfl) ?_
      refine q_iald E G 18 0 (c18 0 (by decide)) sa_18_0 v2 dX10_tool_38 ?_
      refine lv_iconst (v := (-1)) hx hb dX10_tool_39 (by decide) ?_
      refine lv_icmp_ne (tgt := 47) hx hb dX10_tool_40 (by decide) (fun h5 => ?_) (fun h5 => ?_)
      · have v6 : vp_in (S.1 18 0 x1.toNatClampNeg) 600 := (ok.1 _ (vp_lt v2)).resolve_left h5
        refine lv_iconst (v := 1) hx hb dX10_tool_47 (by decide) ?_
        refine lv_istore_n (lv' := [(3, .int 1), (0, .ref (ad 17 0)), (1, .int x1), (2, .int x2)]) hx hb dX10_tool_48 rfl hl (by decide) rfl (fun ls hl => ?_)
        refine lv_aload_n hx hb dX10_tool_49 rfl (lv_at hl 1 rfl) ?_
        refine q_get (index := 13) (ref := "ToolRoomModel") E G inX10 17 0 c17 sg_17 rfl 2 (by decide) tb_423 (Or.inl rfl) rfl dX10_tool_50 ?_
        refine lv_aload_n hx hb dX10_tool_53 rfl (lv_at hl 1 rfl) ?_
        refine q_get (index := 77) (ref := "ToolRoomModel") E G inX10 17 0 c17 sg_17 rfl 1 (by decide) tb_422 (Or.inl rfl) rfl dX10_tool_54 ?_
        refine lv_iload_n hx hb dX10_tool_57 rfl (lv_at hl 3 rfl) ?_
        refine q_iast E G 18 2 (c18 2 (by decide)) (fun _ => sa_18_2) ok.2.2.1 dX10_tool_58 (fun H locs G => ?_)
        refine lv_aload_n hx hb dX10_tool_59 rfl (lv_at hl 1 rfl) ?_
        refine q_get (index := 16) (ref := "ToolRoomModel") E G inX10 17 0 c17 sg_17 rfl 3 (by decide) tb_424 (Or.inl rfl) rfl dX10_tool_60 ?_
        refine lv_aload_n hx hb dX10_tool_63 rfl (lv_at hl 1 rfl) ?_
        refine q_get (index := 77) (ref := "ToolRoomModel") E G inX10 17 0 c17 sg_17 rfl 1 (by decide) tb_422 (Or.inl rfl) rfl dX10_tool_64 ?_
        rw [uI_nf (by decide)]
        refine lv_iconst (v := 0) hx hb dX10_tool_67 (by decide) ?_
        refine q_iast E G 18 3 (c18 3 (by decide)) (fun _ => sa_18_3) ok.2.2.1 dX10_tool_68 (fun H locs G => ?_)
        refine lv_aload_n hx hb dX10_tool_69 rfl (lv_at hl 1 rfl) ?_
        refine q_get (index := 19) (ref := "ToolRoomModel") E G inX10 17 0 c17 sg_17 rfl 4 (by decide) tb_425 (Or.inl rfl) rfl dX10_tool_70 ?_
        refine lv_aload_n hx hb dX10_tool_73 rfl (lv_at hl 1 rfl) ?_
        refine q_get (index := 77) (ref := "ToolRoomModel") E G inX10 17 0 c17 sg_17 rfl 1 (by decide) tb_422 (Or.inl rfl) rfl dX10_tool_74 ?_
        rw [uI_nf (by decide), uI_nf (by decide)]
        refine lv_bipush (v := 100) hx hb dX10_tool_77 (by decide) ?_
        refine q_iast E G 18 4 (c18 4 (by decide)) (fun _ => sa_18_4) ok.2.2.1 dX10_tool_79 (fun H locs G => ?_)
        refine lv_aload_n hx hb dX10_tool_80 rfl (lv_at hl 1 rfl) ?_
        refine q_get (index := 22) (ref := "ToolRoomModel") E G inX10 17 0 c17 sg_17 rfl 5 (by decide) tb_426 (Or.inl rfl) rfl dX10_tool_81 ?_
        refine lv_aload_n hx hb dX10_tool_84 rfl (lv_at hl 1 rfl) ?_
        refine q_get (index := 77) (ref := "ToolRoomModel") E G inX10 17 0 c17 sg_17 rfl 1 (by decide) tb_422 (Or.inl rfl) rfl dX10_tool_85 ?_
        rw [uI_nf (by decide), uI_nf (by decide), uI_nf (by decide)]
        refine lv_iconst (v := 0) hx hb dX10_tool_88 (by decide) ?_
        refine q_zast E G 18 5 (c18 5 (by decide)) (fun _ => sa_18_5) ok.2.2.1 (by decide) dX10_tool_89 (fun H locs G => ?_)
        refine lv_aload_n hx hb dX10_tool_90 rfl (lv_at hl 1 rfl) ?_
        refine q_get (index := 7) (ref := "ToolRoomModel") E G inX10 17 0 c17 sg_17 rfl 0 (by decide) tb_421 (Or.inl rfl) rfl dX10_tool_91 ?_
        refine lv_iload_n hx hb dX10_tool_94 rfl (lv_at hl 2 rfl) ?_
        refine lv_aload_n hx hb dX10_tool_95 rfl (lv_at hl 1 rfl) ?_
        refine q_get (index := 77) (ref := "ToolRoomModel") E G inX10 17 0 c17 sg_17 rfl 1 (by decide) tb_422 (Or.inl rfl) rfl dX10_tool_96 ?_
        rw [uI_nf (by decide), uI_nf (by decide), uI_nf (by decide), uI_nf (by decide)]
        refine q_iast E G 18 0 (c18 0 (by decide)) (fun _ => sa_18_0) v2 dX10_tool_99 (fun H locs G => ?_)
        refine lv_aload_n hx hb dX10_tool_100 rfl (lv_at hl 1 rfl) ?_
        refine lv_dup hx hb dX10_tool_101 rfl ?_
        refine q_get (index := 77) (ref := "ToolRoomModel") E G inX10 17 0 c17 sg_17 rfl 1 (by decide) tb_422 (Or.inl rfl) rfl dX10_tool_102 ?_
        rw [uI_nf (by decide), uI_nf (by decide), uI_nf (by decide), uI_nf (by decide), uI_nf (by decide)]
        refine lv_iconst (v := 1) hx hb dX10_tool_105 (by decide) ?_
        refine lv_iadd hx hb dX10_tool_106 ?_
        refine q_put (index := 77) (ref := "ToolRoomModel") E G inX10 tyX10 tyX10_ok nmX10 17 0 c17 1 sg_17 rfl 1 (by decide) tb_422 (Or.inl rfl) rfl (ty := .int) (by decide +kernel) rfl rfl (Nat.le_of_ble_eq_true rfl) sp_17_1 dX10_tool_107 (fun H locs G => ?_)
        refine lv_aload_n hx hb dX10_tool_110 rfl (lv_at hl 1 rfl) ?_
        refine lv_iload_n hx hb dX10_tool_111 rfl (lv_at hl 0 rfl) ?_
        refine q_cV (rest := []) E G 17 0 c17 sg_17 (C := RX10) (T := TX10) (N := 21) rfl (k_X10_says l D cy sz ad n (uI (uI (uI (uI (uI (uI S 18 2 (S.1 17 0 1).toNatClampNeg x2) 18 3 (S.1 17 0 1).toNatClampNeg 0) 18 4 (S.1 17 0 1).toNatClampNeg 100) 18 5 (S.1 17 0 1).toNatClampNeg 0) 18 0 x1.toNatClampNeg (S.1 17 0 1)) 17 0 1 ((S.1 17 0 1) + 1)) 1) tb_496 tb_498 tp_9 tb_6 tb_499 (nn := 1) (by decide +kernel) ⟨Nat.le_of_ble_eq_true rfl, Nat.le_of_ble_eq_true rfl⟩ rfl hl.1 rfl (Nat.le_of_ble_eq_true rfl) dX10_tool_112 ⟨Nat.zero_le _, Nat.zero_le _⟩ (fun H locs G => ?_)
        exact q_iret E G (by unfold f_X10_tool; simp only [if_pos h1, if_pos h3, if_neg h5, pr_eta]) dX10_tool_115
      · refine lv_iconst (v := 0) hx hb dX10_tool_43 (by decide) ?_
        refine lv_goto (tgt := 48) hx hb dX10_tool_44 (by decide) ?_
        refine lv_istore_n (lv' := [(3, .int 0), (0, .ref (ad 17 0)), (1, .int x1), (2, .int x2)]) hx hb dX10_tool_48 rfl hl (by decide) rfl (fun ls hl => ?_)
        refine lv_aload_n hx hb dX10_tool_49 rfl (lv_at hl 1 rfl) ?_
        refine q_get (index := 13) (ref := "ToolRoomModel") E G inX10 17 0 c17 sg_17 rfl 2 (by decide) tb_423 (Or.inl rfl) rfl dX10_tool_50 ?_
        refine lv_aload_n hx hb dX10_tool_53 rfl (lv_at hl 1 rfl) ?_
        refine q_get (index := 77) (ref := "ToolRoomModel") E G inX10 17 0 c17 sg_17 rfl 1 (by decide) tb_422 (Or.inl rfl) rfl dX10_tool_54 ?_
        refine lv_iload_n hx hb dX10_tool_57 rfl (lv_at hl 3 rfl) ?_
        refine q_iast E G 18 2 (c18 2 (by decide)) (fun _ => sa_18_2) ok.2.2.1 dX10_tool_58 (fun H locs G => ?_)
        refine lv_aload_n hx hb dX10_tool_59 rfl (lv_at hl 1 rfl) ?_
        refine q_get (index := 16) (ref := "ToolRoomModel") E G inX10 17 0 c17 sg_17 rfl 3 (by decide) tb_424 (Or.inl rfl) rfl dX10_tool_60 ?_
        refine lv_aload_n hx hb dX10_tool_63 rfl (lv_at hl 1 rfl) ?_
        refine q_get (index := 77) (ref := "ToolRoomModel") E G inX10 17 0 c17 sg_17 rfl 1 (by decide) tb_422 (Or.inl rfl) rfl dX10_tool_64 ?_
        rw [uI_nf (by decide)]
        refine lv_iconst (v := 0) hx hb dX10_tool_67 (by decide) ?_
        refine q_iast E G 18 3 (c18 3 (by decide)) (fun _ => sa_18_3) ok.2.2.1 dX10_tool_68 (fun H locs G => ?_)
        refine lv_aload_n hx hb dX10_tool_69 rfl (lv_at hl 1 rfl) ?_
        refine q_get (index := 19) (ref := "ToolRoomModel") E G inX10 17 0 c17 sg_17 rfl 4 (by decide) tb_425 (Or.inl rfl) rfl dX10_tool_70 ?_
        refine lv_aload_n hx hb dX10_tool_73 rfl (lv_at hl 1 rfl) ?_
        refine q_get (index := 77) (ref := "ToolRoomModel") E G inX10 17 0 c17 sg_17 rfl 1 (by decide) tb_422 (Or.inl rfl) rfl dX10_tool_74 ?_
        rw [uI_nf (by decide), uI_nf (by decide)]
        refine lv_bipush (v := 100) hx hb dX10_tool_77 (by decide) ?_
        refine q_iast E G 18 4 (c18 4 (by decide)) (fun _ => sa_18_4) ok.2.2.1 dX10_tool_79 (fun H locs G => ?_)
        refine lv_aload_n hx hb dX10_tool_80 rfl (lv_at hl 1 rfl) ?_
        refine q_get (index := 22) (ref := "ToolRoomModel") E G inX10 17 0 c17 sg_17 rfl 5 (by decide) tb_426 (Or.inl rfl) rfl dX10_tool_81 ?_
        refine lv_aload_n hx hb dX10_tool_84 rfl (lv_at hl 1 rfl) ?_
        refine q_get (index := 77) (ref := "ToolRoomModel") E G inX10 17 0 c17 sg_17 rfl 1 (by decide) tb_422 (Or.inl rfl) rfl dX10_tool_85 ?_
        rw [uI_nf (by decide), uI_nf (by decide), uI_nf (by decide)]
        refine lv_iconst (v := 0) hx hb dX10_tool_88 (by decide) ?_
        refine q_zast E G 18 5 (c18 5 (by decide)) (fun _ => sa_18_5) ok.2.2.1 (by decide) dX10_tool_89 (fun H locs G => ?_)
        refine lv_aload_n hx hb dX10_tool_90 rfl (lv_at hl 1 rfl) ?_
        refine q_get (index := 7) (ref := "ToolRoomModel") E G inX10 17 0 c17 sg_17 rfl 0 (by decide) tb_421 (Or.inl rfl) rfl dX10_tool_91 ?_
        refine lv_iload_n hx hb dX10_tool_94 rfl (lv_at hl 2 rfl) ?_
        refine lv_aload_n hx hb dX10_tool_95 rfl (lv_at hl 1 rfl) ?_
        refine q_get (index := 77) (ref := "ToolRoomModel") E G inX10 17 0 c17 sg_17 rfl 1 (by decide) tb_422 (Or.inl rfl) rfl dX10_tool_96 ?_
        rw [uI_nf (by decide), uI_nf (by decide), uI_nf (by decide), uI_nf (by decide)]
        refine q_iast E G 18 0 (c18 0 (by decide)) (fun _ => sa_18_0) v2 dX10_tool_99 (fun H locs G => ?_)
        refine lv_aload_n hx hb dX10_tool_100 rfl (lv_at hl 1 rfl) ?_
        refine lv_dup hx hb dX10_tool_101 rfl ?_
        refine q_get (index := 77) (ref := "ToolRoomModel") E G inX10 17 0 c17 sg_17 rfl 1 (by decide) tb_422 (Or.inl rfl) rfl dX10_tool_102 ?_
        rw [uI_nf (by decide), uI_nf (by decide), uI_nf (by decide), uI_nf (by decide), uI_nf (by decide)]
        refine lv_iconst (v := 1) hx hb dX10_tool_105 (by decide) ?_
        refine lv_iadd hx hb dX10_tool_106 ?_
        refine q_put (index := 77) (ref := "ToolRoomModel") E G inX10 tyX10 tyX10_ok nmX10 17 0 c17 1 sg_17 rfl 1 (by decide) tb_422 (Or.inl rfl) rfl (ty := .int) (by decide +kernel) rfl rfl (Nat.le_of_ble_eq_true rfl) sp_17_1 dX10_tool_107 (fun H locs G => ?_)
        refine lv_aload_n hx hb dX10_tool_110 rfl (lv_at hl 1 rfl) ?_
        refine lv_iload_n hx hb dX10_tool_111 rfl (lv_at hl 0 rfl) ?_
        refine q_cV (rest := []) E G 17 0 c17 sg_17 (C := RX10) (T := TX10) (N := 21) rfl (k_X10_says l D cy sz ad n (uI (uI (uI (uI (uI (uI S 18 2 (S.1 17 0 1).toNatClampNeg x2) 18 3 (S.1 17 0 1).toNatClampNeg 0) 18 4 (S.1 17 0 1).toNatClampNeg 100) 18 5 (S.1 17 0 1).toNatClampNeg 0) 18 0 x1.toNatClampNeg (S.1 17 0 1)) 17 0 1 ((S.1 17 0 1) + 1)) 0) tb_496 tb_498 tp_9 tb_6 tb_499 (nn := 1) (by decide +kernel) ⟨Nat.le_of_ble_eq_true rfl, Nat.le_of_ble_eq_true rfl⟩ rfl hl.1 rfl (Nat.le_of_ble_eq_true rfl) dX10_tool_112 ⟨Nat.zero_le _, Nat.zero_le _⟩ (fun H locs G => ?_)
        exact q_iret E G (by unfold f_X10_tool; simp only [if_pos h1, if_pos h3, if_pos h5, pr_eta]) dX10_tool_115
    · refine q_cSp E G [] (k_X10_in_f l D cy sz ad n S x2 0 3 h3) tb_489 tb_490 tb_6 tb_491 (nn := 3) (by decide +kernel) ⟨Nat.le_of_ble_eq_true rfl, Nat.le_of_ble_eq_true rfl⟩ rfl hl.1 rfl (Nat.le_of_ble_eq_true rfl) dX10_tool_20 ⟨Nat.zero_le _, Nat.zero_le _⟩ (fun H locs G => ?_)
      refine lv_if_ne (tgt := 33) hx hb dX10_tool_23 (by decide) (fun h => absurd h (by decide)) (fun _ => ?_)
      refine lv_aload_n hx hb dX10_tool_26 rfl (lv_at hl 0 rfl) ?_
      refine lv_bipush (v := (-3)) hx hb dX10_tool_27 (by decide) ?_
      refine q_cV (rest := []) E G 17 0 c17 sg_17 (C := RX10) (T := TX10) (N := 21) rfl (k_X10_refuses l D cy sz ad n S (-3)) tb_492 tb_494 tp_8 tb_6 tb_495 (nn := 1) (by decide +kernel) ⟨Nat.le_of_ble_eq_true rfl, Nat.le_of_ble_eq_true rfl⟩ rfl hl.1 rfl (Nat.le_of_ble_eq_true rfl) dX10_tool_29 ⟨Nat.zero_le _, Nat.zero_le _⟩ (fun H locs G => ?_)
      exact q_iret E G (by unfold f_X10_tool; simp only [if_pos h1, if_neg h3, pr_eta]) dX10_tool_32
  · refine q_cSp E G [] (k_X10_in_f l D cy sz ad n S x1 0 9 h1) tb_489 tb_490 tb_6 tb_491 (nn := 3) (by decide +kernel) ⟨Nat.le_of_ble_eq_true rfl, Nat.le_of_ble_eq_true rfl⟩ rfl hl.1 rfl (Nat.le_of_ble_eq_true rfl) dX10_tool_4 ⟨Nat.zero_le _, Nat.zero_le _⟩ (fun H locs G => ?_)
    refine lv_if_ne (tgt := 17) hx hb dX10_tool_7 (by decide) (fun h => absurd h (by decide)) (fun _ => ?_)
    refine lv_aload_n hx hb dX10_tool_10 rfl (lv_at hl 0 rfl) ?_
    refine lv_bipush (v := (-2)) hx hb dX10_tool_11 (by decide) ?_
    refine q_cV (rest := []) E G 17 0 c17 sg_17 (C := RX10) (T := TX10) (N := 21) rfl (k_X10_refuses l D cy sz ad n S (-2)) tb_492 tb_494 tp_8 tb_6 tb_495 (nn := 1) (by decide +kernel) ⟨Nat.le_of_ble_eq_true rfl, Nat.le_of_ble_eq_true rfl⟩ rfl hl.1 rfl (Nat.le_of_ble_eq_true rfl) dX10_tool_13 ⟨Nat.zero_le _, Nat.zero_le _⟩ (fun H locs G => ?_)
    exact q_iret E G (by unfold f_X10_tool; simp only [if_neg h1, pr_eta]) dX10_tool_16

def f_X10_hang (S : SS) (x1 : Int32) (x2 : Int32) : Int32 × SS := if wj x1 0 9 = true then (if wj x2 0 9 = true then (if (S.1 18 0 x2.toNatClampNeg) = (-1) then (f_X10_says (uI S 18 0 x1.toNatClampNeg (S.1 18 0 x2.toNatClampNeg)) 0) else (f_X10_says (uI S 18 0 x1.toNatClampNeg (S.1 18 0 x2.toNatClampNeg)) 1)) else (f_X10_refuses S (-2))) else (f_X10_refuses S (-2))
set_option maxHeartbeats 4000000 in
set_option maxRecDepth 100000 in
theorem k_X10_hang (l : Launch) (D : va_G) (cy : Nat → ClassId) (sz : Nat) (ad : Nat → Nat → Nat) (n : Nat) (S : SS) (ok : okM S) (x1 : Int32) (x2 : Int32) : CI l yX10_hang cX10_hang 3 (some .int) 1 22 [.ref (ad 17 0), .int x1, .int x2] D cy sz ad n S (f_X10_hang S x1 x2) := by
  refine Met.enter (by decide) (Nat.le_of_ble_eq_true rfl) (fun p e s m args below meth c ls E G hl => ?_)
  have E : En p s m args meth c cX10_hang 3 (some .int) RX10 D cy sz := E
  obtain ⟨hx, hb, hrt, hml, hown, hw, hlk, hK, hF, hsz⟩ := id E
  have hl : lv_has ls 3 [(0, .ref (ad 17 0)), (1, .int x1), (2, .int x2)] := hl
  refine lv_iload_n hx hb dX10_hang_0 rfl (lv_at hl 1 rfl) ?_
  refine lv_iconst (v := 0) hx hb dX10_hang_1 (by decide) ?_
  refine lv_bipush (v := 9) hx hb dX10_hang_2 (by decide) ?_
  by_cases h1 : wj x1 0 9 = true
  · have v2 : vp_in x1 10 := wj_in h1 (by decide) (by decide)
    refine q_cSp E G [] (k_X10_in_t l D cy sz ad n S x1 0 9 h1) tb_489 tb_490 tb_6 tb_491 (nn := 3) (by decide +kernel) ⟨Nat.le_of_ble_eq_true rfl, Nat.le_of_ble_eq_true rfl⟩ rfl hl.1 rfl (Nat.le_of_ble_eq_true rfl) dX10_hang_4 ⟨Nat.zero_le _, Nat.zero_le _⟩ (fun H locs G => ?_)
    refine lv_if_eq (tgt := 20) hx hb dX10_hang_7 (by decide) (fun h => absurd h (by decide)) (fun _ => ?_)
    refine lv_iload_n hx hb dX10_hang_10 rfl (lv_at hl 2 rfl) ?_
    refine lv_iconst (v := 0) hx hb dX10_hang_11 (by decide) ?_
    refine lv_bipush (v := 9) hx hb dX10_hang_12 (by decide) ?_
    by_cases h3 : wj x2 0 9 = true
    · have v4 : vp_in x2 10 := wj_in h3 (by decide) (by decide)
      refine q_cSp E G [] (k_X10_in_t l D cy sz ad n S x2 0 9 h3) tb_489 tb_490 tb_6 tb_491 (nn := 3) (by decide +kernel) ⟨Nat.le_of_ble_eq_true rfl, Nat.le_of_ble_eq_true rfl⟩ rfl hl.1 rfl (Nat.le_of_ble_eq_true rfl) dX10_hang_14 ⟨Nat.zero_le _, Nat.zero_le _⟩ (fun H locs G => ?_)
      refine lv_if_ne (tgt := 27) hx hb dX10_hang_17 (by decide) (fun _ => ?_) (fun h => absurd h (by decide))
      refine lv_aload_n hx hb dX10_hang_27 rfl (lv_at hl 0 rfl) ?_
      refine q_get (index := 7) (ref := "ToolRoomModel") E G inX10 17 0 c17 sg_17 rfl 0 (by decide) tb_421 (Or.inl rfl) rfl dX10_hang_28 ?_
      refine lv_iload_n hx hb dX10_hang_31 rfl (lv_at hl 1 rfl) ?_
      refine lv_aload_n hx hb dX10_hang_32 rfl (lv_at hl 0 rfl) ?_
      refine q_get (index := 7) (ref := "ToolRoomModel") E G inX10 17 0 c17 sg_17 rfl 0 (by decide) tb_421 (Or.inl rfl) rfl dX10_hang_33 ?_
      refine lv_iload_n hx hb dX10_hang_36 rfl (lv_at hl 2 rfl) ?_
      refine q_iald E G 18 0 (c18 0 (by decide)) sa_18_0 v4 dX10_hang_37 ?_
      refine q_iast E G 18 0 (c18 0 (by decide)) (fun _ => sa_18_0) v2 dX10_hang_38 (fun H locs G => ?_)
      refine lv_aload_n hx hb dX10_hang_39 rfl (lv_at hl 0 rfl) ?_
      refine lv_aload_n hx hb dX10_hang_40 rfl (lv_at hl 0 rfl) ?_
      refine q_get (index := 7) (ref := "ToolRoomModel") E G inX10 17 0 c17 sg_17 rfl 0 (by decide) tb_421 (Or.inl rfl) rfl dX10_hang_41 ?_
      refine lv_iload_n hx hb dX10_hang_44 rfl (lv_at hl 1 rfl) ?_
      refine q_iald E G 18 0 (c18 0 (by decide)) sa_18_0 v2 dX10_hang_45 ?_
      rw [uI_self]
      refine lv_iconst (v := (-1)) hx hb dX10_hang_46 (by decide) ?_
      refine lv_icmp_ne (tgt := 54) hx hb dX10_hang_47 (by decide) (fun h5 => ?_) (fun h5 => ?_)
      · have v6 : vp_in (S.1 18 0 x2.toNatClampNeg) 600 := (ok.1 _ (vp_lt v4)).resolve_left h5
        refine lv_iconst (v := 1) hx hb dX10_hang_54 (by decide) ?_
        refine q_cV (rest := []) E G 17 0 c17 sg_17 (C := RX10) (T := TX10) (N := 21) rfl (k_X10_says l D cy sz ad n (uI S 18 0 x1.toNatClampNeg (S.1 18 0 x2.toNatClampNeg)) 1) tb_496 tb_498 tp_9 tb_6 tb_499 (nn := 1) (by decide +kernel) ⟨Nat.le_of_ble_eq_true rfl, Nat.le_of_ble_eq_true rfl⟩ rfl hl.1 rfl (Nat.le_of_ble_eq_true rfl) dX10_hang_55 ⟨Nat.zero_le _, Nat.zero_le _⟩ (fun H locs G => ?_)
        exact q_iret E G (by unfold f_X10_hang; simp only [if_pos h1, if_pos h3, if_neg h5, pr_eta]) dX10_hang_58
      · refine lv_iconst (v := 0) hx hb dX10_hang_50 (by decide) ?_
        refine lv_goto (tgt := 55) hx hb dX10_hang_51 (by decide) ?_
        refine q_cV (rest := []) E G 17 0 c17 sg_17 (C := RX10) (T := TX10) (N := 21) rfl (k_X10_says l D cy sz ad n (uI S 18 0 x1.toNatClampNeg (S.1 18 0 x2.toNatClampNeg)) 0) tb_496 tb_498 tp_9 tb_6 tb_499 (nn := 1) (by decide +kernel) ⟨Nat.le_of_ble_eq_true rfl, Nat.le_of_ble_eq_true rfl⟩ rfl hl.1 rfl (Nat.le_of_ble_eq_true rfl) dX10_hang_55 ⟨Nat.zero_le _, Nat.zero_le _⟩ (fun H locs G => ?_)
        exact q_iret E G (by unfold f_X10_hang; simp only [if_pos h1, if_pos h3, if_pos h5, pr_eta]) dX10_hang_58
    · refine q_cSp E G [] (k_X10_in_f l D cy sz ad n S x2 0 9 h3) tb_489 tb_490 tb_6 tb_491 (nn := 3) (by decide +kernel) ⟨Nat.le_of_ble_eq_true rfl, Nat.le_of_ble_eq_true rfl⟩ rfl hl.1 rfl (Nat.le_of_ble_eq_true rfl) dX10_hang_14 ⟨Nat.zero_le _, Nat.zero_le _⟩ (fun H locs G => ?_)
      refine lv_if_ne (tgt := 27) hx hb dX10_hang_17 (by decide) (fun h => absurd h (by decide)) (fun _ => ?_)
      refine lv_aload_n hx hb dX10_hang_20 rfl (lv_at hl 0 rfl) ?_
      refine lv_bipush (v := (-2)) hx hb dX10_hang_21 (by decide) ?_
      refine q_cV (rest := []) E G 17 0 c17 sg_17 (C := RX10) (T := TX10) (N := 21) rfl (k_X10_refuses l D cy sz ad n S (-2)) tb_492 tb_494 tp_8 tb_6 tb_495 (nn := 1) (by decide +kernel) ⟨Nat.le_of_ble_eq_true rfl, Nat.le_of_ble_eq_true rfl⟩ rfl hl.1 rfl (Nat.le_of_ble_eq_true rfl) dX10_hang_23 ⟨Nat.zero_le _, Nat.zero_le _⟩ (fun H locs G => ?_)
      exact q_iret E G (by unfold f_X10_hang; simp only [if_pos h1, if_neg h3, pr_eta]) dX10_hang_26
  · refine q_cSp E G [] (k_X10_in_f l D cy sz ad n S x1 0 9 h1) tb_489 tb_490 tb_6 tb_491 (nn := 3) (by decide +kernel) ⟨Nat.le_of_ble_eq_true rfl, Nat.le_of_ble_eq_true rfl⟩ rfl hl.1 rfl (Nat.le_of_ble_eq_true rfl) dX10_hang_4 ⟨Nat.zero_le _, Nat.zero_le _⟩ (fun H locs G => ?_)
    refine lv_if_eq (tgt := 20) hx hb dX10_hang_7 (by decide) (fun _ => ?_) (fun h => absurd h (by decide))
    refine lv_aload_n hx hb dX10_hang_20 rfl (lv_at hl 0 rfl) ?_
    refine lv_bipush (v := (-2)) hx hb dX10_hang_21 (by decide) ?_
    refine q_cV (rest := []) E G 17 0 c17 sg_17 (C := RX10) (T := TX10) (N := 21) rfl (k_X10_refuses l D cy sz ad n S (-2)) tb_492 tb_494 tp_8 tb_6 tb_495 (nn := 1) (by decide +kernel) ⟨Nat.le_of_ble_eq_true rfl, Nat.le_of_ble_eq_true rfl⟩ rfl hl.1 rfl (Nat.le_of_ble_eq_true rfl) dX10_hang_23 ⟨Nat.zero_le _, Nat.zero_le _⟩ (fun H locs G => ?_)
    exact q_iret E G (by unfold f_X10_hang; simp only [if_neg h1, pr_eta]) dX10_hang_26

def f_X10_unhang (S : SS) (x1 : Int32) : Int32 × SS := if wj x1 0 9 = true then (if (S.1 18 0 x1.toNatClampNeg) = (-1) then (f_X10_says (uI S 18 0 x1.toNatClampNeg (-1)) 0) else (f_X10_says (uI S 18 0 x1.toNatClampNeg (-1)) 1)) else (f_X10_refuses S (-2))
set_option maxHeartbeats 4000000 in
set_option maxRecDepth 100000 in
theorem k_X10_unhang (l : Launch) (D : va_G) (cy : Nat → ClassId) (sz : Nat) (ad : Nat → Nat → Nat) (n : Nat) (S : SS) (ok : okM S) (x1 : Int32) : CI l yX10_unhang cX10_unhang 3 (some .int) 1 22 [.ref (ad 17 0), .int x1] D cy sz ad n S (f_X10_unhang S x1) := by
  refine Met.enter (by decide) (Nat.le_of_ble_eq_true rfl) (fun p e s m args below meth c ls E G hl => ?_)
  have E : En p s m args meth c cX10_unhang 3 (some .int) RX10 D cy sz := E
  obtain ⟨hx, hb, hrt, hml, hown, hw, hlk, hK, hF, hsz⟩ := id E
  have hl : lv_has ls 3 [(0, .ref (ad 17 0)), (1, .int x1)] := hl
  refine lv_iload_n hx hb dX10_unhang_0 rfl (lv_at hl 1 rfl) ?_
  refine lv_iconst (v := 0) hx hb dX10_unhang_1 (by decide) ?_
  refine lv_bipush (v := 9) hx hb dX10_unhang_2 (by decide) ?_
  by_cases h1 : wj x1 0 9 = true
  · have v2 : vp_in x1 10 := wj_in h1 (by decide) (by decide)
    refine q_cSp E G [] (k_X10_in_t l D cy sz ad n S x1 0 9 h1) tb_489 tb_490 tb_6 tb_491 (nn := 3) (by decide +kernel) ⟨Nat.le_of_ble_eq_true rfl, Nat.le_of_ble_eq_true rfl⟩ rfl hl.1 rfl (Nat.le_of_ble_eq_true rfl) dX10_unhang_4 ⟨Nat.zero_le _, Nat.zero_le _⟩ (fun H locs G => ?_)
    refine lv_if_ne (tgt := 17) hx hb dX10_unhang_7 (by decide) (fun _ => ?_) (fun h => absurd h (by decide))
    refine lv_aload_n hx hb dX10_unhang_17 rfl (lv_at hl 0 rfl) ?_
    refine q_get (index := 7) (ref := "ToolRoomModel") E G inX10 17 0 c17 sg_17 rfl 0 (by decide) tb_421 (Or.inl rfl) rfl dX10_unhang_18 ?_
    refine lv_iload_n hx hb dX10_unhang_21 rfl (lv_at hl 1 rfl) ?_
    refine q_iald E G 18 0 (c18 0 (by decide)) sa_18_0 v2 dX10_unhang_22 ?_
    refine lv_iconst (v := (-1)) hx hb dX10_unhang_23 (by decide) ?_
    refine lv_icmp_ne (tgt := 31) hx hb dX10_unhang_24 (by decide) (fun h3 => ?_) (fun h3 => ?_)
    · have v4 : vp_in (S.1 18 0 x1.toNatClampNeg) 600 := (ok.1 _ (vp_lt v2)).resolve_left h3
      refine lv_iconst (v := 1) hx hb dX10_unhang_31 (by decide) ?_
      refine lv_istore_n (lv' := [(2, .int 1), (0, .ref (ad 17 0)), (1, .int x1)]) hx hb dX10_unhang_32 rfl hl (by decide) rfl (fun ls hl => ?_)
      refine lv_aload_n hx hb dX10_unhang_33 rfl (lv_at hl 1 rfl) ?_
      refine q_get (index := 7) (ref := "ToolRoomModel") E G inX10 17 0 c17 sg_17 rfl 0 (by decide) tb_421 (Or.inl rfl) rfl dX10_unhang_34 ?_
      refine lv_iload_n hx hb dX10_unhang_37 rfl (lv_at hl 2 rfl) ?_
      refine lv_iconst (v := (-1)) hx hb dX10_unhang_38 (by decide) ?_
      refine q_iast E G 18 0 (c18 0 (by decide)) (fun _ => sa_18_0) v2 dX10_unhang_39 (fun H locs G => ?_)
      refine lv_aload_n hx hb dX10_unhang_40 rfl (lv_at hl 1 rfl) ?_
      refine lv_iload_n hx hb dX10_unhang_41 rfl (lv_at hl 0 rfl) ?_
      refine q_cV (rest := []) E G 17 0 c17 sg_17 (C := RX10) (T := TX10) (N := 21) rfl (k_X10_says l D cy sz ad n (uI S 18 0 x1.toNatClampNeg (-1)) 1) tb_496 tb_498 tp_9 tb_6 tb_499 (nn := 1) (by decide +kernel) ⟨Nat.le_of_ble_eq_true rfl, Nat.le_of_ble_eq_true rfl⟩ rfl hl.1 rfl (Nat.le_of_ble_eq_true rfl) dX10_unhang_42 ⟨Nat.zero_le _, Nat.zero_le _⟩ (fun H locs G => ?_)
      exact q_iret E G (by unfold f_X10_unhang; simp only [if_pos h1, if_neg h3, pr_eta]) dX10_unhang_45
    · refine lv_iconst (v := 0) hx hb dX10_unhang_27 (by decide) ?_
      refine lv_goto (tgt := 32) hx hb dX10_unhang_28 (by decide) ?_
      refine lv_istore_n (lv' := [(2, .int 0), (0, .ref (ad 17 0)), (1, .int x1)]) hx hb dX10_unhang_32 rfl hl (by decide) rfl (fun ls hl => ?_)
      refine lv_aload_n hx hb dX10_unhang_33 rfl (lv_at hl 1 rfl) ?_
      refine q_get (index := 7) (ref := "ToolRoomModel") E G inX10 17 0 c17 sg_17 rfl 0 (by decide) tb_421 (Or.inl rfl) rfl dX10_unhang_34 ?_
      refine lv_iload_n hx hb dX10_unhang_37 rfl (lv_at hl 2 rfl) ?_
      refine lv_iconst (v := (-1)) hx hb dX10_unhang_38 (by decide) ?_
      refine q_iast E G 18 0 (c18 0 (by decide)) (fun _ => sa_18_0) v2 dX10_unhang_39 (fun H locs G => ?_)
      refine lv_aload_n hx hb dX10_unhang_40 rfl (lv_at hl 1 rfl) ?_
      refine lv_iload_n hx hb dX10_unhang_41 rfl (lv_at hl 0 rfl) ?_
      refine q_cV (rest := []) E G 17 0 c17 sg_17 (C := RX10) (T := TX10) (N := 21) rfl (k_X10_says l D cy sz ad n (uI S 18 0 x1.toNatClampNeg (-1)) 0) tb_496 tb_498 tp_9 tb_6 tb_499 (nn := 1) (by decide +kernel) ⟨Nat.le_of_ble_eq_true rfl, Nat.le_of_ble_eq_true rfl⟩ rfl hl.1 rfl (Nat.le_of_ble_eq_true rfl) dX10_unhang_42 ⟨Nat.zero_le _, Nat.zero_le _⟩ (fun H locs G => ?_)
      exact q_iret E G (by unfold f_X10_unhang; simp only [if_pos h1, if_pos h3, pr_eta]) dX10_unhang_45
  · refine q_cSp E G [] (k_X10_in_f l D cy sz ad n S x1 0 9 h1) tb_489 tb_490 tb_6 tb_491 (nn := 3) (by decide +kernel) ⟨Nat.le_of_ble_eq_true rfl, Nat.le_of_ble_eq_true rfl⟩ rfl hl.1 rfl (Nat.le_of_ble_eq_true rfl) dX10_unhang_4 ⟨Nat.zero_le _, Nat.zero_le _⟩ (fun H locs G => ?_)
    refine lv_if_ne (tgt := 17) hx hb dX10_unhang_7 (by decide) (fun h => absurd h (by decide)) (fun _ => ?_)
    refine lv_aload_n hx hb dX10_unhang_10 rfl (lv_at hl 0 rfl) ?_
    refine lv_bipush (v := (-2)) hx hb dX10_unhang_11 (by decide) ?_
    refine q_cV (rest := []) E G 17 0 c17 sg_17 (C := RX10) (T := TX10) (N := 21) rfl (k_X10_refuses l D cy sz ad n S (-2)) tb_492 tb_494 tp_8 tb_6 tb_495 (nn := 1) (by decide +kernel) ⟨Nat.le_of_ble_eq_true rfl, Nat.le_of_ble_eq_true rfl⟩ rfl hl.1 rfl (Nat.le_of_ble_eq_true rfl) dX10_unhang_13 ⟨Nat.zero_le _, Nat.zero_le _⟩ (fun H locs G => ?_)
    exact q_iret E G (by unfold f_X10_unhang; simp only [if_neg h1, pr_eta]) dX10_unhang_16

def f_X10_kind (S : SS) (x1 : Int32) : Int32 × SS := if wj x1 0 9 = true then (if (S.1 18 0 x1.toNatClampNeg) = (-1) then (f_X10_says S (-1)) else (f_X10_says S (S.1 18 2 (S.1 18 0 x1.toNatClampNeg).toNatClampNeg))) else (f_X10_refuses S (-2))
set_option maxHeartbeats 4000000 in
set_option maxRecDepth 100000 in
theorem k_X10_kind (l : Launch) (D : va_G) (cy : Nat → ClassId) (sz : Nat) (ad : Nat → Nat → Nat) (n : Nat) (S : SS) (ok : okM S) (x1 : Int32) : CI l yX10_kind cX10_kind 2 (some .int) 1 22 [.ref (ad 17 0), .int x1] D cy sz ad n S (f_X10_kind S x1) := by
  refine Met.enter (by decide) (Nat.le_of_ble_eq_true rfl) (fun p e s m args below meth c ls E G hl => ?_)
  have E : En p s m args meth c cX10_kind 2 (some .int) RX10 D cy sz := E
  obtain ⟨hx, hb, hrt, hml, hown, hw, hlk, hK, hF, hsz⟩ := id E
  have hl : lv_has ls 2 [(0, .ref (ad 17 0)), (1, .int x1)] := hl
  refine lv_iload_n hx hb dX10_kind_0 rfl (lv_at hl 1 rfl) ?_
  refine lv_iconst (v := 0) hx hb dX10_kind_1 (by decide) ?_
  refine lv_bipush (v := 9) hx hb dX10_kind_2 (by decide) ?_
  by_cases h1 : wj x1 0 9 = true
  · have v2 : vp_in x1 10 := wj_in h1 (by decide) (by decide)
    refine q_cSp E G [] (k_X10_in_t l D cy sz ad n S x1 0 9 h1) tb_489 tb_490 tb_6 tb_491 (nn := 3) (by decide +kernel) ⟨Nat.le_of_ble_eq_true rfl, Nat.le_of_ble_eq_true rfl⟩ rfl hl.1 rfl (Nat.le_of_ble_eq_true rfl) dX10_kind_4 ⟨Nat.zero_le _, Nat.zero_le _⟩ (fun H locs G => ?_)
    refine lv_if_ne (tgt := 17) hx hb dX10_kind_7 (by decide) (fun _ => ?_) (fun h => absurd h (by decide))
    refine lv_aload_n hx hb dX10_kind_17 rfl (lv_at hl 0 rfl) ?_
    refine lv_aload_n hx hb dX10_kind_18 rfl (lv_at hl 0 rfl) ?_
    refine q_get (index := 7) (ref := "ToolRoomModel") E G inX10 17 0 c17 sg_17 rfl 0 (by decide) tb_421 (Or.inl rfl) rfl dX10_kind_19 ?_
    refine lv_iload_n hx hb dX10_kind_22 rfl (lv_at hl 1 rfl) ?_
    refine q_iald E G 18 0 (c18 0 (by decide)) sa_18_0 v2 dX10_kind_23 ?_
    refine lv_iconst (v := (-1)) hx hb dX10_kind_24 (by decide) ?_
    refine lv_icmp_ne (tgt := 32) hx hb dX10_kind_25 (by decide) (fun h3 => ?_) (fun h3 => ?_)
    · have v4 : vp_in (S.1 18 0 x1.toNatClampNeg) 600 := (ok.1 _ (vp_lt v2)).resolve_left h3
      refine lv_aload_n hx hb dX10_kind_32 rfl (lv_at hl 0 rfl) ?_
      refine q_get (index := 13) (ref := "ToolRoomModel") E G inX10 17 0 c17 sg_17 rfl 2 (by decide) tb_423 (Or.inl rfl) rfl dX10_kind_33 ?_
      refine lv_aload_n hx hb dX10_kind_36 rfl (lv_at hl 0 rfl) ?_
      refine q_get (index := 7) (ref := "ToolRoomModel") E G inX10 17 0 c17 sg_17 rfl 0 (by decide) tb_421 (Or.inl rfl) rfl dX10_kind_37 ?_
      refine lv_iload_n hx hb dX10_kind_40 rfl (lv_at hl 1 rfl) ?_
      refine q_iald E G 18 0 (c18 0 (by decide)) sa_18_0 v2 dX10_kind_41 ?_
      refine q_iald E G 18 2 (c18 2 (by decide)) sa_18_2 v4 dX10_kind_42 ?_
      refine q_cV (rest := []) E G 17 0 c17 sg_17 (C := RX10) (T := TX10) (N := 21) rfl (k_X10_says l D cy sz ad n S (S.1 18 2 (S.1 18 0 x1.toNatClampNeg).toNatClampNeg)) tb_496 tb_498 tp_9 tb_6 tb_499 (nn := 1) (by decide +kernel) ⟨Nat.le_of_ble_eq_true rfl, Nat.le_of_ble_eq_true rfl⟩ rfl hl.1 rfl (Nat.le_of_ble_eq_true rfl) dX10_kind_43 ⟨Nat.zero_le _, Nat.zero_le _⟩ (fun H locs G => ?_)
      exact q_iret E G (by unfold f_X10_kind; simp only [if_pos h1, if_neg h3, pr_eta]) dX10_kind_46
    · refine lv_iconst (v := (-1)) hx hb dX10_kind_28 (by decide) ?_
      refine lv_goto (tgt := 43) hx hb dX10_kind_29 (by decide) ?_
      refine q_cV (rest := []) E G 17 0 c17 sg_17 (C := RX10) (T := TX10) (N := 21) rfl (k_X10_says l D cy sz ad n S (-1)) tb_496 tb_498 tp_9 tb_6 tb_499 (nn := 1) (by decide +kernel) ⟨Nat.le_of_ble_eq_true rfl, Nat.le_of_ble_eq_true rfl⟩ rfl hl.1 rfl (Nat.le_of_ble_eq_true rfl) dX10_kind_43 ⟨Nat.zero_le _, Nat.zero_le _⟩ (fun H locs G => ?_)
      exact q_iret E G (by unfold f_X10_kind; simp only [if_pos h1, if_pos h3, pr_eta]) dX10_kind_46
  · refine q_cSp E G [] (k_X10_in_f l D cy sz ad n S x1 0 9 h1) tb_489 tb_490 tb_6 tb_491 (nn := 3) (by decide +kernel) ⟨Nat.le_of_ble_eq_true rfl, Nat.le_of_ble_eq_true rfl⟩ rfl hl.1 rfl (Nat.le_of_ble_eq_true rfl) dX10_kind_4 ⟨Nat.zero_le _, Nat.zero_le _⟩ (fun H locs G => ?_)
    refine lv_if_ne (tgt := 17) hx hb dX10_kind_7 (by decide) (fun h => absurd h (by decide)) (fun _ => ?_)
    refine lv_aload_n hx hb dX10_kind_10 rfl (lv_at hl 0 rfl) ?_
    refine lv_bipush (v := (-2)) hx hb dX10_kind_11 (by decide) ?_
    refine q_cV (rest := []) E G 17 0 c17 sg_17 (C := RX10) (T := TX10) (N := 21) rfl (k_X10_refuses l D cy sz ad n S (-2)) tb_492 tb_494 tp_8 tb_6 tb_495 (nn := 1) (by decide +kernel) ⟨Nat.le_of_ble_eq_true rfl, Nat.le_of_ble_eq_true rfl⟩ rfl hl.1 rfl (Nat.le_of_ble_eq_true rfl) dX10_kind_13 ⟨Nat.zero_le _, Nat.zero_le _⟩ (fun H locs G => ?_)
    exact q_iret E G (by unfold f_X10_kind; simp only [if_neg h1, pr_eta]) dX10_kind_16

def f_X10_card (S : SS) (x1 : Int32) (x2 : Int32) : Int32 × SS := if wj x1 0 9 = true then (if (S.1 18 0 x1.toNatClampNeg) = (-1) then (f_X10_fails S 1) else (f_X10_says (uI (uI S 18 5 (S.1 18 0 x1.toNatClampNeg).toNatClampNeg 1) 18 6 (S.1 18 0 x1.toNatClampNeg).toNatClampNeg x2) 1)) else (f_X10_refuses S (-2))
set_option maxHeartbeats 4000000 in
set_option maxRecDepth 100000 in
theorem k_X10_card (l : Launch) (D : va_G) (cy : Nat → ClassId) (sz : Nat) (ad : Nat → Nat → Nat) (n : Nat) (S : SS) (ok : okM S) (x1 : Int32) (x2 : Int32) : CI l yX10_card cX10_card 3 (some .int) 1 22 [.ref (ad 17 0), .int x1, .int x2] D cy sz ad n S (f_X10_card S x1 x2) := by
  refine Met.enter (by decide) (Nat.le_of_ble_eq_true rfl) (fun p e s m args below meth c ls E G hl => ?_)
  have E : En p s m args meth c cX10_card 3 (some .int) RX10 D cy sz := E
  obtain ⟨hx, hb, hrt, hml, hown, hw, hlk, hK, hF, hsz⟩ := id E
  have hl : lv_has ls 3 [(0, .ref (ad 17 0)), (1, .int x1), (2, .int x2)] := hl
  refine lv_iload_n hx hb dX10_card_0 rfl (lv_at hl 1 rfl) ?_
  refine lv_iconst (v := 0) hx hb dX10_card_1 (by decide) ?_
  refine lv_bipush (v := 9) hx hb dX10_card_2 (by decide) ?_
  by_cases h1 : wj x1 0 9 = true
  · have v2 : vp_in x1 10 := wj_in h1 (by decide) (by decide)
    refine q_cSp E G [] (k_X10_in_t l D cy sz ad n S x1 0 9 h1) tb_489 tb_490 tb_6 tb_491 (nn := 3) (by decide +kernel) ⟨Nat.le_of_ble_eq_true rfl, Nat.le_of_ble_eq_true rfl⟩ rfl hl.1 rfl (Nat.le_of_ble_eq_true rfl) dX10_card_4 ⟨Nat.zero_le _, Nat.zero_le _⟩ (fun H locs G => ?_)
    refine lv_if_ne (tgt := 17) hx hb dX10_card_7 (by decide) (fun _ => ?_) (fun h => absurd h (by decide))
    refine lv_aload_n hx hb dX10_card_17 rfl (lv_at hl 0 rfl) ?_
    refine q_get (index := 7) (ref := "ToolRoomModel") E G inX10 17 0 c17 sg_17 rfl 0 (by decide) tb_421 (Or.inl rfl) rfl dX10_card_18 ?_
    refine lv_iload_n hx hb dX10_card_21 rfl (lv_at hl 1 rfl) ?_
    refine q_iald E G 18 0 (c18 0 (by decide)) sa_18_0 v2 dX10_card_22 ?_
    refine lv_iconst (v := (-1)) hx hb dX10_card_23 (by decide) ?_
    refine lv_icmp_ne (tgt := 33) hx hb dX10_card_24 (by decide) (fun h3 => ?_) (fun h3 => ?_)
    · have v4 : vp_in (S.1 18 0 x1.toNatClampNeg) 600 := (ok.1 _ (vp_lt v2)).resolve_left h3
      refine lv_aload_n hx hb dX10_card_33 rfl (lv_at hl 0 rfl) ?_
      refine q_get (index := 22) (ref := "ToolRoomModel") E G inX10 17 0 c17 sg_17 rfl 5 (by decide) tb_426 (Or.inl rfl) rfl dX10_card_34 ?_
      refine lv_aload_n hx hb dX10_card_37 rfl (lv_at hl 0 rfl) ?_
      refine q_get (index := 7) (ref := "ToolRoomModel") E G inX10 17 0 c17 sg_17 rfl 0 (by decide) tb_421 (Or.inl rfl) rfl dX10_card_38 ?_
      refine lv_iload_n hx hb dX10_card_41 rfl (lv_at hl 1 rfl) ?_
      refine q_iald E G 18 0 (c18 0 (by decide)) sa_18_0 v2 dX10_card_42 ?_
      refine lv_iconst (v := 1) hx hb dX10_card_43 (by decide) ?_
      refine q_zast E G 18 5 (c18 5 (by decide)) (fun _ => sa_18_5) v4 (by decide) dX10_card_44 (fun H locs G => ?_)
      refine lv_aload_n hx hb dX10_card_45 rfl (lv_at hl 0 rfl) ?_
      refine q_get (index := 26) (ref := "ToolRoomModel") E G inX10 17 0 c17 sg_17 rfl 6 (by decide) tb_427 (Or.inl rfl) rfl dX10_card_46 ?_
      refine lv_aload_n hx hb dX10_card_49 rfl (lv_at hl 0 rfl) ?_
      refine q_get (index := 7) (ref := "ToolRoomModel") E G inX10 17 0 c17 sg_17 rfl 0 (by decide) tb_421 (Or.inl rfl) rfl dX10_card_50 ?_
      refine lv_iload_n hx hb dX10_card_53 rfl (lv_at hl 1 rfl) ?_
      refine q_iald E G 18 0 (c18 0 (by decide)) sa_18_0 v2 dX10_card_54 ?_
      rw [uI_ni (by decide)]
      refine lv_iload_n hx hb dX10_card_55 rfl (lv_at hl 2 rfl) ?_
      refine q_iast E G 18 6 (c18 6 (by decide)) (fun _ => sa_18_6) v4 dX10_card_56 (fun H locs G => ?_)
      refine lv_aload_n hx hb dX10_card_57 rfl (lv_at hl 0 rfl) ?_
      refine lv_iconst (v := 1) hx hb dX10_card_58 (by decide) ?_
      refine q_cV (rest := []) E G 17 0 c17 sg_17 (C := RX10) (T := TX10) (N := 21) rfl (k_X10_says l D cy sz ad n (uI (uI S 18 5 (S.1 18 0 x1.toNatClampNeg).toNatClampNeg 1) 18 6 (S.1 18 0 x1.toNatClampNeg).toNatClampNeg x2) 1) tb_496 tb_498 tp_9 tb_6 tb_499 (nn := 1) (by decide +kernel) ⟨Nat.le_of_ble_eq_true rfl, Nat.le_of_ble_eq_true rfl⟩ rfl hl.1 rfl (Nat.le_of_ble_eq_true rfl) dX10_card_59 ⟨Nat.zero_le _, Nat.zero_le _⟩ (fun H locs G => ?_)
      exact q_iret E G (by unfold f_X10_card; simp only [if_pos h1, if_neg h3, pr_eta]) dX10_card_62
    · refine lv_aload_n hx hb dX10_card_27 rfl (lv_at hl 0 rfl) ?_
      refine lv_iconst (v := 1) hx hb dX10_card_28 (by decide) ?_
      refine q_cV (rest := []) E G 17 0 c17 sg_17 (C := RX10) (T := TX10) (N := 21) rfl (k_X10_fails l D cy sz ad n S 1 (by unfold vp_in; decide)) tb_516 tb_518 tp_10 tb_6 tb_519 (nn := 1) (by decide +kernel) ⟨Nat.le_of_ble_eq_true rfl, Nat.le_of_ble_eq_true rfl⟩ rfl hl.1 rfl (Nat.le_of_ble_eq_true rfl) dX10_card_29 ⟨Nat.zero_le _, Nat.zero_le _⟩ (fun H locs G => ?_)
      exact q_iret E G (by unfold f_X10_card; simp only [if_pos h1, if_pos h3, pr_eta]) dX10_card_32
  · refine q_cSp E G [] (k_X10_in_f l D cy sz ad n S x1 0 9 h1) tb_489 tb_490 tb_6 tb_491 (nn := 3) (by decide +kernel) ⟨Nat.le_of_ble_eq_true rfl, Nat.le_of_ble_eq_true rfl⟩ rfl hl.1 rfl (Nat.le_of_ble_eq_true rfl) dX10_card_4 ⟨Nat.zero_le _, Nat.zero_le _⟩ (fun H locs G => ?_)
    refine lv_if_ne (tgt := 17) hx hb dX10_card_7 (by decide) (fun h => absurd h (by decide)) (fun _ => ?_)
    refine lv_aload_n hx hb dX10_card_10 rfl (lv_at hl 0 rfl) ?_
    refine lv_bipush (v := (-2)) hx hb dX10_card_11 (by decide) ?_
    refine q_cV (rest := []) E G 17 0 c17 sg_17 (C := RX10) (T := TX10) (N := 21) rfl (k_X10_refuses l D cy sz ad n S (-2)) tb_492 tb_494 tp_8 tb_6 tb_495 (nn := 1) (by decide +kernel) ⟨Nat.le_of_ble_eq_true rfl, Nat.le_of_ble_eq_true rfl⟩ rfl hl.1 rfl (Nat.le_of_ble_eq_true rfl) dX10_card_13 ⟨Nat.zero_le _, Nat.zero_le _⟩ (fun H locs G => ?_)
    exact q_iret E G (by unfold f_X10_card; simp only [if_neg h1, pr_eta]) dX10_card_16

def f_X10_uncard (S : SS) (x1 : Int32) : Int32 × SS := if wj x1 0 9 = true then (if (S.1 18 0 x1.toNatClampNeg) = (-1) then (f_X10_fails S 1) else (f_X10_says (uI S 18 5 (S.1 18 0 x1.toNatClampNeg).toNatClampNeg 0) 1)) else (f_X10_refuses S (-2))
set_option maxHeartbeats 4000000 in
set_option maxRecDepth 100000 in
theorem k_X10_uncard (l : Launch) (D : va_G) (cy : Nat → ClassId) (sz : Nat) (ad : Nat → Nat → Nat) (n : Nat) (S : SS) (ok : okM S) (x1 : Int32) : CI l yX10_uncard cX10_uncard 2 (some .int) 1 22 [.ref (ad 17 0), .int x1] D cy sz ad n S (f_X10_uncard S x1) := by
  refine Met.enter (by decide) (Nat.le_of_ble_eq_true rfl) (fun p e s m args below meth c ls E G hl => ?_)
  have E : En p s m args meth c cX10_uncard 2 (some .int) RX10 D cy sz := E
  obtain ⟨hx, hb, hrt, hml, hown, hw, hlk, hK, hF, hsz⟩ := id E
  have hl : lv_has ls 2 [(0, .ref (ad 17 0)), (1, .int x1)] := hl
  refine lv_iload_n hx hb dX10_uncard_0 rfl (lv_at hl 1 rfl) ?_
  refine lv_iconst (v := 0) hx hb dX10_uncard_1 (by decide) ?_
  refine lv_bipush (v := 9) hx hb dX10_uncard_2 (by decide) ?_
  by_cases h1 : wj x1 0 9 = true
  · have v2 : vp_in x1 10 := wj_in h1 (by decide) (by decide)
    refine q_cSp E G [] (k_X10_in_t l D cy sz ad n S x1 0 9 h1) tb_489 tb_490 tb_6 tb_491 (nn := 3) (by decide +kernel) ⟨Nat.le_of_ble_eq_true rfl, Nat.le_of_ble_eq_true rfl⟩ rfl hl.1 rfl (Nat.le_of_ble_eq_true rfl) dX10_uncard_4 ⟨Nat.zero_le _, Nat.zero_le _⟩ (fun H locs G => ?_)
    refine lv_if_ne (tgt := 17) hx hb dX10_uncard_7 (by decide) (fun _ => ?_) (fun h => absurd h (by decide))
    refine lv_aload_n hx hb dX10_uncard_17 rfl (lv_at hl 0 rfl) ?_
    refine q_get (index := 7) (ref := "ToolRoomModel") E G inX10 17 0 c17 sg_17 rfl 0 (by decide) tb_421 (Or.inl rfl) rfl dX10_uncard_18 ?_
    refine lv_iload_n hx hb dX10_uncard_21 rfl (lv_at hl 1 rfl) ?_
    refine q_iald E G 18 0 (c18 0 (by decide)) sa_18_0 v2 dX10_uncard_22 ?_
    refine lv_iconst (v := (-1)) hx hb dX10_uncard_23 (by decide) ?_
    refine lv_icmp_ne (tgt := 33) hx hb dX10_uncard_24 (by decide) (fun h3 => ?_) (fun h3 => ?_)
    · have v4 : vp_in (S.1 18 0 x1.toNatClampNeg) 600 := (ok.1 _ (vp_lt v2)).resolve_left h3
      refine lv_aload_n hx hb dX10_uncard_33 rfl (lv_at hl 0 rfl) ?_
      refine q_get (index := 22) (ref := "ToolRoomModel") E G inX10 17 0 c17 sg_17 rfl 5 (by decide) tb_426 (Or.inl rfl) rfl dX10_uncard_34 ?_
      refine lv_aload_n hx hb dX10_uncard_37 rfl (lv_at hl 0 rfl) ?_
      refine q_get (index := 7) (ref := "ToolRoomModel") E G inX10 17 0 c17 sg_17 rfl 0 (by decide) tb_421 (Or.inl rfl) rfl dX10_uncard_38 ?_
      refine lv_iload_n hx hb dX10_uncard_41 rfl (lv_at hl 1 rfl) ?_
      refine q_iald E G 18 0 (c18 0 (by decide)) sa_18_0 v2 dX10_uncard_42 ?_
      refine lv_iconst (v := 0) hx hb dX10_uncard_43 (by decide) ?_
      refine q_zast E G 18 5 (c18 5 (by decide)) (fun _ => sa_18_5) v4 (by decide) dX10_uncard_44 (fun H locs G => ?_)
      refine lv_aload_n hx hb dX10_uncard_45 rfl (lv_at hl 0 rfl) ?_
      refine lv_iconst (v := 1) hx hb dX10_uncard_46 (by decide) ?_
      refine q_cV (rest := []) E G 17 0 c17 sg_17 (C := RX10) (T := TX10) (N := 21) rfl (k_X10_says l D cy sz ad n (uI S 18 5 (S.1 18 0 x1.toNatClampNeg).toNatClampNeg 0) 1) tb_496 tb_498 tp_9 tb_6 tb_499 (nn := 1) (by decide +kernel) ⟨Nat.le_of_ble_eq_true rfl, Nat.le_of_ble_eq_true rfl⟩ rfl hl.1 rfl (Nat.le_of_ble_eq_true rfl) dX10_uncard_47 ⟨Nat.zero_le _, Nat.zero_le _⟩ (fun H locs G => ?_)
      exact q_iret E G (by unfold f_X10_uncard; simp only [if_pos h1, if_neg h3, pr_eta]) dX10_uncard_50
    · refine lv_aload_n hx hb dX10_uncard_27 rfl (lv_at hl 0 rfl) ?_
      refine lv_iconst (v := 1) hx hb dX10_uncard_28 (by decide) ?_
      refine q_cV (rest := []) E G 17 0 c17 sg_17 (C := RX10) (T := TX10) (N := 21) rfl (k_X10_fails l D cy sz ad n S 1 (by unfold vp_in; decide)) tb_516 tb_518 tp_10 tb_6 tb_519 (nn := 1) (by decide +kernel) ⟨Nat.le_of_ble_eq_true rfl, Nat.le_of_ble_eq_true rfl⟩ rfl hl.1 rfl (Nat.le_of_ble_eq_true rfl) dX10_uncard_29 ⟨Nat.zero_le _, Nat.zero_le _⟩ (fun H locs G => ?_)
      exact q_iret E G (by unfold f_X10_uncard; simp only [if_pos h1, if_pos h3, pr_eta]) dX10_uncard_32
  · refine q_cSp E G [] (k_X10_in_f l D cy sz ad n S x1 0 9 h1) tb_489 tb_490 tb_6 tb_491 (nn := 3) (by decide +kernel) ⟨Nat.le_of_ble_eq_true rfl, Nat.le_of_ble_eq_true rfl⟩ rfl hl.1 rfl (Nat.le_of_ble_eq_true rfl) dX10_uncard_4 ⟨Nat.zero_le _, Nat.zero_le _⟩ (fun H locs G => ?_)
    refine lv_if_ne (tgt := 17) hx hb dX10_uncard_7 (by decide) (fun h => absurd h (by decide)) (fun _ => ?_)
    refine lv_aload_n hx hb dX10_uncard_10 rfl (lv_at hl 0 rfl) ?_
    refine lv_bipush (v := (-2)) hx hb dX10_uncard_11 (by decide) ?_
    refine q_cV (rest := []) E G 17 0 c17 sg_17 (C := RX10) (T := TX10) (N := 21) rfl (k_X10_refuses l D cy sz ad n S (-2)) tb_492 tb_494 tp_8 tb_6 tb_495 (nn := 1) (by decide +kernel) ⟨Nat.le_of_ble_eq_true rfl, Nat.le_of_ble_eq_true rfl⟩ rfl hl.1 rfl (Nat.le_of_ble_eq_true rfl) dX10_uncard_13 ⟨Nat.zero_le _, Nat.zero_le _⟩ (fun H locs G => ?_)
    exact q_iret E G (by unfold f_X10_uncard; simp only [if_neg h1, pr_eta]) dX10_uncard_16

def f_X10_rename (S : SS) (x1 : Int32) (x2 : Int32) : Int32 × SS := if wj x1 0 9 = true then (if (S.1 18 0 x1.toNatClampNeg) = (-1) then (f_X10_fails S 1) else (if (S.1 18 5 (S.1 18 0 x1.toNatClampNeg).toNatClampNeg) = 0 then (f_X10_fails S 1) else (f_X10_says (uI S 18 6 (S.1 18 0 x1.toNatClampNeg).toNatClampNeg x2) 1))) else (f_X10_refuses S (-2))
set_option maxHeartbeats 4000000 in
set_option maxRecDepth 100000 in
theorem k_X10_rename (l : Launch) (D : va_G) (cy : Nat → ClassId) (sz : Nat) (ad : Nat → Nat → Nat) (n : Nat) (S : SS) (ok : okM S) (x1 : Int32) (x2 : Int32) : CI l yX10_rename cX10_rename 3 (some .int) 1 22 [.ref (ad 17 0), .int x1, .int x2] D cy sz ad n S (f_X10_rename S x1 x2) := by
  refine Met.enter (by decide) (Nat.le_of_ble_eq_true rfl) (fun p e s m args below meth c ls E G hl => ?_)
  have E : En p s m args meth c cX10_rename 3 (some .int) RX10 D cy sz := E
  obtain ⟨hx, hb, hrt, hml, hown, hw, hlk, hK, hF, hsz⟩ := id E
  have hl : lv_has ls 3 [(0, .ref (ad 17 0)), (1, .int x1), (2, .int x2)] := hl
  refine lv_iload_n hx hb dX10_rename_0 rfl (lv_at hl 1 rfl) ?_
  refine lv_iconst (v := 0) hx hb dX10_rename_1 (by decide) ?_
  refine lv_bipush (v := 9) hx hb dX10_rename_2 (by decide) ?_
  by_cases h1 : wj x1 0 9 = true
  · have v2 : vp_in x1 10 := wj_in h1 (by decide) (by decide)
    refine q_cSp E G [] (k_X10_in_t l D cy sz ad n S x1 0 9 h1) tb_489 tb_490 tb_6 tb_491 (nn := 3) (by decide +kernel) ⟨Nat.le_of_ble_eq_true rfl, Nat.le_of_ble_eq_true rfl⟩ rfl hl.1 rfl (Nat.le_of_ble_eq_true rfl) dX10_rename_4 ⟨Nat.zero_le _, Nat.zero_le _⟩ (fun H locs G => ?_)
    refine lv_if_ne (tgt := 17) hx hb dX10_rename_7 (by decide) (fun _ => ?_) (fun h => absurd h (by decide))
    refine lv_aload_n hx hb dX10_rename_17 rfl (lv_at hl 0 rfl) ?_
    refine q_get (index := 7) (ref := "ToolRoomModel") E G inX10 17 0 c17 sg_17 rfl 0 (by decide) tb_421 (Or.inl rfl) rfl dX10_rename_18 ?_
    refine lv_iload_n hx hb dX10_rename_21 rfl (lv_at hl 1 rfl) ?_
    refine q_iald E G 18 0 (c18 0 (by decide)) sa_18_0 v2 dX10_rename_22 ?_
    refine lv_iconst (v := (-1)) hx hb dX10_rename_23 (by decide) ?_
    refine lv_icmp_eq (tgt := 41) hx hb dX10_rename_24 (by decide) (fun h3 => ?_) (fun h3 => ?_)
    · refine lv_aload_n hx hb dX10_rename_41 rfl (lv_at hl 0 rfl) ?_
      refine lv_iconst (v := 1) hx hb dX10_rename_42 (by decide) ?_
      refine q_cV (rest := []) E G 17 0 c17 sg_17 (C := RX10) (T := TX10) (N := 21) rfl (k_X10_fails l D cy sz ad n S 1 (by unfold vp_in; decide)) tb_516 tb_518 tp_10 tb_6 tb_519 (nn := 1) (by decide +kernel) ⟨Nat.le_of_ble_eq_true rfl, Nat.le_of_ble_eq_true rfl⟩ rfl hl.1 rfl (Nat.le_of_ble_eq_true rfl) dX10_rename_43 ⟨Nat.zero_le _, Nat.zero_le _⟩ (fun H locs G => ?_)
      exact q_iret E G (by unfold f_X10_rename; simp only [if_pos h1, if_pos h3, pr_eta]) dX10_rename_46
    · have v4 : vp_in (S.1 18 0 x1.toNatClampNeg) 600 := (ok.1 _ (vp_lt v2)).resolve_left h3
      refine lv_aload_n hx hb dX10_rename_27 rfl (lv_at hl 0 rfl) ?_
      refine q_get (index := 22) (ref := "ToolRoomModel") E G inX10 17 0 c17 sg_17 rfl 5 (by decide) tb_426 (Or.inl rfl) rfl dX10_rename_28 ?_
      refine lv_aload_n hx hb dX10_rename_31 rfl (lv_at hl 0 rfl) ?_
      refine q_get (index := 7) (ref := "ToolRoomModel") E G inX10 17 0 c17 sg_17 rfl 0 (by decide) tb_421 (Or.inl rfl) rfl dX10_rename_32 ?_
      refine lv_iload_n hx hb dX10_rename_35 rfl (lv_at hl 1 rfl) ?_
      refine q_iald E G 18 0 (c18 0 (by decide)) sa_18_0 v2 dX10_rename_36 ?_
      refine q_zald E G 18 5 (c18 5 (by decide)) sa_18_5 v4 dX10_rename_37 ?_
      refine lv_if_ne (tgt := 47) hx hb dX10_rename_38 (by decide) (fun h5 => ?_) (fun h5 => ?_)
      · refine lv_aload_n hx hb dX10_rename_47 rfl (lv_at hl 0 rfl) ?_
        refine q_get (index := 26) (ref := "ToolRoomModel") E G inX10 17 0 c17 sg_17 rfl 6 (by decide) tb_427 (Or.inl rfl) rfl dX10_rename_48 ?_
        refine lv_aload_n hx hb dX10_rename_51 rfl (lv_at hl 0 rfl) ?_
        refine q_get (index := 7) (ref := "ToolRoomModel") E G inX10 17 0 c17 sg_17 rfl 0 (by decide) tb_421 (Or.inl rfl) rfl dX10_rename_52 ?_
        refine lv_iload_n hx hb dX10_rename_55 rfl (lv_at hl 1 rfl) ?_
        refine q_iald E G 18 0 (c18 0 (by decide)) sa_18_0 v2 dX10_rename_56 ?_
        refine lv_iload_n hx hb dX10_rename_57 rfl (lv_at hl 2 rfl) ?_
        refine q_iast E G 18 6 (c18 6 (by decide)) (fun _ => sa_18_6) v4 dX10_rename_58 (fun H locs G => ?_)
        refine lv_aload_n hx hb dX10_rename_59 rfl (lv_at hl 0 rfl) ?_
        refine lv_iconst (v := 1) hx hb dX10_rename_60 (by decide) ?_
        refine q_cV (rest := []) E G 17 0 c17 sg_17 (C := RX10) (T := TX10) (N := 21) rfl (k_X10_says l D cy sz ad n (uI S 18 6 (S.1 18 0 x1.toNatClampNeg).toNatClampNeg x2) 1) tb_496 tb_498 tp_9 tb_6 tb_499 (nn := 1) (by decide +kernel) ⟨Nat.le_of_ble_eq_true rfl, Nat.le_of_ble_eq_true rfl⟩ rfl hl.1 rfl (Nat.le_of_ble_eq_true rfl) dX10_rename_61 ⟨Nat.zero_le _, Nat.zero_le _⟩ (fun H locs G => ?_)
        exact q_iret E G (by unfold f_X10_rename; simp only [if_pos h1, if_neg h3, if_neg h5, pr_eta]) dX10_rename_64
      · refine lv_aload_n hx hb dX10_rename_41 rfl (lv_at hl 0 rfl) ?_
        refine lv_iconst (v := 1) hx hb dX10_rename_42 (by decide) ?_
        refine q_cV (rest := []) E G 17 0 c17 sg_17 (C := RX10) (T := TX10) (N := 21) rfl (k_X10_fails l D cy sz ad n S 1 (by unfold vp_in; decide)) tb_516 tb_518 tp_10 tb_6 tb_519 (nn := 1) (by decide +kernel) ⟨Nat.le_of_ble_eq_true rfl, Nat.le_of_ble_eq_true rfl⟩ rfl hl.1 rfl (Nat.le_of_ble_eq_true rfl) dX10_rename_43 ⟨Nat.zero_le _, Nat.zero_le _⟩ (fun H locs G => ?_)
        exact q_iret E G (by unfold f_X10_rename; simp only [if_pos h1, if_neg h3, if_pos h5, pr_eta]) dX10_rename_46
  · refine q_cSp E G [] (k_X10_in_f l D cy sz ad n S x1 0 9 h1) tb_489 tb_490 tb_6 tb_491 (nn := 3) (by decide +kernel) ⟨Nat.le_of_ble_eq_true rfl, Nat.le_of_ble_eq_true rfl⟩ rfl hl.1 rfl (Nat.le_of_ble_eq_true rfl) dX10_rename_4 ⟨Nat.zero_le _, Nat.zero_le _⟩ (fun H locs G => ?_)
    refine lv_if_ne (tgt := 17) hx hb dX10_rename_7 (by decide) (fun h => absurd h (by decide)) (fun _ => ?_)
    refine lv_aload_n hx hb dX10_rename_10 rfl (lv_at hl 0 rfl) ?_
    refine lv_bipush (v := (-2)) hx hb dX10_rename_11 (by decide) ?_
    refine q_cV (rest := []) E G 17 0 c17 sg_17 (C := RX10) (T := TX10) (N := 21) rfl (k_X10_refuses l D cy sz ad n S (-2)) tb_492 tb_494 tp_8 tb_6 tb_495 (nn := 1) (by decide +kernel) ⟨Nat.le_of_ble_eq_true rfl, Nat.le_of_ble_eq_true rfl⟩ rfl hl.1 rfl (Nat.le_of_ble_eq_true rfl) dX10_rename_13 ⟨Nat.zero_le _, Nat.zero_le _⟩ (fun H locs G => ?_)
    exact q_iret E G (by unfold f_X10_rename; simp only [if_neg h1, pr_eta]) dX10_rename_16

def f_X10_of (S : SS) (x1 : Int32) (x2 : Int32) : Int32 × SS := if wj x1 0 9 = true then (if wj x2 0 3 = true then (if (S.1 18 0 x1.toNatClampNeg) = (-1) then (0, (f_X10_fails (uI S 17 0 17 0) 1).2) else (if x2 = 0 then (if (S.1 18 5 (S.1 18 0 x1.toNatClampNeg).toNatClampNeg) = 0 then (0, (f_X10_fails (uI S 17 0 17 0) 1).2) else (if x2 = 3 then (if (pB (S.1 18 2 (S.1 18 0 x1.toNatClampNeg).toNatClampNeg)) = 0 then (0, (f_X10_fails (uI S 17 0 17 0) 4).2) else ((S.1 18 6 (S.1 18 0 x1.toNatClampNeg).toNatClampNeg), (uI S 17 0 17 0))) else ((S.1 18 6 (S.1 18 0 x1.toNatClampNeg).toNatClampNeg), (uI S 17 0 17 0)))) else (if x2 = 3 then (if (pB (S.1 18 2 (S.1 18 0 x1.toNatClampNeg).toNatClampNeg)) = 0 then (0, (f_X10_fails (uI S 17 0 17 0) 4).2) else (if x2 = 1 then ((S.1 18 3 (S.1 18 0 x1.toNatClampNeg).toNatClampNeg), (uI S 17 0 17 0)) else (if x2 = 2 then ((mW (uI S 17 0 17 0) (S.1 18 0 x1.toNatClampNeg)), (uI S 17 0 17 0)) else ((S.1 18 4 (S.1 18 0 x1.toNatClampNeg).toNatClampNeg), (uI S 17 0 17 0))))) else (if x2 = 1 then ((S.1 18 3 (S.1 18 0 x1.toNatClampNeg).toNatClampNeg), (uI S 17 0 17 0)) else (if x2 = 2 then ((mW (uI S 17 0 17 0) (S.1 18 0 x1.toNatClampNeg)), (uI S 17 0 17 0)) else ((S.1 18 4 (S.1 18 0 x1.toNatClampNeg).toNatClampNeg), (uI S 17 0 17 0))))))) else (0, (uI S 17 0 17 (-3)))) else (0, (uI S 17 0 17 (-2)))
set_option maxHeartbeats 4000000 in
set_option maxRecDepth 100000 in
theorem k_X10_of (l : Launch) (D : va_G) (cy : Nat → ClassId) (sz : Nat) (ad : Nat → Nat → Nat) (n : Nat) (S : SS) (ok : okM S) (x1 : Int32) (x2 : Int32) : CI l yX10_of cX10_of 5 (some .int) 1 22 [.ref (ad 17 0), .int x1, .int x2] D cy sz ad n S (f_X10_of S x1 x2) := by
  refine Met.enter (by decide) (Nat.le_of_ble_eq_true rfl) (fun p e s m args below meth c ls E G hl => ?_)
  have E : En p s m args meth c cX10_of 5 (some .int) RX10 D cy sz := E
  obtain ⟨hx, hb, hrt, hml, hown, hw, hlk, hK, hF, hsz⟩ := id E
  have hl : lv_has ls 5 [(0, .ref (ad 17 0)), (1, .int x1), (2, .int x2)] := hl
  refine lv_aload_n hx hb dX10_of_0 rfl (lv_at hl 0 rfl) ?_
  refine lv_iload_n hx hb dX10_of_1 rfl (lv_at hl 1 rfl) ?_
  refine lv_iconst (v := 0) hx hb dX10_of_2 (by decide) ?_
  refine lv_bipush (v := 9) hx hb dX10_of_3 (by decide) ?_
  by_cases h1 : wj x1 0 9 = true
  · have v2 : vp_in x1 10 := wj_in h1 (by decide) (by decide)
    refine q_cSp E G [.ref (ad 17 0)] (k_X10_in_t l D cy sz ad n S x1 0 9 h1) tb_489 tb_490 tb_6 tb_491 (nn := 3) (by decide +kernel) ⟨Nat.le_of_ble_eq_true rfl, Nat.le_of_ble_eq_true rfl⟩ rfl hl.1 rfl (Nat.le_of_ble_eq_true rfl) dX10_of_5 ⟨Nat.zero_le _, Nat.zero_le _⟩ (fun H locs G => ?_)
    refine lv_if_ne (tgt := 16) hx hb dX10_of_8 (by decide) (fun _ => ?_) (fun h => absurd h (by decide))
    refine lv_iload_n hx hb dX10_of_16 rfl (lv_at hl 2 rfl) ?_
    refine lv_iconst (v := 0) hx hb dX10_of_17 (by decide) ?_
    refine lv_iconst (v := 3) hx hb dX10_of_18 (by decide) ?_
    by_cases h3 : wj x2 0 3 = true
    · have v4 : vp_in x2 4 := wj_in h3 (by decide) (by decide)
      refine q_cSp E G [.ref (ad 17 0)] (k_X10_in_t l D cy sz ad n S x2 0 3 h3) tb_489 tb_490 tb_6 tb_491 (nn := 3) (by decide +kernel) ⟨Nat.le_of_ble_eq_true rfl, Nat.le_of_ble_eq_true rfl⟩ rfl hl.1 rfl (Nat.le_of_ble_eq_true rfl) dX10_of_19 ⟨Nat.zero_le _, Nat.zero_le _⟩ (fun H locs G => ?_)
      refine lv_if_ne (tgt := 30) hx hb dX10_of_22 (by decide) (fun _ => ?_) (fun h => absurd h (by decide))
      refine lv_iconst (v := 0) hx hb dX10_of_30 (by decide) ?_
      refine q_put (index := 62) (ref := "ToolRoomModel") E G inX10 tyX10 tyX10_ok nmX10 17 0 c17 17 sg_17 rfl 17 (by decide) tb_438 (Or.inl rfl) rfl (ty := .int) (by decide +kernel) rfl rfl (Nat.le_of_ble_eq_true rfl) sp_17_17 dX10_of_31 (fun H locs G => ?_)
      refine lv_aload_n hx hb dX10_of_34 rfl (lv_at hl 0 rfl) ?_
      refine q_get (index := 62) (ref := "ToolRoomModel") E G inX10 17 0 c17 sg_17 rfl 17 (by decide) tb_438 (Or.inl rfl) rfl dX10_of_35 ?_
      rw [uI_self]
      refine lv_if_eq (tgt := 43) hx hb dX10_of_38 (by decide) (fun _ => ?_) (fun h => absurd h (by decide))
      refine lv_aload_n hx hb dX10_of_43 rfl (lv_at hl 0 rfl) ?_
      refine q_get (index := 7) (ref := "ToolRoomModel") E G inX10 17 0 c17 sg_17 rfl 0 (by decide) tb_421 (Or.inl rfl) rfl dX10_of_44 ?_
      refine lv_iload_n hx hb dX10_of_47 rfl (lv_at hl 1 rfl) ?_
      refine q_iald E G 18 0 (c18 0 (by decide)) sa_18_0 v2 dX10_of_48 ?_
      rw [uI_nf (by decide)]
      refine lv_istore_n (lv' := [(3, .int (S.1 18 0 x1.toNatClampNeg)), (0, .ref (ad 17 0)), (1, .int x1), (2, .int x2)]) hx hb dX10_of_49 rfl hl (by decide) rfl (fun ls hl => ?_)
      refine lv_iload_n hx hb dX10_of_50 rfl (lv_at hl 0 rfl) ?_
      refine lv_iconst (v := (-1)) hx hb dX10_of_51 (by decide) ?_
      refine lv_icmp_eq (tgt := 68) hx hb dX10_of_52 (by decide) (fun h5 => ?_) (fun h5 => ?_)
      · refine lv_iconst (v := 1) hx hb dX10_of_68 (by decide) ?_
        refine lv_goto (tgt := 94) hx hb dX10_of_69 (by decide) ?_
        refine lv_istore (lv' := [(4, .int 1), (3, .int (S.1 18 0 x1.toNatClampNeg)), (0, .ref (ad 17 0)), (1, .int x1), (2, .int x2)]) hx hb dX10_of_94 hl (by decide) rfl (fun ls hl => ?_)
        refine lv_iload hx hb dX10_of_96 (lv_at hl 0 rfl) ?_
        refine lv_if_eq (tgt := 111) hx hb dX10_of_98 (by decide) (fun h => absurd h (by decide)) (fun _ => ?_)
        refine lv_aload_n hx hb dX10_of_101 rfl (lv_at hl 2 rfl) ?_
        refine lv_iload hx hb dX10_of_102 (lv_at hl 0 rfl) ?_
        refine q_cV (rest := []) E G 17 0 c17 sg_17 (C := RX10) (T := TX10) (N := 21) rfl (k_X10_fails l D cy sz ad n (uI S 17 0 17 0) 1 (by unfold vp_in; decide)) tb_516 tb_518 tp_10 tb_6 tb_519 (nn := 1) (by decide +kernel) ⟨Nat.le_of_ble_eq_true rfl, Nat.le_of_ble_eq_true rfl⟩ rfl hl.1 rfl (Nat.le_of_ble_eq_true rfl) dX10_of_104 ⟨Nat.zero_le _, Nat.zero_le _⟩ (fun H locs G => ?_)
        refine lv_istore (lv' := [(4, .int (f_X10_fails (uI S 17 0 17 0) 1).1), (3, .int (S.1 18 0 x1.toNatClampNeg)), (0, .ref (ad 17 0)), (1, .int x1), (2, .int x2)]) hx hb dX10_of_107 hl (by decide) rfl (fun ls hl => ?_)
        refine lv_iconst (v := 0) hx hb dX10_of_109 (by decide) ?_
        exact q_iret E G (by unfold f_X10_of; simp only [if_pos h1, if_pos h3, if_pos h5, pr_eta]) dX10_of_110
      · have v6 : vp_in (S.1 18 0 x1.toNatClampNeg) 600 := (ok.1 _ (vp_lt v2)).resolve_left h5
        refine lv_iload_n hx hb dX10_of_55 rfl (lv_at hl 3 rfl) ?_
        refine lv_if_ne (tgt := 72) hx hb dX10_of_56 (by decide) (fun h7 => ?_) (fun h7 => ?_)
        · refine lv_iload_n hx hb dX10_of_72 rfl (lv_at hl 3 rfl) ?_
          refine lv_iconst (v := 3) hx hb dX10_of_73 (by decide) ?_
          refine lv_icmp_ne (tgt := 93) hx hb dX10_of_74 (by decide) (fun h8 => ?_) (fun h8 => ?_)
          · refine lv_iconst (v := 0) hx hb dX10_of_93 (by decide) ?_
            refine lv_istore (lv' := [(4, .int 0), (3, .int (S.1 18 0 x1.toNatClampNeg)), (0, .ref (ad 17 0)), (1, .int x1), (2, .int x2)]) hx hb dX10_of_94 hl (by decide) rfl (fun ls hl => ?_)
            refine lv_iload hx hb dX10_of_96 (lv_at hl 0 rfl) ?_
            refine lv_if_eq (tgt := 111) hx hb dX10_of_98 (by decide) (fun _ => ?_) (fun h => absurd h (by decide))
            refine lv_iload_n hx hb dX10_of_111 rfl (lv_at hl 4 rfl) ?_
            refine lv_if_ne (tgt := 124) hx hb dX10_of_112 (by decide) (fun _ => ?_) (fun h => absurd h h7)
            refine lv_iload_n hx hb dX10_of_124 rfl (lv_at hl 4 rfl) ?_
            refine lv_iconst (v := 1) hx hb dX10_of_125 (by decide) ?_
            refine lv_icmp_ne (tgt := 138) hx hb dX10_of_126 (by decide) (fun h9 => ?_) (fun h9 => ?_)
            · refine lv_iload_n hx hb dX10_of_138 rfl (lv_at hl 4 rfl) ?_
              refine lv_iconst (v := 2) hx hb dX10_of_139 (by decide) ?_
              refine lv_icmp_ne (tgt := 151) hx hb dX10_of_140 (by decide) (fun h10 => ?_) (fun h10 => ?_)
              · refine lv_aload_n hx hb dX10_of_151 rfl (lv_at hl 2 rfl) ?_
                refine q_get (index := 19) (ref := "ToolRoomModel") E G inX10 17 0 c17 sg_17 rfl 4 (by decide) tb_425 (Or.inl rfl) rfl dX10_of_152 ?_
                refine lv_iload_n hx hb dX10_of_155 rfl (lv_at hl 1 rfl) ?_
                refine q_iald E G 18 4 (c18 4 (by decide)) sa_18_4 v6 dX10_of_156 ?_
                rw [uI_nf (by decide)]
                exact q_iret E G (by unfold f_X10_of; simp only [if_pos h1, if_pos h3, if_neg h5, if_neg h7, if_neg h8, if_neg h9, if_neg h10, pr_eta]) dX10_of_157
              · refine lv_aload_n hx hb dX10_of_143 rfl (lv_at hl 2 rfl) ?_
                refine lv_iload_n hx hb dX10_of_144 rfl (lv_at hl 1 rfl) ?_
                refine q_cVp E G 17 0 c17 sg_17 (C := RX10) (T := TX10) (N := 21) rfl [] (k_X10_weight l D cy sz ad n (uI S 17 0 17 0) (S.1 18 0 x1.toNatClampNeg) v6) tb_535 tb_537 tp_11 tb_6 tb_538 (nn := 1) (by decide +kernel) ⟨Nat.le_of_ble_eq_true rfl, Nat.le_of_ble_eq_true rfl⟩ rfl hl.1 rfl (Nat.le_of_ble_eq_true rfl) dX10_of_145 ⟨Nat.zero_le _, Nat.zero_le _⟩ (fun H locs G => ?_)
                refine lv_goto (tgt := 157) hx hb dX10_of_148 (by decide) ?_
                exact q_iret E G (by unfold f_X10_of; simp only [if_pos h1, if_pos h3, if_neg h5, if_neg h7, if_neg h8, if_neg h9, if_pos h10, pr_eta]) dX10_of_157
            · refine lv_aload_n hx hb dX10_of_129 rfl (lv_at hl 2 rfl) ?_
              refine q_get (index := 16) (ref := "ToolRoomModel") E G inX10 17 0 c17 sg_17 rfl 3 (by decide) tb_424 (Or.inl rfl) rfl dX10_of_130 ?_
              refine lv_iload_n hx hb dX10_of_133 rfl (lv_at hl 1 rfl) ?_
              refine q_iald E G 18 3 (c18 3 (by decide)) sa_18_3 v6 dX10_of_134 ?_
              rw [uI_nf (by decide)]
              refine lv_goto (tgt := 157) hx hb dX10_of_135 (by decide) ?_
              exact q_iret E G (by unfold f_X10_of; simp only [if_pos h1, if_pos h3, if_neg h5, if_neg h7, if_neg h8, if_pos h9, pr_eta]) dX10_of_157
          · refine lv_aload_n hx hb dX10_of_77 rfl (lv_at hl 1 rfl) ?_
            refine q_get (index := 13) (ref := "ToolRoomModel") E G inX10 17 0 c17 sg_17 rfl 2 (by decide) tb_423 (Or.inl rfl) rfl dX10_of_78 ?_
            refine lv_iload_n hx hb dX10_of_81 rfl (lv_at hl 0 rfl) ?_
            refine q_iald E G 18 2 (c18 2 (by decide)) sa_18_2 v6 dX10_of_82 ?_
            rw [uI_nf (by decide)]
            refine q_cSp E G [] (k_X10_isBlade l D cy sz ad n (uI S 17 0 17 0) (S.1 18 2 (S.1 18 0 x1.toNatClampNeg).toNatClampNeg)) tb_532 tb_533 tb_6 tb_534 (nn := 1) (by decide +kernel) ⟨Nat.le_of_ble_eq_true rfl, Nat.le_of_ble_eq_true rfl⟩ rfl hl.1 rfl (Nat.le_of_ble_eq_true rfl) dX10_of_83 ⟨Nat.zero_le _, Nat.zero_le _⟩ (fun H locs G => ?_)
            refine lv_if_ne (tgt := 93) hx hb dX10_of_86 (by decide) (fun h11 => ?_) (fun h11 => ?_)
            · refine lv_iconst (v := 0) hx hb dX10_of_93 (by decide) ?_
              refine lv_istore (lv' := [(4, .int 0), (3, .int (S.1 18 0 x1.toNatClampNeg)), (0, .ref (ad 17 0)), (1, .int x1), (2, .int x2)]) hx hb dX10_of_94 hl (by decide) rfl (fun ls hl => ?_)
              refine lv_iload hx hb dX10_of_96 (lv_at hl 0 rfl) ?_
              refine lv_if_eq (tgt := 111) hx hb dX10_of_98 (by decide) (fun _ => ?_) (fun h => absurd h (by decide))
              refine lv_iload_n hx hb dX10_of_111 rfl (lv_at hl 4 rfl) ?_
              refine lv_if_ne (tgt := 124) hx hb dX10_of_112 (by decide) (fun _ => ?_) (fun h => absurd h h7)
              refine lv_iload_n hx hb dX10_of_124 rfl (lv_at hl 4 rfl) ?_
              refine lv_iconst (v := 1) hx hb dX10_of_125 (by decide) ?_
              refine lv_icmp_ne (tgt := 138) hx hb dX10_of_126 (by decide) (fun h12 => ?_) (fun h12 => ?_)
              · refine lv_iload_n hx hb dX10_of_138 rfl (lv_at hl 4 rfl) ?_
                refine lv_iconst (v := 2) hx hb dX10_of_139 (by decide) ?_
                refine lv_icmp_ne (tgt := 151) hx hb dX10_of_140 (by decide) (fun h13 => ?_) (fun h13 => ?_)
                · refine lv_aload_n hx hb dX10_of_151 rfl (lv_at hl 2 rfl) ?_
                  refine q_get (index := 19) (ref := "ToolRoomModel") E G inX10 17 0 c17 sg_17 rfl 4 (by decide) tb_425 (Or.inl rfl) rfl dX10_of_152 ?_
                  refine lv_iload_n hx hb dX10_of_155 rfl (lv_at hl 1 rfl) ?_
                  refine q_iald E G 18 4 (c18 4 (by decide)) sa_18_4 v6 dX10_of_156 ?_
                  rw [uI_nf (by decide)]
                  exact q_iret E G (by unfold f_X10_of; simp only [if_pos h1, if_pos h3, if_neg h5, if_neg h7, if_pos h8, if_neg h11, if_neg h12, if_neg h13, pr_eta]) dX10_of_157
                · refine lv_aload_n hx hb dX10_of_143 rfl (lv_at hl 2 rfl) ?_
                  refine lv_iload_n hx hb dX10_of_144 rfl (lv_at hl 1 rfl) ?_
                  refine q_cVp E G 17 0 c17 sg_17 (C := RX10) (T := TX10) (N := 21) rfl [] (k_X10_weight l D cy sz ad n (uI S 17 0 17 0) (S.1 18 0 x1.toNatClampNeg) v6) tb_535 tb_537 tp_11 tb_6 tb_538 (nn := 1) (by decide +kernel) ⟨Nat.le_of_ble_eq_true rfl, Nat.le_of_ble_eq_true rfl⟩ rfl hl.1 rfl (Nat.le_of_ble_eq_true rfl) dX10_of_145 ⟨Nat.zero_le _, Nat.zero_le _⟩ (fun H locs G => ?_)
                  refine lv_goto (tgt := 157) hx hb dX10_of_148 (by decide) ?_
                  exact q_iret E G (by unfold f_X10_of; simp only [if_pos h1, if_pos h3, if_neg h5, if_neg h7, if_pos h8, if_neg h11, if_neg h12, if_pos h13, pr_eta]) dX10_of_157
              · refine lv_aload_n hx hb dX10_of_129 rfl (lv_at hl 2 rfl) ?_
                refine q_get (index := 16) (ref := "ToolRoomModel") E G inX10 17 0 c17 sg_17 rfl 3 (by decide) tb_424 (Or.inl rfl) rfl dX10_of_130 ?_
                refine lv_iload_n hx hb dX10_of_133 rfl (lv_at hl 1 rfl) ?_
                refine q_iald E G 18 3 (c18 3 (by decide)) sa_18_3 v6 dX10_of_134 ?_
                rw [uI_nf (by decide)]
                refine lv_goto (tgt := 157) hx hb dX10_of_135 (by decide) ?_
                exact q_iret E G (by unfold f_X10_of; simp only [if_pos h1, if_pos h3, if_neg h5, if_neg h7, if_pos h8, if_neg h11, if_pos h12, pr_eta]) dX10_of_157
            · refine lv_iconst (v := 4) hx hb dX10_of_89 (by decide) ?_
              refine lv_goto (tgt := 94) hx hb dX10_of_90 (by decide) ?_
              refine lv_istore (lv' := [(4, .int 4), (3, .int (S.1 18 0 x1.toNatClampNeg)), (0, .ref (ad 17 0)), (1, .int x1), (2, .int x2)]) hx hb dX10_of_94 hl (by decide) rfl (fun ls hl => ?_)
              refine lv_iload hx hb dX10_of_96 (lv_at hl 0 rfl) ?_
              refine lv_if_eq (tgt := 111) hx hb dX10_of_98 (by decide) (fun h => absurd h (by decide)) (fun _ => ?_)
              refine lv_aload_n hx hb dX10_of_101 rfl (lv_at hl 2 rfl) ?_
              refine lv_iload hx hb dX10_of_102 (lv_at hl 0 rfl) ?_
              refine q_cV (rest := []) E G 17 0 c17 sg_17 (C := RX10) (T := TX10) (N := 21) rfl (k_X10_fails l D cy sz ad n (uI S 17 0 17 0) 4 (by unfold vp_in; decide)) tb_516 tb_518 tp_10 tb_6 tb_519 (nn := 1) (by decide +kernel) ⟨Nat.le_of_ble_eq_true rfl, Nat.le_of_ble_eq_true rfl⟩ rfl hl.1 rfl (Nat.le_of_ble_eq_true rfl) dX10_of_104 ⟨Nat.zero_le _, Nat.zero_le _⟩ (fun H locs G => ?_)
              refine lv_istore (lv' := [(4, .int (f_X10_fails (uI S 17 0 17 0) 4).1), (3, .int (S.1 18 0 x1.toNatClampNeg)), (0, .ref (ad 17 0)), (1, .int x1), (2, .int x2)]) hx hb dX10_of_107 hl (by decide) rfl (fun ls hl => ?_)
              refine lv_iconst (v := 0) hx hb dX10_of_109 (by decide) ?_
              exact q_iret E G (by unfold f_X10_of; simp only [if_pos h1, if_pos h3, if_neg h5, if_neg h7, if_pos h8, if_pos h11, pr_eta]) dX10_of_110
        · refine lv_aload_n hx hb dX10_of_59 rfl (lv_at hl 1 rfl) ?_
          refine q_get (index := 22) (ref := "ToolRoomModel") E G inX10 17 0 c17 sg_17 rfl 5 (by decide) tb_426 (Or.inl rfl) rfl dX10_of_60 ?_
          refine lv_iload_n hx hb dX10_of_63 rfl (lv_at hl 0 rfl) ?_
          refine q_zald E G 18 5 (c18 5 (by decide)) sa_18_5 v6 dX10_of_64 ?_
          rw [uI_nf (by decide)]
          refine lv_if_ne (tgt := 72) hx hb dX10_of_65 (by decide) (fun h14 => ?_) (fun h14 => ?_)
          · refine lv_iload_n hx hb dX10_of_72 rfl (lv_at hl 3 rfl) ?_
            refine lv_iconst (v := 3) hx hb dX10_of_73 (by decide) ?_
            refine lv_icmp_ne (tgt := 93) hx hb dX10_of_74 (by decide) (fun h15 => ?_) (fun h15 => ?_)
            · refine lv_iconst (v := 0) hx hb dX10_of_93 (by decide) ?_
              refine lv_istore (lv' := [(4, .int 0), (3, .int (S.1 18 0 x1.toNatClampNeg)), (0, .ref (ad 17 0)), (1, .int x1), (2, .int x2)]) hx hb dX10_of_94 hl (by decide) rfl (fun ls hl => ?_)
              refine lv_iload hx hb dX10_of_96 (lv_at hl 0 rfl) ?_
              refine lv_if_eq (tgt := 111) hx hb dX10_of_98 (by decide) (fun _ => ?_) (fun h => absurd h (by decide))
              refine lv_iload_n hx hb dX10_of_111 rfl (lv_at hl 4 rfl) ?_
              refine lv_if_ne (tgt := 124) hx hb dX10_of_112 (by decide) (fun h => absurd h7 h) (fun _ => ?_)
              refine lv_aload_n hx hb dX10_of_115 rfl (lv_at hl 2 rfl) ?_
              refine q_get (index := 26) (ref := "ToolRoomModel") E G inX10 17 0 c17 sg_17 rfl 6 (by decide) tb_427 (Or.inl rfl) rfl dX10_of_116 ?_
              refine lv_iload_n hx hb dX10_of_119 rfl (lv_at hl 1 rfl) ?_
              refine q_iald E G 18 6 (c18 6 (by decide)) sa_18_6 v6 dX10_of_120 ?_
              rw [uI_nf (by decide)]
              refine lv_goto (tgt := 157) hx hb dX10_of_121 (by decide) ?_
              exact q_iret E G (by unfold f_X10_of; simp only [if_pos h1, if_pos h3, if_neg h5, if_pos h7, if_neg h14, if_neg h15, pr_eta]) dX10_of_157
            · refine lv_aload_n hx hb dX10_of_77 rfl (lv_at hl 1 rfl) ?_
              refine q_get (index := 13) (ref := "ToolRoomModel") E G inX10 17 0 c17 sg_17 rfl 2 (by decide) tb_423 (Or.inl rfl) rfl dX10_of_78 ?_
              refine lv_iload_n hx hb dX10_of_81 rfl (lv_at hl 0 rfl) ?_
              refine q_iald E G 18 2 (c18 2 (by decide)) sa_18_2 v6 dX10_of_82 ?_
              rw [uI_nf (by decide)]
              refine q_cSp E G [] (k_X10_isBlade l D cy sz ad n (uI S 17 0 17 0) (S.1 18 2 (S.1 18 0 x1.toNatClampNeg).toNatClampNeg)) tb_532 tb_533 tb_6 tb_534 (nn := 1) (by decide +kernel) ⟨Nat.le_of_ble_eq_true rfl, Nat.le_of_ble_eq_true rfl⟩ rfl hl.1 rfl (Nat.le_of_ble_eq_true rfl) dX10_of_83 ⟨Nat.zero_le _, Nat.zero_le _⟩ (fun H locs G => ?_)
              refine lv_if_ne (tgt := 93) hx hb dX10_of_86 (by decide) (fun h16 => ?_) (fun h16 => ?_)
              · refine lv_iconst (v := 0) hx hb dX10_of_93 (by decide) ?_
                refine lv_istore (lv' := [(4, .int 0), (3, .int (S.1 18 0 x1.toNatClampNeg)), (0, .ref (ad 17 0)), (1, .int x1), (2, .int x2)]) hx hb dX10_of_94 hl (by decide) rfl (fun ls hl => ?_)
                refine lv_iload hx hb dX10_of_96 (lv_at hl 0 rfl) ?_
                refine lv_if_eq (tgt := 111) hx hb dX10_of_98 (by decide) (fun _ => ?_) (fun h => absurd h (by decide))
                refine lv_iload_n hx hb dX10_of_111 rfl (lv_at hl 4 rfl) ?_
                refine lv_if_ne (tgt := 124) hx hb dX10_of_112 (by decide) (fun h => absurd h7 h) (fun _ => ?_)
                refine lv_aload_n hx hb dX10_of_115 rfl (lv_at hl 2 rfl) ?_
                refine q_get (index := 26) (ref := "ToolRoomModel") E G inX10 17 0 c17 sg_17 rfl 6 (by decide) tb_427 (Or.inl rfl) rfl dX10_of_116 ?_
                refine lv_iload_n hx hb dX10_of_119 rfl (lv_at hl 1 rfl) ?_
                refine q_iald E G 18 6 (c18 6 (by decide)) sa_18_6 v6 dX10_of_120 ?_
                rw [uI_nf (by decide)]
                refine lv_goto (tgt := 157) hx hb dX10_of_121 (by decide) ?_
                exact q_iret E G (by unfold f_X10_of; simp only [if_pos h1, if_pos h3, if_neg h5, if_pos h7, if_neg h14, if_pos h15, if_neg h16, pr_eta]) dX10_of_157
              · refine lv_iconst (v := 4) hx hb dX10_of_89 (by decide) ?_
                refine lv_goto (tgt := 94) hx hb dX10_of_90 (by decide) ?_
                refine lv_istore (lv' := [(4, .int 4), (3, .int (S.1 18 0 x1.toNatClampNeg)), (0, .ref (ad 17 0)), (1, .int x1), (2, .int x2)]) hx hb dX10_of_94 hl (by decide) rfl (fun ls hl => ?_)
                refine lv_iload hx hb dX10_of_96 (lv_at hl 0 rfl) ?_
                refine lv_if_eq (tgt := 111) hx hb dX10_of_98 (by decide) (fun h => absurd h (by decide)) (fun _ => ?_)
                refine lv_aload_n hx hb dX10_of_101 rfl (lv_at hl 2 rfl) ?_
                refine lv_iload hx hb dX10_of_102 (lv_at hl 0 rfl) ?_
                refine q_cV (rest := []) E G 17 0 c17 sg_17 (C := RX10) (T := TX10) (N := 21) rfl (k_X10_fails l D cy sz ad n (uI S 17 0 17 0) 4 (by unfold vp_in; decide)) tb_516 tb_518 tp_10 tb_6 tb_519 (nn := 1) (by decide +kernel) ⟨Nat.le_of_ble_eq_true rfl, Nat.le_of_ble_eq_true rfl⟩ rfl hl.1 rfl (Nat.le_of_ble_eq_true rfl) dX10_of_104 ⟨Nat.zero_le _, Nat.zero_le _⟩ (fun H locs G => ?_)
                refine lv_istore (lv' := [(4, .int (f_X10_fails (uI S 17 0 17 0) 4).1), (3, .int (S.1 18 0 x1.toNatClampNeg)), (0, .ref (ad 17 0)), (1, .int x1), (2, .int x2)]) hx hb dX10_of_107 hl (by decide) rfl (fun ls hl => ?_)
                refine lv_iconst (v := 0) hx hb dX10_of_109 (by decide) ?_
                exact q_iret E G (by unfold f_X10_of; simp only [if_pos h1, if_pos h3, if_neg h5, if_pos h7, if_neg h14, if_pos h15, if_pos h16, pr_eta]) dX10_of_110
          · refine lv_iconst (v := 1) hx hb dX10_of_68 (by decide) ?_
            refine lv_goto (tgt := 94) hx hb dX10_of_69 (by decide) ?_
            refine lv_istore (lv' := [(4, .int 1), (3, .int (S.1 18 0 x1.toNatClampNeg)), (0, .ref (ad 17 0)), (1, .int x1), (2, .int x2)]) hx hb dX10_of_94 hl (by decide) rfl (fun ls hl => ?_)
            refine lv_iload hx hb dX10_of_96 (lv_at hl 0 rfl) ?_
            refine lv_if_eq (tgt := 111) hx hb dX10_of_98 (by decide) (fun h => absurd h (by decide)) (fun _ => ?_)
            refine lv_aload_n hx hb dX10_of_101 rfl (lv_at hl 2 rfl) ?_
            refine lv_iload hx hb dX10_of_102 (lv_at hl 0 rfl) ?_
            refine q_cV (rest := []) E G 17 0 c17 sg_17 (C := RX10) (T := TX10) (N := 21) rfl (k_X10_fails l D cy sz ad n (uI S 17 0 17 0) 1 (by unfold vp_in; decide)) tb_516 tb_518 tp_10 tb_6 tb_519 (nn := 1) (by decide +kernel) ⟨Nat.le_of_ble_eq_true rfl, Nat.le_of_ble_eq_true rfl⟩ rfl hl.1 rfl (Nat.le_of_ble_eq_true rfl) dX10_of_104 ⟨Nat.zero_le _, Nat.zero_le _⟩ (fun H locs G => ?_)
            refine lv_istore (lv' := [(4, .int (f_X10_fails (uI S 17 0 17 0) 1).1), (3, .int (S.1 18 0 x1.toNatClampNeg)), (0, .ref (ad 17 0)), (1, .int x1), (2, .int x2)]) hx hb dX10_of_107 hl (by decide) rfl (fun ls hl => ?_)
            refine lv_iconst (v := 0) hx hb dX10_of_109 (by decide) ?_
            exact q_iret E G (by unfold f_X10_of; simp only [if_pos h1, if_pos h3, if_neg h5, if_pos h7, if_pos h14, pr_eta]) dX10_of_110
    · refine q_cSp E G [.ref (ad 17 0)] (k_X10_in_f l D cy sz ad n S x2 0 3 h3) tb_489 tb_490 tb_6 tb_491 (nn := 3) (by decide +kernel) ⟨Nat.le_of_ble_eq_true rfl, Nat.le_of_ble_eq_true rfl⟩ rfl hl.1 rfl (Nat.le_of_ble_eq_true rfl) dX10_of_19 ⟨Nat.zero_le _, Nat.zero_le _⟩ (fun H locs G => ?_)
      refine lv_if_ne (tgt := 30) hx hb dX10_of_22 (by decide) (fun h => absurd h (by decide)) (fun _ => ?_)
      refine lv_bipush (v := (-3)) hx hb dX10_of_25 (by decide) ?_
      refine lv_goto (tgt := 31) hx hb dX10_of_27 (by decide) ?_
      refine q_put (index := 62) (ref := "ToolRoomModel") E G inX10 tyX10 tyX10_ok nmX10 17 0 c17 17 sg_17 rfl 17 (by decide) tb_438 (Or.inl rfl) rfl (ty := .int) (by decide +kernel) rfl rfl (Nat.le_of_ble_eq_true rfl) sp_17_17 dX10_of_31 (fun H locs G => ?_)
      refine lv_aload_n hx hb dX10_of_34 rfl (lv_at hl 0 rfl) ?_
      refine q_get (index := 62) (ref := "ToolRoomModel") E G inX10 17 0 c17 sg_17 rfl 17 (by decide) tb_438 (Or.inl rfl) rfl dX10_of_35 ?_
      rw [uI_self]
      refine lv_if_eq (tgt := 43) hx hb dX10_of_38 (by decide) (fun h => absurd h (by decide)) (fun _ => ?_)
      refine lv_iconst (v := 0) hx hb dX10_of_41 (by decide) ?_
      exact q_iret E G (by unfold f_X10_of; simp only [if_pos h1, if_neg h3, pr_eta]) dX10_of_42
  · refine q_cSp E G [.ref (ad 17 0)] (k_X10_in_f l D cy sz ad n S x1 0 9 h1) tb_489 tb_490 tb_6 tb_491 (nn := 3) (by decide +kernel) ⟨Nat.le_of_ble_eq_true rfl, Nat.le_of_ble_eq_true rfl⟩ rfl hl.1 rfl (Nat.le_of_ble_eq_true rfl) dX10_of_5 ⟨Nat.zero_le _, Nat.zero_le _⟩ (fun H locs G => ?_)
    refine lv_if_ne (tgt := 16) hx hb dX10_of_8 (by decide) (fun h => absurd h (by decide)) (fun _ => ?_)
    refine lv_bipush (v := (-2)) hx hb dX10_of_11 (by decide) ?_
    refine lv_goto (tgt := 31) hx hb dX10_of_13 (by decide) ?_
    refine q_put (index := 62) (ref := "ToolRoomModel") E G inX10 tyX10 tyX10_ok nmX10 17 0 c17 17 sg_17 rfl 17 (by decide) tb_438 (Or.inl rfl) rfl (ty := .int) (by decide +kernel) rfl rfl (Nat.le_of_ble_eq_true rfl) sp_17_17 dX10_of_31 (fun H locs G => ?_)
    refine lv_aload_n hx hb dX10_of_34 rfl (lv_at hl 0 rfl) ?_
    refine q_get (index := 62) (ref := "ToolRoomModel") E G inX10 17 0 c17 sg_17 rfl 17 (by decide) tb_438 (Or.inl rfl) rfl dX10_of_35 ?_
    rw [uI_self]
    refine lv_if_eq (tgt := 43) hx hb dX10_of_38 (by decide) (fun h => absurd h (by decide)) (fun _ => ?_)
    refine lv_iconst (v := 0) hx hb dX10_of_41 (by decide) ?_
    exact q_iret E G (by unfold f_X10_of; simp only [if_neg h1, pr_eta]) dX10_of_42

def f_X10_hone (S : SS) (x1 : Int32) (x2 : Int32) : Int32 × SS := if wj x1 0 9 = true then (if (S.1 18 0 x1.toNatClampNeg) = (-1) then (f_X10_fails S 1) else (if (pB (S.1 18 2 (S.1 18 0 x1.toNatClampNeg).toNatClampNeg)) = 0 then (f_X10_fails S 4) else (f_X10_says (uI S 18 4 (S.1 18 0 x1.toNatClampNeg).toNatClampNeg x2) 1))) else (f_X10_refuses S (-2))
set_option maxHeartbeats 4000000 in
set_option maxRecDepth 100000 in
theorem k_X10_hone (l : Launch) (D : va_G) (cy : Nat → ClassId) (sz : Nat) (ad : Nat → Nat → Nat) (n : Nat) (S : SS) (ok : okM S) (x1 : Int32) (x2 : Int32) : CI l yX10_hone cX10_hone 4 (some .int) 1 22 [.ref (ad 17 0), .int x1, .int x2] D cy sz ad n S (f_X10_hone S x1 x2) := by
  refine Met.enter (by decide) (Nat.le_of_ble_eq_true rfl) (fun p e s m args below meth c ls E G hl => ?_)
  have E : En p s m args meth c cX10_hone 4 (some .int) RX10 D cy sz := E
  obtain ⟨hx, hb, hrt, hml, hown, hw, hlk, hK, hF, hsz⟩ := id E
  have hl : lv_has ls 4 [(0, .ref (ad 17 0)), (1, .int x1), (2, .int x2)] := hl
  refine lv_iload_n hx hb dX10_hone_0 rfl (lv_at hl 1 rfl) ?_
  refine lv_iconst (v := 0) hx hb dX10_hone_1 (by decide) ?_
  refine lv_bipush (v := 9) hx hb dX10_hone_2 (by decide) ?_
  by_cases h1 : wj x1 0 9 = true
  · have v2 : vp_in x1 10 := wj_in h1 (by decide) (by decide)
    refine q_cSp E G [] (k_X10_in_t l D cy sz ad n S x1 0 9 h1) tb_489 tb_490 tb_6 tb_491 (nn := 3) (by decide +kernel) ⟨Nat.le_of_ble_eq_true rfl, Nat.le_of_ble_eq_true rfl⟩ rfl hl.1 rfl (Nat.le_of_ble_eq_true rfl) dX10_hone_4 ⟨Nat.zero_le _, Nat.zero_le _⟩ (fun H locs G => ?_)
    refine lv_if_ne (tgt := 17) hx hb dX10_hone_7 (by decide) (fun _ => ?_) (fun h => absurd h (by decide))
    refine lv_aload_n hx hb dX10_hone_17 rfl (lv_at hl 0 rfl) ?_
    refine q_get (index := 7) (ref := "ToolRoomModel") E G inX10 17 0 c17 sg_17 rfl 0 (by decide) tb_421 (Or.inl rfl) rfl dX10_hone_18 ?_
    refine lv_iload_n hx hb dX10_hone_21 rfl (lv_at hl 1 rfl) ?_
    refine q_iald E G 18 0 (c18 0 (by decide)) sa_18_0 v2 dX10_hone_22 ?_
    refine lv_istore_n (lv' := [(3, .int (S.1 18 0 x1.toNatClampNeg)), (0, .ref (ad 17 0)), (1, .int x1), (2, .int x2)]) hx hb dX10_hone_23 rfl hl (by decide) rfl (fun ls hl => ?_)
    refine lv_iload_n hx hb dX10_hone_24 rfl (lv_at hl 0 rfl) ?_
    refine lv_iconst (v := (-1)) hx hb dX10_hone_25 (by decide) ?_
    refine lv_icmp_eq (tgt := 41) hx hb dX10_hone_26 (by decide) (fun h3 => ?_) (fun h3 => ?_)
    · refine lv_aload_n hx hb dX10_hone_41 rfl (lv_at hl 1 rfl) ?_
      refine lv_iload_n hx hb dX10_hone_42 rfl (lv_at hl 0 rfl) ?_
      refine lv_iconst (v := (-1)) hx hb dX10_hone_43 (by decide) ?_
      refine lv_icmp_ne (tgt := 51) hx hb dX10_hone_44 (by decide) (fun h => absurd h3 h) (fun _ => ?_)
      refine lv_iconst (v := 1) hx hb dX10_hone_47 (by decide) ?_
      refine lv_goto (tgt := 52) hx hb dX10_hone_48 (by decide) ?_
      refine q_cV (rest := []) E G 17 0 c17 sg_17 (C := RX10) (T := TX10) (N := 21) rfl (k_X10_fails l D cy sz ad n S 1 (by unfold vp_in; decide)) tb_516 tb_518 tp_10 tb_6 tb_519 (nn := 1) (by decide +kernel) ⟨Nat.le_of_ble_eq_true rfl, Nat.le_of_ble_eq_true rfl⟩ rfl hl.1 rfl (Nat.le_of_ble_eq_true rfl) dX10_hone_52 ⟨Nat.zero_le _, Nat.zero_le _⟩ (fun H locs G => ?_)
      exact q_iret E G (by unfold f_X10_hone; simp only [if_pos h1, if_pos h3, pr_eta]) dX10_hone_55
    · have v4 : vp_in (S.1 18 0 x1.toNatClampNeg) 600 := (ok.1 _ (vp_lt v2)).resolve_left h3
      refine lv_aload_n hx hb dX10_hone_29 rfl (lv_at hl 1 rfl) ?_
      refine q_get (index := 13) (ref := "ToolRoomModel") E G inX10 17 0 c17 sg_17 rfl 2 (by decide) tb_423 (Or.inl rfl) rfl dX10_hone_30 ?_
      refine lv_iload_n hx hb dX10_hone_33 rfl (lv_at hl 0 rfl) ?_
      refine q_iald E G 18 2 (c18 2 (by decide)) sa_18_2 v4 dX10_hone_34 ?_
      refine q_cSp E G [] (k_X10_isBlade l D cy sz ad n S (S.1 18 2 (S.1 18 0 x1.toNatClampNeg).toNatClampNeg)) tb_532 tb_533 tb_6 tb_534 (nn := 1) (by decide +kernel) ⟨Nat.le_of_ble_eq_true rfl, Nat.le_of_ble_eq_true rfl⟩ rfl hl.1 rfl (Nat.le_of_ble_eq_true rfl) dX10_hone_35 ⟨Nat.zero_le _, Nat.zero_le _⟩ (fun H locs G => ?_)
      refine lv_if_ne (tgt := 56) hx hb dX10_hone_38 (by decide) (fun h5 => ?_) (fun h5 => ?_)
      · refine lv_aload_n hx hb dX10_hone_56 rfl (lv_at hl 1 rfl) ?_
        refine q_get (index := 19) (ref := "ToolRoomModel") E G inX10 17 0 c17 sg_17 rfl 4 (by decide) tb_425 (Or.inl rfl) rfl dX10_hone_57 ?_
        refine lv_iload_n hx hb dX10_hone_60 rfl (lv_at hl 0 rfl) ?_
        refine lv_iload_n hx hb dX10_hone_61 rfl (lv_at hl 3 rfl) ?_
        refine q_iast E G 18 4 (c18 4 (by decide)) (fun _ => sa_18_4) v4 dX10_hone_62 (fun H locs G => ?_)
        refine lv_aload_n hx hb dX10_hone_63 rfl (lv_at hl 1 rfl) ?_
        refine lv_iconst (v := 1) hx hb dX10_hone_64 (by decide) ?_
        refine q_cV (rest := []) E G 17 0 c17 sg_17 (C := RX10) (T := TX10) (N := 21) rfl (k_X10_says l D cy sz ad n (uI S 18 4 (S.1 18 0 x1.toNatClampNeg).toNatClampNeg x2) 1) tb_496 tb_498 tp_9 tb_6 tb_499 (nn := 1) (by decide +kernel) ⟨Nat.le_of_ble_eq_true rfl, Nat.le_of_ble_eq_true rfl⟩ rfl hl.1 rfl (Nat.le_of_ble_eq_true rfl) dX10_hone_65 ⟨Nat.zero_le _, Nat.zero_le _⟩ (fun H locs G => ?_)
        exact q_iret E G (by unfold f_X10_hone; simp only [if_pos h1, if_neg h3, if_neg h5, pr_eta]) dX10_hone_68
      · refine lv_aload_n hx hb dX10_hone_41 rfl (lv_at hl 1 rfl) ?_
        refine lv_iload_n hx hb dX10_hone_42 rfl (lv_at hl 0 rfl) ?_
        refine lv_iconst (v := (-1)) hx hb dX10_hone_43 (by decide) ?_
        refine lv_icmp_ne (tgt := 51) hx hb dX10_hone_44 (by decide) (fun _ => ?_) (fun h => absurd h h3)
        refine lv_iconst (v := 4) hx hb dX10_hone_51 (by decide) ?_
        refine q_cV (rest := []) E G 17 0 c17 sg_17 (C := RX10) (T := TX10) (N := 21) rfl (k_X10_fails l D cy sz ad n S 4 (by unfold vp_in; decide)) tb_516 tb_518 tp_10 tb_6 tb_519 (nn := 1) (by decide +kernel) ⟨Nat.le_of_ble_eq_true rfl, Nat.le_of_ble_eq_true rfl⟩ rfl hl.1 rfl (Nat.le_of_ble_eq_true rfl) dX10_hone_52 ⟨Nat.zero_le _, Nat.zero_le _⟩ (fun H locs G => ?_)
        exact q_iret E G (by unfold f_X10_hone; simp only [if_pos h1, if_neg h3, if_pos h5, pr_eta]) dX10_hone_55
  · refine q_cSp E G [] (k_X10_in_f l D cy sz ad n S x1 0 9 h1) tb_489 tb_490 tb_6 tb_491 (nn := 3) (by decide +kernel) ⟨Nat.le_of_ble_eq_true rfl, Nat.le_of_ble_eq_true rfl⟩ rfl hl.1 rfl (Nat.le_of_ble_eq_true rfl) dX10_hone_4 ⟨Nat.zero_le _, Nat.zero_le _⟩ (fun H locs G => ?_)
    refine lv_if_ne (tgt := 17) hx hb dX10_hone_7 (by decide) (fun h => absurd h (by decide)) (fun _ => ?_)
    refine lv_aload_n hx hb dX10_hone_10 rfl (lv_at hl 0 rfl) ?_
    refine lv_bipush (v := (-2)) hx hb dX10_hone_11 (by decide) ?_
    refine q_cV (rest := []) E G 17 0 c17 sg_17 (C := RX10) (T := TX10) (N := 21) rfl (k_X10_refuses l D cy sz ad n S (-2)) tb_492 tb_494 tp_8 tb_6 tb_495 (nn := 1) (by decide +kernel) ⟨Nat.le_of_ble_eq_true rfl, Nat.le_of_ble_eq_true rfl⟩ rfl hl.1 rfl (Nat.le_of_ble_eq_true rfl) dX10_hone_13 ⟨Nat.zero_le _, Nat.zero_le _⟩ (fun H locs G => ?_)
    exact q_iret E G (by unfold f_X10_hone; simp only [if_neg h1, pr_eta]) dX10_hone_16

def f_X10_use (S : SS) (x1 : Int32) (x2 : Int32) : Int32 × SS := if wj x1 0 9 = true then (if (S.1 18 0 x1.toNatClampNeg) = (-1) then (0, (f_X10_fails (uI S 17 0 17 0) 1).2) else (f_X10_used (uI S 17 0 17 0) (S.1 18 0 x1.toNatClampNeg) x2)) else (0, (uI S 17 0 17 (-2)))
set_option maxHeartbeats 4000000 in
set_option maxRecDepth 100000 in
theorem k_X10_use (l : Launch) (D : va_G) (cy : Nat → ClassId) (sz : Nat) (ad : Nat → Nat → Nat) (n : Nat) (S : SS) (ok : okM S) (x1 : Int32) (x2 : Int32) : CI l yX10_use cX10_use 4 (some .int) 1 23 [.ref (ad 17 0), .int x1, .int x2] D cy sz ad n S (f_X10_use S x1 x2) := by
  refine Met.enter (by decide) (Nat.le_of_ble_eq_true rfl) (fun p e s m args below meth c ls E G hl => ?_)
  have E : En p s m args meth c cX10_use 4 (some .int) RX10 D cy sz := E
  obtain ⟨hx, hb, hrt, hml, hown, hw, hlk, hK, hF, hsz⟩ := id E
  have hl : lv_has ls 4 [(0, .ref (ad 17 0)), (1, .int x1), (2, .int x2)] := hl
  refine lv_aload_n hx hb dX10_use_0 rfl (lv_at hl 0 rfl) ?_
  refine lv_iload_n hx hb dX10_use_1 rfl (lv_at hl 1 rfl) ?_
  refine lv_iconst (v := 0) hx hb dX10_use_2 (by decide) ?_
  refine lv_bipush (v := 9) hx hb dX10_use_3 (by decide) ?_
  by_cases h1 : wj x1 0 9 = true
  · have v2 : vp_in x1 10 := wj_in h1 (by decide) (by decide)
    refine q_cSp E G [.ref (ad 17 0)] (k_X10_in_t l D cy sz ad n S x1 0 9 h1) tb_489 tb_490 tb_6 tb_491 (nn := 3) (by decide +kernel) ⟨Nat.le_of_ble_eq_true rfl, Nat.le_of_ble_eq_true rfl⟩ rfl hl.1 rfl (Nat.le_of_ble_eq_true rfl) dX10_use_5 ⟨Nat.zero_le _, Nat.zero_le _⟩ (fun H locs G => ?_)
    refine lv_if_eq (tgt := 15) hx hb dX10_use_8 (by decide) (fun h => absurd h (by decide)) (fun _ => ?_)
    refine lv_iconst (v := 0) hx hb dX10_use_11 (by decide) ?_
    refine lv_goto (tgt := 17) hx hb dX10_use_12 (by decide) ?_
    refine q_put (index := 62) (ref := "ToolRoomModel") E G inX10 tyX10 tyX10_ok nmX10 17 0 c17 17 sg_17 rfl 17 (by decide) tb_438 (Or.inl rfl) rfl (ty := .int) (by decide +kernel) rfl rfl (Nat.le_of_ble_eq_true rfl) sp_17_17 dX10_use_17 (fun H locs G => ?_)
    refine lv_aload_n hx hb dX10_use_20 rfl (lv_at hl 0 rfl) ?_
    refine q_get (index := 62) (ref := "ToolRoomModel") E G inX10 17 0 c17 sg_17 rfl 17 (by decide) tb_438 (Or.inl rfl) rfl dX10_use_21 ?_
    rw [uI_self]
    refine lv_if_eq (tgt := 29) hx hb dX10_use_24 (by decide) (fun _ => ?_) (fun h => absurd h (by decide))
    refine lv_aload_n hx hb dX10_use_29 rfl (lv_at hl 0 rfl) ?_
    refine q_get (index := 7) (ref := "ToolRoomModel") E G inX10 17 0 c17 sg_17 rfl 0 (by decide) tb_421 (Or.inl rfl) rfl dX10_use_30 ?_
    refine lv_iload_n hx hb dX10_use_33 rfl (lv_at hl 1 rfl) ?_
    refine q_iald E G 18 0 (c18 0 (by decide)) sa_18_0 v2 dX10_use_34 ?_
    rw [uI_nf (by decide)]
    refine lv_iconst (v := (-1)) hx hb dX10_use_35 (by decide) ?_
    refine lv_icmp_ne (tgt := 47) hx hb dX10_use_36 (by decide) (fun h3 => ?_) (fun h3 => ?_)
    · have v4 : vp_in (S.1 18 0 x1.toNatClampNeg) 600 := (ok.1 _ (vp_lt v2)).resolve_left h3
      refine lv_iconst (v := 0) hx hb dX10_use_47 (by decide) ?_
      refine lv_istore_n (lv' := [(3, .int 0), (0, .ref (ad 17 0)), (1, .int x1), (2, .int x2)]) hx hb dX10_use_48 rfl hl (by decide) rfl (fun ls hl => ?_)
      refine lv_iload_n hx hb dX10_use_49 rfl (lv_at hl 0 rfl) ?_
      refine lv_if_eq (tgt := 57) hx hb dX10_use_50 (by decide) (fun _ => ?_) (fun h => absurd h (by decide))
      refine lv_aload_n hx hb dX10_use_57 rfl (lv_at hl 1 rfl) ?_
      refine lv_aload_n hx hb dX10_use_58 rfl (lv_at hl 1 rfl) ?_
      refine q_get (index := 7) (ref := "ToolRoomModel") E G inX10 17 0 c17 sg_17 rfl 0 (by decide) tb_421 (Or.inl rfl) rfl dX10_use_59 ?_
      refine lv_iload_n hx hb dX10_use_62 rfl (lv_at hl 2 rfl) ?_
      refine q_iald E G 18 0 (c18 0 (by decide)) sa_18_0 v2 dX10_use_63 ?_
      rw [uI_nf (by decide)]
      refine lv_iload_n hx hb dX10_use_64 rfl (lv_at hl 3 rfl) ?_
      refine q_cV (rest := []) E G 17 0 c17 sg_17 (C := RX10) (T := TX10) (N := 21) rfl (k_X10_used l D cy sz ad n (uI S 17 0 17 0) (S.1 18 0 x1.toNatClampNeg) x2 v4) tb_547 tb_549 tp_12 tb_6 tb_550 (nn := 2) (by decide +kernel) ⟨Nat.le_of_ble_eq_true rfl, Nat.le_of_ble_eq_true rfl⟩ rfl hl.1 rfl (Nat.le_of_ble_eq_true rfl) dX10_use_65 ⟨Nat.zero_le _, Nat.zero_le _⟩ (fun H locs G => ?_)
      exact q_iret E G (by unfold f_X10_use; simp only [if_pos h1, if_neg h3, pr_eta]) dX10_use_68
    · refine lv_aload_n hx hb dX10_use_39 rfl (lv_at hl 0 rfl) ?_
      refine lv_iconst (v := 1) hx hb dX10_use_40 (by decide) ?_
      refine q_cV (rest := []) E G 17 0 c17 sg_17 (C := RX10) (T := TX10) (N := 21) rfl (k_X10_fails l D cy sz ad n (uI S 17 0 17 0) 1 (by unfold vp_in; decide)) tb_516 tb_518 tp_10 tb_6 tb_519 (nn := 1) (by decide +kernel) ⟨Nat.le_of_ble_eq_true rfl, Nat.le_of_ble_eq_true rfl⟩ rfl hl.1 rfl (Nat.le_of_ble_eq_true rfl) dX10_use_41 ⟨Nat.zero_le _, Nat.zero_le _⟩ (fun H locs G => ?_)
      refine lv_goto (tgt := 48) hx hb dX10_use_44 (by decide) ?_
      refine lv_istore_n (lv' := [(3, .int (f_X10_fails (uI S 17 0 17 0) 1).1), (0, .ref (ad 17 0)), (1, .int x1), (2, .int x2)]) hx hb dX10_use_48 rfl hl (by decide) rfl (fun ls hl => ?_)
      refine lv_iload_n hx hb dX10_use_49 rfl (lv_at hl 0 rfl) ?_
      refine lv_if_eq (tgt := 57) hx hb dX10_use_50 (by decide) (fun h => absurd h (fails_ne1 _)) (fun _ => ?_)
      refine lv_iconst (v := 0) hx hb dX10_use_53 (by decide) ?_
      refine lv_goto (tgt := 68) hx hb dX10_use_54 (by decide) ?_
      exact q_iret E G (by unfold f_X10_use; simp only [if_pos h1, if_pos h3, pr_eta]) dX10_use_68
  · refine q_cSp E G [.ref (ad 17 0)] (k_X10_in_f l D cy sz ad n S x1 0 9 h1) tb_489 tb_490 tb_6 tb_491 (nn := 3) (by decide +kernel) ⟨Nat.le_of_ble_eq_true rfl, Nat.le_of_ble_eq_true rfl⟩ rfl hl.1 rfl (Nat.le_of_ble_eq_true rfl) dX10_use_5 ⟨Nat.zero_le _, Nat.zero_le _⟩ (fun H locs G => ?_)
    refine lv_if_eq (tgt := 15) hx hb dX10_use_8 (by decide) (fun _ => ?_) (fun h => absurd h (by decide))
    refine lv_bipush (v := (-2)) hx hb dX10_use_15 (by decide) ?_
    refine q_put (index := 62) (ref := "ToolRoomModel") E G inX10 tyX10 tyX10_ok nmX10 17 0 c17 17 sg_17 rfl 17 (by decide) tb_438 (Or.inl rfl) rfl (ty := .int) (by decide +kernel) rfl rfl (Nat.le_of_ble_eq_true rfl) sp_17_17 dX10_use_17 (fun H locs G => ?_)
    refine lv_aload_n hx hb dX10_use_20 rfl (lv_at hl 0 rfl) ?_
    refine q_get (index := 62) (ref := "ToolRoomModel") E G inX10 17 0 c17 sg_17 rfl 17 (by decide) tb_438 (Or.inl rfl) rfl dX10_use_21 ?_
    rw [uI_self]
    refine lv_if_eq (tgt := 29) hx hb dX10_use_24 (by decide) (fun h => absurd h (by decide)) (fun _ => ?_)
    refine lv_iconst (v := 0) hx hb dX10_use_27 (by decide) ?_
    exact q_iret E G (by unfold f_X10_use; simp only [if_neg h1, pr_eta]) dX10_use_28

def f_X10_lose (S : SS) (x1 : Int32) (x2 : Int32) : Int32 × SS := if wj x1 0 2 = true then (if (pT x1 x2) = 0 then (f_X10_refuses S (-2)) else (if 0 ≤ (pZ S x1 x2) then (if x1 = 0 then (f_X10_says (uI S 18 7 x2.toNatClampNeg (-1)) 1) else (if x1 = 1 then (f_X10_says (uI S 18 9 x2.toNatClampNeg (-1)) 1) else (f_X10_says (uI S 18 12 x2.toNatClampNeg (-1)) 1))) else (if x1 = 0 then (f_X10_says (uI S 18 7 x2.toNatClampNeg (-1)) 0) else (if x1 = 1 then (f_X10_says (uI S 18 9 x2.toNatClampNeg (-1)) 0) else (f_X10_says (uI S 18 12 x2.toNatClampNeg (-1)) 0))))) else (f_X10_refuses S (-3))
set_option maxHeartbeats 4000000 in
set_option maxRecDepth 100000 in
theorem k_X10_lose (l : Launch) (D : va_G) (cy : Nat → ClassId) (sz : Nat) (ad : Nat → Nat → Nat) (n : Nat) (S : SS) (ok : okM S) (x1 : Int32) (x2 : Int32) : CI l yX10_lose cX10_lose 4 (some .int) 2 43 [.ref (ad 17 0), .int x1, .int x2] D cy sz ad n S (f_X10_lose S x1 x2) := by
  refine Met.enter (by decide) (Nat.le_of_ble_eq_true rfl) (fun p e s m args below meth c ls E G hl => ?_)
  have E : En p s m args meth c cX10_lose 4 (some .int) RX10 D cy sz := E
  obtain ⟨hx, hb, hrt, hml, hown, hw, hlk, hK, hF, hsz⟩ := id E
  have hl : lv_has ls 4 [(0, .ref (ad 17 0)), (1, .int x1), (2, .int x2)] := hl
  refine lv_iload_n hx hb dX10_lose_0 rfl (lv_at hl 1 rfl) ?_
  refine lv_iconst (v := 0) hx hb dX10_lose_1 (by decide) ?_
  refine lv_iconst (v := 2) hx hb dX10_lose_2 (by decide) ?_
  by_cases h1 : wj x1 0 2 = true
  · have v2 : vp_in x1 3 := wj_in h1 (by decide) (by decide)
    refine q_cSp E G [] (k_X10_in_t l D cy sz ad n S x1 0 2 h1) tb_489 tb_490 tb_6 tb_491 (nn := 3) (by decide +kernel) ⟨Nat.le_of_ble_eq_true rfl, Nat.le_of_ble_eq_true rfl⟩ rfl hl.1 rfl (Nat.le_of_ble_eq_true rfl) dX10_lose_3 ⟨Nat.zero_le _, Nat.zero_le _⟩ (fun H locs G => ?_)
    refine lv_if_ne (tgt := 16) hx hb dX10_lose_6 (by decide) (fun _ => ?_) (fun h => absurd h (by decide))
    refine lv_iload_n hx hb dX10_lose_16 rfl (lv_at hl 1 rfl) ?_
    refine lv_iload_n hx hb dX10_lose_17 rfl (lv_at hl 2 rfl) ?_
    refine q_cSp E G [] (k_X10_isThing l D cy sz ad n S x1 x2) tb_563 tb_564 tb_6 tb_565 (nn := 2) (by decide +kernel) ⟨Nat.le_of_ble_eq_true rfl, Nat.le_of_ble_eq_true rfl⟩ rfl hl.1 rfl (Nat.le_of_ble_eq_true rfl) dX10_lose_18 ⟨Nat.zero_le _, Nat.zero_le _⟩ (fun H locs G => ?_)
    refine lv_if_ne (tgt := 31) hx hb dX10_lose_21 (by decide) (fun h3 => ?_) (fun h3 => ?_)
    · have v4 : vp_in x2 4 := pT_4 h3
      have v5 : ¬ x1 = 0 → ¬ x1 = 1 → vp_in x2 2 := fun a b => pT_2 h3 (wh_2 v2 a b)
      refine lv_aload_n hx hb dX10_lose_31 rfl (lv_at hl 0 rfl) ?_
      refine lv_iload_n hx hb dX10_lose_32 rfl (lv_at hl 1 rfl) ?_
      refine lv_iload_n hx hb dX10_lose_33 rfl (lv_at hl 2 rfl) ?_
      refine q_cVp E G 17 0 c17 sg_17 (C := RX10) (T := TX10) (N := 21) rfl [] (k_X10_sizeOf l D cy sz ad n S x1 x2 v4 v5) tb_566 tb_568 tp_13 tb_6 tb_569 (nn := 2) (by decide +kernel) ⟨Nat.le_of_ble_eq_true rfl, Nat.le_of_ble_eq_true rfl⟩ rfl hl.1 rfl (Nat.le_of_ble_eq_true rfl) dX10_lose_34 ⟨Nat.zero_le _, Nat.zero_le _⟩ (fun H locs G => ?_)
      refine lv_if_ge (tgt := 44) hx hb dX10_lose_37 (by decide) (fun h6 => ?_) (fun h6 => ?_)
      · refine lv_iconst (v := 1) hx hb dX10_lose_44 (by decide) ?_
        refine lv_istore_n (lv' := [(3, .int 1), (0, .ref (ad 17 0)), (1, .int x1), (2, .int x2)]) hx hb dX10_lose_45 rfl hl (by decide) rfl (fun ls hl => ?_)
        refine lv_iload_n hx hb dX10_lose_46 rfl (lv_at hl 2 rfl) ?_
        refine lv_if_ne (tgt := 60) hx hb dX10_lose_47 (by decide) (fun h7 => ?_) (fun h7 => ?_)
        · refine lv_iload_n hx hb dX10_lose_60 rfl (lv_at hl 2 rfl) ?_
          refine lv_iconst (v := 1) hx hb dX10_lose_61 (by decide) ?_
          refine lv_icmp_ne (tgt := 75) hx hb dX10_lose_62 (by decide) (fun h8 => ?_) (fun h8 => ?_)
          · refine lv_aload_n hx hb dX10_lose_75 rfl (lv_at hl 1 rfl) ?_
            refine q_get (index := 44) (ref := "ToolRoomModel") E G inX10 17 0 c17 sg_17 rfl 12 (by decide) tb_433 (Or.inl rfl) rfl dX10_lose_76 ?_
            refine lv_iload_n hx hb dX10_lose_79 rfl (lv_at hl 3 rfl) ?_
            refine lv_iconst (v := (-1)) hx hb dX10_lose_80 (by decide) ?_
            refine q_iast E G 18 12 (c18 12 (by decide)) (fun _ => sa_18_12) (v5 h7 h8) dX10_lose_81 (fun H locs G => ?_)
            refine lv_aload_n hx hb dX10_lose_82 rfl (lv_at hl 1 rfl) ?_
            refine lv_iload_n hx hb dX10_lose_83 rfl (lv_at hl 0 rfl) ?_
            refine q_cV (rest := []) E G 17 0 c17 sg_17 (C := RX10) (T := TX10) (N := 21) rfl (k_X10_says l D cy sz ad n (uI S 18 12 x2.toNatClampNeg (-1)) 1) tb_496 tb_498 tp_9 tb_6 tb_499 (nn := 1) (by decide +kernel) ⟨Nat.le_of_ble_eq_true rfl, Nat.le_of_ble_eq_true rfl⟩ rfl hl.1 rfl (Nat.le_of_ble_eq_true rfl) dX10_lose_84 ⟨Nat.zero_le _, Nat.zero_le _⟩ (fun H locs G => ?_)
            exact q_iret E G (by unfold f_X10_lose; simp only [if_pos h1, if_neg h3, if_pos h6, if_neg h7, if_neg h8, pr_eta]) dX10_lose_87
          · refine lv_aload_n hx hb dX10_lose_65 rfl (lv_at hl 1 rfl) ?_
            refine q_get (index := 35) (ref := "ToolRoomModel") E G inX10 17 0 c17 sg_17 rfl 9 (by decide) tb_430 (Or.inl rfl) rfl dX10_lose_66 ?_
            refine lv_iload_n hx hb dX10_lose_69 rfl (lv_at hl 3 rfl) ?_
            refine lv_iconst (v := (-1)) hx hb dX10_lose_70 (by decide) ?_
            refine q_iast E G 18 9 (c18 9 (by decide)) (fun _ => sa_18_9) v4 dX10_lose_71 (fun H locs G => ?_)
            refine lv_goto (tgt := 82) hx hb dX10_lose_72 (by decide) ?_
            refine lv_aload_n hx hb dX10_lose_82 rfl (lv_at hl 1 rfl) ?_
            refine lv_iload_n hx hb dX10_lose_83 rfl (lv_at hl 0 rfl) ?_
            refine q_cV (rest := []) E G 17 0 c17 sg_17 (C := RX10) (T := TX10) (N := 21) rfl (k_X10_says l D cy sz ad n (uI S 18 9 x2.toNatClampNeg (-1)) 1) tb_496 tb_498 tp_9 tb_6 tb_499 (nn := 1) (by decide +kernel) ⟨Nat.le_of_ble_eq_true rfl, Nat.le_of_ble_eq_true rfl⟩ rfl hl.1 rfl (Nat.le_of_ble_eq_true rfl) dX10_lose_84 ⟨Nat.zero_le _, Nat.zero_le _⟩ (fun H locs G => ?_)
            exact q_iret E G (by unfold f_X10_lose; simp only [if_pos h1, if_neg h3, if_pos h6, if_neg h7, if_pos h8, pr_eta]) dX10_lose_87
        · refine lv_aload_n hx hb dX10_lose_50 rfl (lv_at hl 1 rfl) ?_
          refine q_get (index := 29) (ref := "ToolRoomModel") E G inX10 17 0 c17 sg_17 rfl 7 (by decide) tb_428 (Or.inl rfl) rfl dX10_lose_51 ?_
          refine lv_iload_n hx hb dX10_lose_54 rfl (lv_at hl 3 rfl) ?_
          refine lv_iconst (v := (-1)) hx hb dX10_lose_55 (by decide) ?_
          refine q_iast E G 18 7 (c18 7 (by decide)) (fun _ => sa_18_7) v4 dX10_lose_56 (fun H locs G => ?_)
          refine lv_goto (tgt := 82) hx hb dX10_lose_57 (by decide) ?_
          refine lv_aload_n hx hb dX10_lose_82 rfl (lv_at hl 1 rfl) ?_
          refine lv_iload_n hx hb dX10_lose_83 rfl (lv_at hl 0 rfl) ?_
          refine q_cV (rest := []) E G 17 0 c17 sg_17 (C := RX10) (T := TX10) (N := 21) rfl (k_X10_says l D cy sz ad n (uI S 18 7 x2.toNatClampNeg (-1)) 1) tb_496 tb_498 tp_9 tb_6 tb_499 (nn := 1) (by decide +kernel) ⟨Nat.le_of_ble_eq_true rfl, Nat.le_of_ble_eq_true rfl⟩ rfl hl.1 rfl (Nat.le_of_ble_eq_true rfl) dX10_lose_84 ⟨Nat.zero_le _, Nat.zero_le _⟩ (fun H locs G => ?_)
          exact q_iret E G (by unfold f_X10_lose; simp only [if_pos h1, if_neg h3, if_pos h6, if_pos h7, pr_eta]) dX10_lose_87
      · refine lv_iconst (v := 0) hx hb dX10_lose_40 (by decide) ?_
        refine lv_goto (tgt := 45) hx hb dX10_lose_41 (by decide) ?_
        refine lv_istore_n (lv' := [(3, .int 0), (0, .ref (ad 17 0)), (1, .int x1), (2, .int x2)]) hx hb dX10_lose_45 rfl hl (by decide) rfl (fun ls hl => ?_)
        refine lv_iload_n hx hb dX10_lose_46 rfl (lv_at hl 2 rfl) ?_
        refine lv_if_ne (tgt := 60) hx hb dX10_lose_47 (by decide) (fun h9 => ?_) (fun h9 => ?_)
        · refine lv_iload_n hx hb dX10_lose_60 rfl (lv_at hl 2 rfl) ?_
          refine lv_iconst (v := 1) hx hb dX10_lose_61 (by decide) ?_
          refine lv_icmp_ne (tgt := 75) hx hb dX10_lose_62 (by decide) (fun h10 => ?_) (fun h10 => ?_)
          · refine lv_aload_n hx hb dX10_lose_75 rfl (lv_at hl 1 rfl) ?_
            refine q_get (index := 44) (ref := "ToolRoomModel") E G inX10 17 0 c17 sg_17 rfl 12 (by decide) tb_433 (Or.inl rfl) rfl dX10_lose_76 ?_
            refine lv_iload_n hx hb dX10_lose_79 rfl (lv_at hl 3 rfl) ?_
            refine lv_iconst (v := (-1)) hx hb dX10_lose_80 (by decide) ?_
            refine q_iast E G 18 12 (c18 12 (by decide)) (fun _ => sa_18_12) (v5 h9 h10) dX10_lose_81 (fun H locs G => ?_)
            refine lv_aload_n hx hb dX10_lose_82 rfl (lv_at hl 1 rfl) ?_
            refine lv_iload_n hx hb dX10_lose_83 rfl (lv_at hl 0 rfl) ?_
            refine q_cV (rest := []) E G 17 0 c17 sg_17 (C := RX10) (T := TX10) (N := 21) rfl (k_X10_says l D cy sz ad n (uI S 18 12 x2.toNatClampNeg (-1)) 0) tb_496 tb_498 tp_9 tb_6 tb_499 (nn := 1) (by decide +kernel) ⟨Nat.le_of_ble_eq_true rfl, Nat.le_of_ble_eq_true rfl⟩ rfl hl.1 rfl (Nat.le_of_ble_eq_true rfl) dX10_lose_84 ⟨Nat.zero_le _, Nat.zero_le _⟩ (fun H locs G => ?_)
            exact q_iret E G (by unfold f_X10_lose; simp only [if_pos h1, if_neg h3, if_neg h6, if_neg h9, if_neg h10, pr_eta]) dX10_lose_87
          · refine lv_aload_n hx hb dX10_lose_65 rfl (lv_at hl 1 rfl) ?_
            refine q_get (index := 35) (ref := "ToolRoomModel") E G inX10 17 0 c17 sg_17 rfl 9 (by decide) tb_430 (Or.inl rfl) rfl dX10_lose_66 ?_
            refine lv_iload_n hx hb dX10_lose_69 rfl (lv_at hl 3 rfl) ?_
            refine lv_iconst (v := (-1)) hx hb dX10_lose_70 (by decide) ?_
            refine q_iast E G 18 9 (c18 9 (by decide)) (fun _ => sa_18_9) v4 dX10_lose_71 (fun H locs G => ?_)
            refine lv_goto (tgt := 82) hx hb dX10_lose_72 (by decide) ?_
            refine lv_aload_n hx hb dX10_lose_82 rfl (lv_at hl 1 rfl) ?_
            refine lv_iload_n hx hb dX10_lose_83 rfl (lv_at hl 0 rfl) ?_
            refine q_cV (rest := []) E G 17 0 c17 sg_17 (C := RX10) (T := TX10) (N := 21) rfl (k_X10_says l D cy sz ad n (uI S 18 9 x2.toNatClampNeg (-1)) 0) tb_496 tb_498 tp_9 tb_6 tb_499 (nn := 1) (by decide +kernel) ⟨Nat.le_of_ble_eq_true rfl, Nat.le_of_ble_eq_true rfl⟩ rfl hl.1 rfl (Nat.le_of_ble_eq_true rfl) dX10_lose_84 ⟨Nat.zero_le _, Nat.zero_le _⟩ (fun H locs G => ?_)
            exact q_iret E G (by unfold f_X10_lose; simp only [if_pos h1, if_neg h3, if_neg h6, if_neg h9, if_pos h10, pr_eta]) dX10_lose_87
        · refine lv_aload_n hx hb dX10_lose_50 rfl (lv_at hl 1 rfl) ?_
          refine q_get (index := 29) (ref := "ToolRoomModel") E G inX10 17 0 c17 sg_17 rfl 7 (by decide) tb_428 (Or.inl rfl) rfl dX10_lose_51 ?_
          refine lv_iload_n hx hb dX10_lose_54 rfl (lv_at hl 3 rfl) ?_
          refine lv_iconst (v := (-1)) hx hb dX10_lose_55 (by decide) ?_
          refine q_iast E G 18 7 (c18 7 (by decide)) (fun _ => sa_18_7) v4 dX10_lose_56 (fun H locs G => ?_)
          refine lv_goto (tgt := 82) hx hb dX10_lose_57 (by decide) ?_
          refine lv_aload_n hx hb dX10_lose_82 rfl (lv_at hl 1 rfl) ?_
          refine lv_iload_n hx hb dX10_lose_83 rfl (lv_at hl 0 rfl) ?_
          refine q_cV (rest := []) E G 17 0 c17 sg_17 (C := RX10) (T := TX10) (N := 21) rfl (k_X10_says l D cy sz ad n (uI S 18 7 x2.toNatClampNeg (-1)) 0) tb_496 tb_498 tp_9 tb_6 tb_499 (nn := 1) (by decide +kernel) ⟨Nat.le_of_ble_eq_true rfl, Nat.le_of_ble_eq_true rfl⟩ rfl hl.1 rfl (Nat.le_of_ble_eq_true rfl) dX10_lose_84 ⟨Nat.zero_le _, Nat.zero_le _⟩ (fun H locs G => ?_)
          exact q_iret E G (by unfold f_X10_lose; simp only [if_pos h1, if_neg h3, if_neg h6, if_pos h9, pr_eta]) dX10_lose_87
    · refine lv_aload_n hx hb dX10_lose_24 rfl (lv_at hl 0 rfl) ?_
      refine lv_bipush (v := (-2)) hx hb dX10_lose_25 (by decide) ?_
      refine q_cV (rest := []) E G 17 0 c17 sg_17 (C := RX10) (T := TX10) (N := 21) rfl (k_X10_refuses l D cy sz ad n S (-2)) tb_492 tb_494 tp_8 tb_6 tb_495 (nn := 1) (by decide +kernel) ⟨Nat.le_of_ble_eq_true rfl, Nat.le_of_ble_eq_true rfl⟩ rfl hl.1 rfl (Nat.le_of_ble_eq_true rfl) dX10_lose_27 ⟨Nat.zero_le _, Nat.zero_le _⟩ (fun H locs G => ?_)
      exact q_iret E G (by unfold f_X10_lose; simp only [if_pos h1, if_pos h3, pr_eta]) dX10_lose_30
  · refine q_cSp E G [] (k_X10_in_f l D cy sz ad n S x1 0 2 h1) tb_489 tb_490 tb_6 tb_491 (nn := 3) (by decide +kernel) ⟨Nat.le_of_ble_eq_true rfl, Nat.le_of_ble_eq_true rfl⟩ rfl hl.1 rfl (Nat.le_of_ble_eq_true rfl) dX10_lose_3 ⟨Nat.zero_le _, Nat.zero_le _⟩ (fun H locs G => ?_)
    refine lv_if_ne (tgt := 16) hx hb dX10_lose_6 (by decide) (fun h => absurd h (by decide)) (fun _ => ?_)
    refine lv_aload_n hx hb dX10_lose_9 rfl (lv_at hl 0 rfl) ?_
    refine lv_bipush (v := (-3)) hx hb dX10_lose_10 (by decide) ?_
    refine q_cV (rest := []) E G 17 0 c17 sg_17 (C := RX10) (T := TX10) (N := 21) rfl (k_X10_refuses l D cy sz ad n S (-3)) tb_492 tb_494 tp_8 tb_6 tb_495 (nn := 1) (by decide +kernel) ⟨Nat.le_of_ble_eq_true rfl, Nat.le_of_ble_eq_true rfl⟩ rfl hl.1 rfl (Nat.le_of_ble_eq_true rfl) dX10_lose_12 ⟨Nat.zero_le _, Nat.zero_le _⟩ (fun H locs G => ?_)
    exact q_iret E G (by unfold f_X10_lose; simp only [if_neg h1, pr_eta]) dX10_lose_15

def f_X10_put (S : SS) (x1 : Int32) (x2 : Int32) (x3 : Int32) : Int32 × SS := if wj x1 0 3 = true then (if (pL (S.1 18 7 x1.toNatClampNeg) x2) = 0 then (f_X10_says (uI S 18 8 ((20 * x1) + x2).toNatClampNeg x3) 1) else (f_X10_fails S (pL (S.1 18 7 x1.toNatClampNeg) x2))) else (f_X10_refuses S (-2))
set_option maxHeartbeats 4000000 in
set_option maxRecDepth 100000 in
theorem k_X10_put (l : Launch) (D : va_G) (cy : Nat → ClassId) (sz : Nat) (ad : Nat → Nat → Nat) (n : Nat) (S : SS) (ok : okM S) (x1 : Int32) (x2 : Int32) (x3 : Int32) : CI l yX10_put cX10_put 5 (some .int) 2 43 [.ref (ad 17 0), .int x1, .int x2, .int x3] D cy sz ad n S (f_X10_put S x1 x2 x3) := by
  refine Met.enter (by decide) (Nat.le_of_ble_eq_true rfl) (fun p e s m args below meth c ls E G hl => ?_)
  have E : En p s m args meth c cX10_put 5 (some .int) RX10 D cy sz := E
  obtain ⟨hx, hb, hrt, hml, hown, hw, hlk, hK, hF, hsz⟩ := id E
  have hl : lv_has ls 5 [(0, .ref (ad 17 0)), (1, .int x1), (2, .int x2), (3, .int x3)] := hl
  refine lv_iload_n hx hb dX10_put_0 rfl (lv_at hl 1 rfl) ?_
  refine lv_iconst (v := 0) hx hb dX10_put_1 (by decide) ?_
  refine lv_iconst (v := 3) hx hb dX10_put_2 (by decide) ?_
  by_cases h1 : wj x1 0 3 = true
  · have v2 : vp_in x1 4 := wj_in h1 (by decide) (by decide)
    refine q_cSp E G [] (k_X10_in_t l D cy sz ad n S x1 0 3 h1) tb_489 tb_490 tb_6 tb_491 (nn := 3) (by decide +kernel) ⟨Nat.le_of_ble_eq_true rfl, Nat.le_of_ble_eq_true rfl⟩ rfl hl.1 rfl (Nat.le_of_ble_eq_true rfl) dX10_put_3 ⟨Nat.zero_le _, Nat.zero_le _⟩ (fun H locs G => ?_)
    refine lv_if_ne (tgt := 16) hx hb dX10_put_6 (by decide) (fun _ => ?_) (fun h => absurd h (by decide))
    refine lv_aload_n hx hb dX10_put_16 rfl (lv_at hl 0 rfl) ?_
    refine q_get (index := 29) (ref := "ToolRoomModel") E G inX10 17 0 c17 sg_17 rfl 7 (by decide) tb_428 (Or.inl rfl) rfl dX10_put_17 ?_
    refine lv_iload_n hx hb dX10_put_20 rfl (lv_at hl 1 rfl) ?_
    refine q_iald E G 18 7 (c18 7 (by decide)) sa_18_7 v2 dX10_put_21 ?_
    refine lv_iload_n hx hb dX10_put_22 rfl (lv_at hl 2 rfl) ?_
    refine q_cSp E G [] (k_X10_lacks l D cy sz ad n S (S.1 18 7 x1.toNatClampNeg) x2) tb_574 tb_575 tb_6 tb_576 (nn := 2) (by decide +kernel) ⟨Nat.le_of_ble_eq_true rfl, Nat.le_of_ble_eq_true rfl⟩ rfl hl.1 rfl (Nat.le_of_ble_eq_true rfl) dX10_put_23 ⟨Nat.zero_le _, Nat.zero_le _⟩ (fun H locs G => ?_)
    refine lv_istore (lv' := [(4, .int (pL (S.1 18 7 x1.toNatClampNeg) x2)), (0, .ref (ad 17 0)), (1, .int x1), (2, .int x2), (3, .int x3)]) hx hb dX10_put_26 hl (by decide) rfl (fun ls hl => ?_)
    refine lv_iload hx hb dX10_put_28 (lv_at hl 0 rfl) ?_
    refine lv_if_eq (tgt := 40) hx hb dX10_put_30 (by decide) (fun h3 => ?_) (fun h3 => ?_)
    · have v4 : vp_in x2 20 := pL_0 h3 (ok.2.2.2.1 _ (vp_lt v2)) (by decide)
      refine lv_aload_n hx hb dX10_put_40 rfl (lv_at hl 1 rfl) ?_
      refine q_get (index := 32) (ref := "ToolRoomModel") E G inX10 17 0 c17 sg_17 rfl 8 (by decide) tb_429 (Or.inl rfl) rfl dX10_put_41 ?_
      refine lv_bipush (v := 20) hx hb dX10_put_44 (by decide) ?_
      refine lv_iload_n hx hb dX10_put_46 rfl (lv_at hl 2 rfl) ?_
      refine lv_imul hx hb dX10_put_47 ?_
      refine lv_iload_n hx hb dX10_put_48 rfl (lv_at hl 3 rfl) ?_
      refine lv_iadd hx hb dX10_put_49 ?_
      refine lv_iload_n hx hb dX10_put_50 rfl (lv_at hl 4 rfl) ?_
      refine q_iast E G 18 8 (c18 8 (by decide)) (fun _ => sa_18_8) (ixv v2 v4 20 rfl (by decide) (by decide) (by decide) (by decide) (by decide)) dX10_put_51 (fun H locs G => ?_)
      refine lv_aload_n hx hb dX10_put_52 rfl (lv_at hl 1 rfl) ?_
      refine lv_iconst (v := 1) hx hb dX10_put_53 (by decide) ?_
      refine q_cV (rest := []) E G 17 0 c17 sg_17 (C := RX10) (T := TX10) (N := 21) rfl (k_X10_says l D cy sz ad n (uI S 18 8 ((20 * x1) + x2).toNatClampNeg x3) 1) tb_496 tb_498 tp_9 tb_6 tb_499 (nn := 1) (by decide +kernel) ⟨Nat.le_of_ble_eq_true rfl, Nat.le_of_ble_eq_true rfl⟩ rfl hl.1 rfl (Nat.le_of_ble_eq_true rfl) dX10_put_54 ⟨Nat.zero_le _, Nat.zero_le _⟩ (fun H locs G => ?_)
      exact q_iret E G (by unfold f_X10_put; simp only [if_pos h1, if_pos h3, pr_eta]) dX10_put_57
    · refine lv_aload_n hx hb dX10_put_33 rfl (lv_at hl 1 rfl) ?_
      refine lv_iload hx hb dX10_put_34 (lv_at hl 0 rfl) ?_
      refine q_cV (rest := []) E G 17 0 c17 sg_17 (C := RX10) (T := TX10) (N := 21) rfl (k_X10_fails l D cy sz ad n S (pL (S.1 18 7 x1.toNatClampNeg) x2) pL_in) tb_516 tb_518 tp_10 tb_6 tb_519 (nn := 1) (by decide +kernel) ⟨Nat.le_of_ble_eq_true rfl, Nat.le_of_ble_eq_true rfl⟩ rfl hl.1 rfl (Nat.le_of_ble_eq_true rfl) dX10_put_36 ⟨Nat.zero_le _, Nat.zero_le _⟩ (fun H locs G => ?_)
      exact q_iret E G (by unfold f_X10_put; simp only [if_pos h1, if_neg h3, pr_eta]) dX10_put_39
  · refine q_cSp E G [] (k_X10_in_f l D cy sz ad n S x1 0 3 h1) tb_489 tb_490 tb_6 tb_491 (nn := 3) (by decide +kernel) ⟨Nat.le_of_ble_eq_true rfl, Nat.le_of_ble_eq_true rfl⟩ rfl hl.1 rfl (Nat.le_of_ble_eq_true rfl) dX10_put_3 ⟨Nat.zero_le _, Nat.zero_le _⟩ (fun H locs G => ?_)
    refine lv_if_ne (tgt := 16) hx hb dX10_put_6 (by decide) (fun h => absurd h (by decide)) (fun _ => ?_)
    refine lv_aload_n hx hb dX10_put_9 rfl (lv_at hl 0 rfl) ?_
    refine lv_bipush (v := (-2)) hx hb dX10_put_10 (by decide) ?_
    refine q_cV (rest := []) E G 17 0 c17 sg_17 (C := RX10) (T := TX10) (N := 21) rfl (k_X10_refuses l D cy sz ad n S (-2)) tb_492 tb_494 tp_8 tb_6 tb_495 (nn := 1) (by decide +kernel) ⟨Nat.le_of_ble_eq_true rfl, Nat.le_of_ble_eq_true rfl⟩ rfl hl.1 rfl (Nat.le_of_ble_eq_true rfl) dX10_put_12 ⟨Nat.zero_le _, Nat.zero_le _⟩ (fun H locs G => ?_)
    exact q_iret E G (by unfold f_X10_put; simp only [if_neg h1, pr_eta]) dX10_put_15

def f_X10_get (S : SS) (x1 : Int32) (x2 : Int32) : Int32 × SS := if wj x1 0 3 = true then (if (pL (S.1 18 7 x1.toNatClampNeg) x2) = 0 then ((S.1 18 8 ((20 * x1) + x2).toNatClampNeg), (uI S 17 0 17 0)) else (0, (f_X10_fails (uI S 17 0 17 0) (pL (S.1 18 7 x1.toNatClampNeg) x2)).2)) else (0, (uI S 17 0 17 (-2)))
set_option maxHeartbeats 4000000 in
set_option maxRecDepth 100000 in
theorem k_X10_get (l : Launch) (D : va_G) (cy : Nat → ClassId) (sz : Nat) (ad : Nat → Nat → Nat) (n : Nat) (S : SS) (ok : okM S) (x1 : Int32) (x2 : Int32) : CI l yX10_get cX10_get 4 (some .int) 2 43 [.ref (ad 17 0), .int x1, .int x2] D cy sz ad n S (f_X10_get S x1 x2) := by
  refine Met.enter (by decide) (Nat.le_of_ble_eq_true rfl) (fun p e s m args below meth c ls E G hl => ?_)
  have E : En p s m args meth c cX10_get 4 (some .int) RX10 D cy sz := E
  obtain ⟨hx, hb, hrt, hml, hown, hw, hlk, hK, hF, hsz⟩ := id E
  have hl : lv_has ls 4 [(0, .ref (ad 17 0)), (1, .int x1), (2, .int x2)] := hl
  refine lv_aload_n hx hb dX10_get_0 rfl (lv_at hl 0 rfl) ?_
  refine lv_iload_n hx hb dX10_get_1 rfl (lv_at hl 1 rfl) ?_
  refine lv_iconst (v := 0) hx hb dX10_get_2 (by decide) ?_
  refine lv_iconst (v := 3) hx hb dX10_get_3 (by decide) ?_
  by_cases h1 : wj x1 0 3 = true
  · have v2 : vp_in x1 4 := wj_in h1 (by decide) (by decide)
    refine q_cSp E G [.ref (ad 17 0)] (k_X10_in_t l D cy sz ad n S x1 0 3 h1) tb_489 tb_490 tb_6 tb_491 (nn := 3) (by decide +kernel) ⟨Nat.le_of_ble_eq_true rfl, Nat.le_of_ble_eq_true rfl⟩ rfl hl.1 rfl (Nat.le_of_ble_eq_true rfl) dX10_get_4 ⟨Nat.zero_le _, Nat.zero_le _⟩ (fun H locs G => ?_)
    refine lv_if_eq (tgt := 14) hx hb dX10_get_7 (by decide) (fun h => absurd h (by decide)) (fun _ => ?_)
    refine lv_iconst (v := 0) hx hb dX10_get_10 (by decide) ?_
    refine lv_goto (tgt := 16) hx hb dX10_get_11 (by decide) ?_
    refine q_put (index := 62) (ref := "ToolRoomModel") E G inX10 tyX10 tyX10_ok nmX10 17 0 c17 17 sg_17 rfl 17 (by decide) tb_438 (Or.inl rfl) rfl (ty := .int) (by decide +kernel) rfl rfl (Nat.le_of_ble_eq_true rfl) sp_17_17 dX10_get_16 (fun H locs G => ?_)
    refine lv_aload_n hx hb dX10_get_19 rfl (lv_at hl 0 rfl) ?_
    refine q_get (index := 62) (ref := "ToolRoomModel") E G inX10 17 0 c17 sg_17 rfl 17 (by decide) tb_438 (Or.inl rfl) rfl dX10_get_20 ?_
    rw [uI_self]
    refine lv_if_eq (tgt := 28) hx hb dX10_get_23 (by decide) (fun _ => ?_) (fun h => absurd h (by decide))
    refine lv_aload_n hx hb dX10_get_28 rfl (lv_at hl 0 rfl) ?_
    refine q_get (index := 29) (ref := "ToolRoomModel") E G inX10 17 0 c17 sg_17 rfl 7 (by decide) tb_428 (Or.inl rfl) rfl dX10_get_29 ?_
    refine lv_iload_n hx hb dX10_get_32 rfl (lv_at hl 1 rfl) ?_
    refine q_iald E G 18 7 (c18 7 (by decide)) sa_18_7 v2 dX10_get_33 ?_
    rw [uI_nf (by decide)]
    refine lv_iload_n hx hb dX10_get_34 rfl (lv_at hl 2 rfl) ?_
    refine q_cSp E G [] (k_X10_lacks l D cy sz ad n (uI S 17 0 17 0) (S.1 18 7 x1.toNatClampNeg) x2) tb_574 tb_575 tb_6 tb_576 (nn := 2) (by decide +kernel) ⟨Nat.le_of_ble_eq_true rfl, Nat.le_of_ble_eq_true rfl⟩ rfl hl.1 rfl (Nat.le_of_ble_eq_true rfl) dX10_get_35 ⟨Nat.zero_le _, Nat.zero_le _⟩ (fun H locs G => ?_)
    refine lv_istore_n (lv' := [(3, .int (pL (S.1 18 7 x1.toNatClampNeg) x2)), (0, .ref (ad 17 0)), (1, .int x1), (2, .int x2)]) hx hb dX10_get_38 rfl hl (by decide) rfl (fun ls hl => ?_)
    refine lv_iload_n hx hb dX10_get_39 rfl (lv_at hl 0 rfl) ?_
    refine lv_if_eq (tgt := 51) hx hb dX10_get_40 (by decide) (fun h3 => ?_) (fun h3 => ?_)
    · have v4 : vp_in x2 20 := pL_0 h3 (ok.2.2.2.1 _ (vp_lt v2)) (by decide)
      refine lv_aload_n hx hb dX10_get_51 rfl (lv_at hl 1 rfl) ?_
      refine q_get (index := 32) (ref := "ToolRoomModel") E G inX10 17 0 c17 sg_17 rfl 8 (by decide) tb_429 (Or.inl rfl) rfl dX10_get_52 ?_
      refine lv_bipush (v := 20) hx hb dX10_get_55 (by decide) ?_
      refine lv_iload_n hx hb dX10_get_57 rfl (lv_at hl 2 rfl) ?_
      refine lv_imul hx hb dX10_get_58 ?_
      refine lv_iload_n hx hb dX10_get_59 rfl (lv_at hl 3 rfl) ?_
      refine lv_iadd hx hb dX10_get_60 ?_
      refine q_iald E G 18 8 (c18 8 (by decide)) sa_18_8 (ixv v2 v4 20 rfl (by decide) (by decide) (by decide) (by decide) (by decide)) dX10_get_61 ?_
      rw [uI_nf (by decide)]
      exact q_iret E G (by unfold f_X10_get; simp only [if_pos h1, if_pos h3, pr_eta]) dX10_get_62
    · refine lv_aload_n hx hb dX10_get_43 rfl (lv_at hl 1 rfl) ?_
      refine lv_iload_n hx hb dX10_get_44 rfl (lv_at hl 0 rfl) ?_
      refine q_cV (rest := []) E G 17 0 c17 sg_17 (C := RX10) (T := TX10) (N := 21) rfl (k_X10_fails l D cy sz ad n (uI S 17 0 17 0) (pL (S.1 18 7 x1.toNatClampNeg) x2) pL_in) tb_516 tb_518 tp_10 tb_6 tb_519 (nn := 1) (by decide +kernel) ⟨Nat.le_of_ble_eq_true rfl, Nat.le_of_ble_eq_true rfl⟩ rfl hl.1 rfl (Nat.le_of_ble_eq_true rfl) dX10_get_45 ⟨Nat.zero_le _, Nat.zero_le _⟩ (fun H locs G => ?_)
      refine lv_istore_n (lv' := [(3, .int (f_X10_fails (uI S 17 0 17 0) (pL (S.1 18 7 x1.toNatClampNeg) x2)).1), (0, .ref (ad 17 0)), (1, .int x1), (2, .int x2)]) hx hb dX10_get_48 rfl hl (by decide) rfl (fun ls hl => ?_)
      refine lv_iconst (v := 0) hx hb dX10_get_49 (by decide) ?_
      exact q_iret E G (by unfold f_X10_get; simp only [if_pos h1, if_neg h3, pr_eta]) dX10_get_50
  · refine q_cSp E G [.ref (ad 17 0)] (k_X10_in_f l D cy sz ad n S x1 0 3 h1) tb_489 tb_490 tb_6 tb_491 (nn := 3) (by decide +kernel) ⟨Nat.le_of_ble_eq_true rfl, Nat.le_of_ble_eq_true rfl⟩ rfl hl.1 rfl (Nat.le_of_ble_eq_true rfl) dX10_get_4 ⟨Nat.zero_le _, Nat.zero_le _⟩ (fun H locs G => ?_)
    refine lv_if_eq (tgt := 14) hx hb dX10_get_7 (by decide) (fun _ => ?_) (fun h => absurd h (by decide))
    refine lv_bipush (v := (-2)) hx hb dX10_get_14 (by decide) ?_
    refine q_put (index := 62) (ref := "ToolRoomModel") E G inX10 tyX10 tyX10_ok nmX10 17 0 c17 17 sg_17 rfl 17 (by decide) tb_438 (Or.inl rfl) rfl (ty := .int) (by decide +kernel) rfl rfl (Nat.le_of_ble_eq_true rfl) sp_17_17 dX10_get_16 (fun H locs G => ?_)
    refine lv_aload_n hx hb dX10_get_19 rfl (lv_at hl 0 rfl) ?_
    refine q_get (index := 62) (ref := "ToolRoomModel") E G inX10 17 0 c17 sg_17 rfl 17 (by decide) tb_438 (Or.inl rfl) rfl dX10_get_20 ?_
    rw [uI_self]
    refine lv_if_eq (tgt := 28) hx hb dX10_get_23 (by decide) (fun h => absurd h (by decide)) (fun _ => ?_)
    refine lv_iconst (v := 0) hx hb dX10_get_26 (by decide) ?_
    exact q_iret E G (by unfold f_X10_get; simp only [if_neg h1, pr_eta]) dX10_get_27

def f_X10_length (S : SS) (x1 : Int32) (x2 : Int32) : Int32 × SS := if wj x1 0 2 = true then (if (pT x1 x2) = 0 then (f_X10_refuses S (-2)) else (if 0 ≤ (pZ S x1 x2) then (f_X10_says S (pZ S x1 x2)) else (f_X10_fails S 1))) else (f_X10_refuses S (-3))
set_option maxHeartbeats 4000000 in
set_option maxRecDepth 100000 in
theorem k_X10_length (l : Launch) (D : va_G) (cy : Nat → ClassId) (sz : Nat) (ad : Nat → Nat → Nat) (n : Nat) (S : SS) (ok : okM S) (x1 : Int32) (x2 : Int32) : CI l yX10_length cX10_length 3 (some .int) 2 43 [.ref (ad 17 0), .int x1, .int x2] D cy sz ad n S (f_X10_length S x1 x2) := by
  refine Met.enter (by decide) (Nat.le_of_ble_eq_true rfl) (fun p e s m args below meth c ls E G hl => ?_)
  have E : En p s m args meth c cX10_length 3 (some .int) RX10 D cy sz := E
  obtain ⟨hx, hb, hrt, hml, hown, hw, hlk, hK, hF, hsz⟩ := id E
  have hl : lv_has ls 3 [(0, .ref (ad 17 0)), (1, .int x1), (2, .int x2)] := hl
  refine lv_iload_n hx hb dX10_length_0 rfl (lv_at hl 1 rfl) ?_
  refine lv_iconst (v := 0) hx hb dX10_length_1 (by decide) ?_
  refine lv_iconst (v := 2) hx hb dX10_length_2 (by decide) ?_
  by_cases h1 : wj x1 0 2 = true
  · have v2 : vp_in x1 3 := wj_in h1 (by decide) (by decide)
    refine q_cSp E G [] (k_X10_in_t l D cy sz ad n S x1 0 2 h1) tb_489 tb_490 tb_6 tb_491 (nn := 3) (by decide +kernel) ⟨Nat.le_of_ble_eq_true rfl, Nat.le_of_ble_eq_true rfl⟩ rfl hl.1 rfl (Nat.le_of_ble_eq_true rfl) dX10_length_3 ⟨Nat.zero_le _, Nat.zero_le _⟩ (fun H locs G => ?_)
    refine lv_if_ne (tgt := 16) hx hb dX10_length_6 (by decide) (fun _ => ?_) (fun h => absurd h (by decide))
    refine lv_iload_n hx hb dX10_length_16 rfl (lv_at hl 1 rfl) ?_
    refine lv_iload_n hx hb dX10_length_17 rfl (lv_at hl 2 rfl) ?_
    refine q_cSp E G [] (k_X10_isThing l D cy sz ad n S x1 x2) tb_563 tb_564 tb_6 tb_565 (nn := 2) (by decide +kernel) ⟨Nat.le_of_ble_eq_true rfl, Nat.le_of_ble_eq_true rfl⟩ rfl hl.1 rfl (Nat.le_of_ble_eq_true rfl) dX10_length_18 ⟨Nat.zero_le _, Nat.zero_le _⟩ (fun H locs G => ?_)
    refine lv_if_ne (tgt := 31) hx hb dX10_length_21 (by decide) (fun h3 => ?_) (fun h3 => ?_)
    · have v4 : vp_in x2 4 := pT_4 h3
      have v5 : ¬ x1 = 0 → ¬ x1 = 1 → vp_in x2 2 := fun a b => pT_2 h3 (wh_2 v2 a b)
      refine lv_aload_n hx hb dX10_length_31 rfl (lv_at hl 0 rfl) ?_
      refine lv_iload_n hx hb dX10_length_32 rfl (lv_at hl 1 rfl) ?_
      refine lv_iload_n hx hb dX10_length_33 rfl (lv_at hl 2 rfl) ?_
      refine q_cVp E G 17 0 c17 sg_17 (C := RX10) (T := TX10) (N := 21) rfl [] (k_X10_sizeOf l D cy sz ad n S x1 x2 v4 v5) tb_566 tb_568 tp_13 tb_6 tb_569 (nn := 2) (by decide +kernel) ⟨Nat.le_of_ble_eq_true rfl, Nat.le_of_ble_eq_true rfl⟩ rfl hl.1 rfl (Nat.le_of_ble_eq_true rfl) dX10_length_34 ⟨Nat.zero_le _, Nat.zero_le _⟩ (fun H locs G => ?_)
      refine lv_if_ge (tgt := 48) hx hb dX10_length_37 (by decide) (fun h6 => ?_) (fun h6 => ?_)
      · refine lv_aload_n hx hb dX10_length_48 rfl (lv_at hl 0 rfl) ?_
        refine lv_aload_n hx hb dX10_length_49 rfl (lv_at hl 0 rfl) ?_
        refine lv_iload_n hx hb dX10_length_50 rfl (lv_at hl 1 rfl) ?_
        refine lv_iload_n hx hb dX10_length_51 rfl (lv_at hl 2 rfl) ?_
        refine q_cVp E G 17 0 c17 sg_17 (C := RX10) (T := TX10) (N := 21) rfl [.ref (ad 17 0)] (k_X10_sizeOf l D cy sz ad n S x1 x2 v4 v5) tb_566 tb_568 tp_13 tb_6 tb_569 (nn := 2) (by decide +kernel) ⟨Nat.le_of_ble_eq_true rfl, Nat.le_of_ble_eq_true rfl⟩ rfl hl.1 rfl (Nat.le_of_ble_eq_true rfl) dX10_length_52 ⟨Nat.zero_le _, Nat.zero_le _⟩ (fun H locs G => ?_)
        refine q_cV (rest := []) E G 17 0 c17 sg_17 (C := RX10) (T := TX10) (N := 21) rfl (k_X10_says l D cy sz ad n S (pZ S x1 x2)) tb_496 tb_498 tp_9 tb_6 tb_499 (nn := 1) (by decide +kernel) ⟨Nat.le_of_ble_eq_true rfl, Nat.le_of_ble_eq_true rfl⟩ rfl hl.1 rfl (Nat.le_of_ble_eq_true rfl) dX10_length_55 ⟨Nat.zero_le _, Nat.zero_le _⟩ (fun H locs G => ?_)
        exact q_iret E G (by unfold f_X10_length; simp only [if_pos h1, if_neg h3, if_pos h6, pr_eta]) dX10_length_58
      · refine lv_aload_n hx hb dX10_length_40 rfl (lv_at hl 0 rfl) ?_
        refine lv_iconst (v := 1) hx hb dX10_length_41 (by decide) ?_
        refine q_cV (rest := []) E G 17 0 c17 sg_17 (C := RX10) (T := TX10) (N := 21) rfl (k_X10_fails l D cy sz ad n S 1 (by unfold vp_in; decide)) tb_516 tb_518 tp_10 tb_6 tb_519 (nn := 1) (by decide +kernel) ⟨Nat.le_of_ble_eq_true rfl, Nat.le_of_ble_eq_true rfl⟩ rfl hl.1 rfl (Nat.le_of_ble_eq_true rfl) dX10_length_42 ⟨Nat.zero_le _, Nat.zero_le _⟩ (fun H locs G => ?_)
        refine lv_goto (tgt := 58) hx hb dX10_length_45 (by decide) ?_
        exact q_iret E G (by unfold f_X10_length; simp only [if_pos h1, if_neg h3, if_neg h6, pr_eta]) dX10_length_58
    · refine lv_aload_n hx hb dX10_length_24 rfl (lv_at hl 0 rfl) ?_
      refine lv_bipush (v := (-2)) hx hb dX10_length_25 (by decide) ?_
      refine q_cV (rest := []) E G 17 0 c17 sg_17 (C := RX10) (T := TX10) (N := 21) rfl (k_X10_refuses l D cy sz ad n S (-2)) tb_492 tb_494 tp_8 tb_6 tb_495 (nn := 1) (by decide +kernel) ⟨Nat.le_of_ble_eq_true rfl, Nat.le_of_ble_eq_true rfl⟩ rfl hl.1 rfl (Nat.le_of_ble_eq_true rfl) dX10_length_27 ⟨Nat.zero_le _, Nat.zero_le _⟩ (fun H locs G => ?_)
      exact q_iret E G (by unfold f_X10_length; simp only [if_pos h1, if_pos h3, pr_eta]) dX10_length_30
  · refine q_cSp E G [] (k_X10_in_f l D cy sz ad n S x1 0 2 h1) tb_489 tb_490 tb_6 tb_491 (nn := 3) (by decide +kernel) ⟨Nat.le_of_ble_eq_true rfl, Nat.le_of_ble_eq_true rfl⟩ rfl hl.1 rfl (Nat.le_of_ble_eq_true rfl) dX10_length_3 ⟨Nat.zero_le _, Nat.zero_le _⟩ (fun H locs G => ?_)
    refine lv_if_ne (tgt := 16) hx hb dX10_length_6 (by decide) (fun h => absurd h (by decide)) (fun _ => ?_)
    refine lv_aload_n hx hb dX10_length_9 rfl (lv_at hl 0 rfl) ?_
    refine lv_bipush (v := (-3)) hx hb dX10_length_10 (by decide) ?_
    refine q_cV (rest := []) E G 17 0 c17 sg_17 (C := RX10) (T := TX10) (N := 21) rfl (k_X10_refuses l D cy sz ad n S (-3)) tb_492 tb_494 tp_8 tb_6 tb_495 (nn := 1) (by decide +kernel) ⟨Nat.le_of_ble_eq_true rfl, Nat.le_of_ble_eq_true rfl⟩ rfl hl.1 rfl (Nat.le_of_ble_eq_true rfl) dX10_length_12 ⟨Nat.zero_le _, Nat.zero_le _⟩ (fun H locs G => ?_)
    exact q_iret E G (by unfold f_X10_length; simp only [if_neg h1, pr_eta]) dX10_length_15

def f_X10_lay (S : SS) (x1 : Int32) (x2 : Int32) (x3 : Int32) : Int32 × SS := if wj x1 0 3 = true then (if wj x3 0 9 = true then (if (pL (S.1 18 9 x1.toNatClampNeg) x2) = 0 then (if (pO S (S.1 18 0 x3.toNatClampNeg) (S.1 18 10 x1.toNatClampNeg)) = 0 then (f_X10_fails S 5) else (f_X10_says (uI S 18 11 ((10 * x1) + x2).toNatClampNeg (S.1 18 0 x3.toNatClampNeg)) 1)) else (f_X10_fails S (pL (S.1 18 9 x1.toNatClampNeg) x2))) else (f_X10_refuses S (-2))) else (f_X10_refuses S (-2))
set_option maxHeartbeats 4000000 in
set_option maxRecDepth 100000 in
theorem k_X10_lay (l : Launch) (D : va_G) (cy : Nat → ClassId) (sz : Nat) (ad : Nat → Nat → Nat) (n : Nat) (S : SS) (ok : okM S) (x1 : Int32) (x2 : Int32) (x3 : Int32) : CI l yX10_lay cX10_lay 5 (some .int) 2 43 [.ref (ad 17 0), .int x1, .int x2, .int x3] D cy sz ad n S (f_X10_lay S x1 x2 x3) := by
  refine Met.enter (by decide) (Nat.le_of_ble_eq_true rfl) (fun p e s m args below meth c ls E G hl => ?_)
  have E : En p s m args meth c cX10_lay 5 (some .int) RX10 D cy sz := E
  obtain ⟨hx, hb, hrt, hml, hown, hw, hlk, hK, hF, hsz⟩ := id E
  have hl : lv_has ls 5 [(0, .ref (ad 17 0)), (1, .int x1), (2, .int x2), (3, .int x3)] := hl
  refine lv_iload_n hx hb dX10_lay_0 rfl (lv_at hl 1 rfl) ?_
  refine lv_iconst (v := 0) hx hb dX10_lay_1 (by decide) ?_
  refine lv_iconst (v := 3) hx hb dX10_lay_2 (by decide) ?_
  by_cases h1 : wj x1 0 3 = true
  · have v2 : vp_in x1 4 := wj_in h1 (by decide) (by decide)
    refine q_cSp E G [] (k_X10_in_t l D cy sz ad n S x1 0 3 h1) tb_489 tb_490 tb_6 tb_491 (nn := 3) (by decide +kernel) ⟨Nat.le_of_ble_eq_true rfl, Nat.le_of_ble_eq_true rfl⟩ rfl hl.1 rfl (Nat.le_of_ble_eq_true rfl) dX10_lay_3 ⟨Nat.zero_le _, Nat.zero_le _⟩ (fun H locs G => ?_)
    refine lv_if_eq (tgt := 19) hx hb dX10_lay_6 (by decide) (fun h => absurd h (by decide)) (fun _ => ?_)
    refine lv_iload_n hx hb dX10_lay_9 rfl (lv_at hl 3 rfl) ?_
    refine lv_iconst (v := 0) hx hb dX10_lay_10 (by decide) ?_
    refine lv_bipush (v := 9) hx hb dX10_lay_11 (by decide) ?_
    by_cases h3 : wj x3 0 9 = true
    · have v4 : vp_in x3 10 := wj_in h3 (by decide) (by decide)
      refine q_cSp E G [] (k_X10_in_t l D cy sz ad n S x3 0 9 h3) tb_489 tb_490 tb_6 tb_491 (nn := 3) (by decide +kernel) ⟨Nat.le_of_ble_eq_true rfl, Nat.le_of_ble_eq_true rfl⟩ rfl hl.1 rfl (Nat.le_of_ble_eq_true rfl) dX10_lay_13 ⟨Nat.zero_le _, Nat.zero_le _⟩ (fun H locs G => ?_)
      refine lv_if_ne (tgt := 26) hx hb dX10_lay_16 (by decide) (fun _ => ?_) (fun h => absurd h (by decide))
      refine lv_aload_n hx hb dX10_lay_26 rfl (lv_at hl 0 rfl) ?_
      refine q_get (index := 35) (ref := "ToolRoomModel") E G inX10 17 0 c17 sg_17 rfl 9 (by decide) tb_430 (Or.inl rfl) rfl dX10_lay_27 ?_
      refine lv_iload_n hx hb dX10_lay_30 rfl (lv_at hl 1 rfl) ?_
      refine q_iald E G 18 9 (c18 9 (by decide)) sa_18_9 v2 dX10_lay_31 ?_
      refine lv_iload_n hx hb dX10_lay_32 rfl (lv_at hl 2 rfl) ?_
      refine q_cSp E G [] (k_X10_lacks l D cy sz ad n S (S.1 18 9 x1.toNatClampNeg) x2) tb_574 tb_575 tb_6 tb_576 (nn := 2) (by decide +kernel) ⟨Nat.le_of_ble_eq_true rfl, Nat.le_of_ble_eq_true rfl⟩ rfl hl.1 rfl (Nat.le_of_ble_eq_true rfl) dX10_lay_33 ⟨Nat.zero_le _, Nat.zero_le _⟩ (fun H locs G => ?_)
      refine lv_istore (lv' := [(4, .int (pL (S.1 18 9 x1.toNatClampNeg) x2)), (0, .ref (ad 17 0)), (1, .int x1), (2, .int x2), (3, .int x3)]) hx hb dX10_lay_36 hl (by decide) rfl (fun ls hl => ?_)
      refine lv_iload hx hb dX10_lay_38 (lv_at hl 0 rfl) ?_
      refine lv_if_ne (tgt := 65) hx hb dX10_lay_40 (by decide) (fun h5 => ?_) (fun h5 => ?_)
      · refine lv_iload hx hb dX10_lay_65 (lv_at hl 0 rfl) ?_
        refine lv_if_eq (tgt := 77) hx hb dX10_lay_67 (by decide) (fun h => absurd h h5) (fun _ => ?_)
        refine lv_aload_n hx hb dX10_lay_70 rfl (lv_at hl 1 rfl) ?_
        refine lv_iload hx hb dX10_lay_71 (lv_at hl 0 rfl) ?_
        refine q_cV (rest := []) E G 17 0 c17 sg_17 (C := RX10) (T := TX10) (N := 21) rfl (k_X10_fails l D cy sz ad n S (pL (S.1 18 9 x1.toNatClampNeg) x2) pL_in) tb_516 tb_518 tp_10 tb_6 tb_519 (nn := 1) (by decide +kernel) ⟨Nat.le_of_ble_eq_true rfl, Nat.le_of_ble_eq_true rfl⟩ rfl hl.1 rfl (Nat.le_of_ble_eq_true rfl) dX10_lay_73 ⟨Nat.zero_le _, Nat.zero_le _⟩ (fun H locs G => ?_)
        exact q_iret E G (by unfold f_X10_lay; simp only [if_pos h1, if_pos h3, if_neg h5, pr_eta]) dX10_lay_76
      · have v6 : vp_in x2 10 := pL_0 h5 (ok.2.2.2.2.1 _ (vp_lt v2)) (by decide)
        refine lv_aload_n hx hb dX10_lay_43 rfl (lv_at hl 1 rfl) ?_
        refine lv_aload_n hx hb dX10_lay_44 rfl (lv_at hl 1 rfl) ?_
        refine q_get (index := 7) (ref := "ToolRoomModel") E G inX10 17 0 c17 sg_17 rfl 0 (by decide) tb_421 (Or.inl rfl) rfl dX10_lay_45 ?_
        refine lv_iload_n hx hb dX10_lay_48 rfl (lv_at hl 4 rfl) ?_
        refine q_iald E G 18 0 (c18 0 (by decide)) sa_18_0 v4 dX10_lay_49 ?_
        refine lv_aload_n hx hb dX10_lay_50 rfl (lv_at hl 1 rfl) ?_
        refine q_get (index := 38) (ref := "ToolRoomModel") E G inX10 17 0 c17 sg_17 rfl 10 (by decide) tb_431 (Or.inl rfl) rfl dX10_lay_51 ?_
        refine lv_iload_n hx hb dX10_lay_54 rfl (lv_at hl 2 rfl) ?_
        refine q_iald E G 18 10 (c18 10 (by decide)) sa_18_10 v2 dX10_lay_55 ?_
        refine q_cVp E G 17 0 c17 sg_17 (C := RX10) (T := TX10) (N := 21) rfl [] (k_X10_isOf l D cy sz ad n S (S.1 18 0 x3.toNatClampNeg) (S.1 18 10 x1.toNatClampNeg) (ok.1 _ (vp_lt v4))) tb_593 tb_595 tp_14 tb_6 tb_596 (nn := 2) (by decide +kernel) ⟨Nat.le_of_ble_eq_true rfl, Nat.le_of_ble_eq_true rfl⟩ rfl hl.1 rfl (Nat.le_of_ble_eq_true rfl) dX10_lay_56 ⟨Nat.zero_le _, Nat.zero_le _⟩ (fun H locs G => ?_)
        refine lv_if_ne (tgt := 65) hx hb dX10_lay_59 (by decide) (fun h7 => ?_) (fun h7 => ?_)
        · refine lv_iload hx hb dX10_lay_65 (lv_at hl 0 rfl) ?_
          refine lv_if_eq (tgt := 77) hx hb dX10_lay_67 (by decide) (fun _ => ?_) (fun h => absurd h5 h)
          refine lv_aload_n hx hb dX10_lay_77 rfl (lv_at hl 1 rfl) ?_
          refine q_get (index := 41) (ref := "ToolRoomModel") E G inX10 17 0 c17 sg_17 rfl 11 (by decide) tb_432 (Or.inl rfl) rfl dX10_lay_78 ?_
          refine lv_bipush (v := 10) hx hb dX10_lay_81 (by decide) ?_
          refine lv_iload_n hx hb dX10_lay_83 rfl (lv_at hl 2 rfl) ?_
          refine lv_imul hx hb dX10_lay_84 ?_
          refine lv_iload_n hx hb dX10_lay_85 rfl (lv_at hl 3 rfl) ?_
          refine lv_iadd hx hb dX10_lay_86 ?_
          refine lv_aload_n hx hb dX10_lay_87 rfl (lv_at hl 1 rfl) ?_
          refine q_get (index := 7) (ref := "ToolRoomModel") E G inX10 17 0 c17 sg_17 rfl 0 (by decide) tb_421 (Or.inl rfl) rfl dX10_lay_88 ?_
          refine lv_iload_n hx hb dX10_lay_91 rfl (lv_at hl 4 rfl) ?_
          refine q_iald E G 18 0 (c18 0 (by decide)) sa_18_0 v4 dX10_lay_92 ?_
          refine q_iast E G 18 11 (c18 11 (by decide)) (fun _ => sa_18_11) (ixv v2 v6 10 rfl (by decide) (by decide) (by decide) (by decide) (by decide)) dX10_lay_93 (fun H locs G => ?_)
          refine lv_aload_n hx hb dX10_lay_94 rfl (lv_at hl 1 rfl) ?_
          refine lv_iconst (v := 1) hx hb dX10_lay_95 (by decide) ?_
          refine q_cV (rest := []) E G 17 0 c17 sg_17 (C := RX10) (T := TX10) (N := 21) rfl (k_X10_says l D cy sz ad n (uI S 18 11 ((10 * x1) + x2).toNatClampNeg (S.1 18 0 x3.toNatClampNeg)) 1) tb_496 tb_498 tp_9 tb_6 tb_499 (nn := 1) (by decide +kernel) ⟨Nat.le_of_ble_eq_true rfl, Nat.le_of_ble_eq_true rfl⟩ rfl hl.1 rfl (Nat.le_of_ble_eq_true rfl) dX10_lay_96 ⟨Nat.zero_le _, Nat.zero_le _⟩ (fun H locs G => ?_)
          exact q_iret E G (by unfold f_X10_lay; simp only [if_pos h1, if_pos h3, if_pos h5, if_neg h7, pr_eta]) dX10_lay_99
        · refine lv_iconst (v := 5) hx hb dX10_lay_62 (by decide) ?_
          refine lv_istore (lv' := [(4, .int 5), (0, .ref (ad 17 0)), (1, .int x1), (2, .int x2), (3, .int x3)]) hx hb dX10_lay_63 hl (by decide) rfl (fun ls hl => ?_)
          refine lv_iload hx hb dX10_lay_65 (lv_at hl 0 rfl) ?_
          refine lv_if_eq (tgt := 77) hx hb dX10_lay_67 (by decide) (fun h => absurd h (by decide)) (fun _ => ?_)
          refine lv_aload_n hx hb dX10_lay_70 rfl (lv_at hl 1 rfl) ?_
          refine lv_iload hx hb dX10_lay_71 (lv_at hl 0 rfl) ?_
          refine q_cV (rest := []) E G 17 0 c17 sg_17 (C := RX10) (T := TX10) (N := 21) rfl (k_X10_fails l D cy sz ad n S 5 (by unfold vp_in; decide)) tb_516 tb_518 tp_10 tb_6 tb_519 (nn := 1) (by decide +kernel) ⟨Nat.le_of_ble_eq_true rfl, Nat.le_of_ble_eq_true rfl⟩ rfl hl.1 rfl (Nat.le_of_ble_eq_true rfl) dX10_lay_73 ⟨Nat.zero_le _, Nat.zero_le _⟩ (fun H locs G => ?_)
          exact q_iret E G (by unfold f_X10_lay; simp only [if_pos h1, if_pos h3, if_pos h5, if_pos h7, pr_eta]) dX10_lay_76
    · refine q_cSp E G [] (k_X10_in_f l D cy sz ad n S x3 0 9 h3) tb_489 tb_490 tb_6 tb_491 (nn := 3) (by decide +kernel) ⟨Nat.le_of_ble_eq_true rfl, Nat.le_of_ble_eq_true rfl⟩ rfl hl.1 rfl (Nat.le_of_ble_eq_true rfl) dX10_lay_13 ⟨Nat.zero_le _, Nat.zero_le _⟩ (fun H locs G => ?_)
      refine lv_if_ne (tgt := 26) hx hb dX10_lay_16 (by decide) (fun h => absurd h (by decide)) (fun _ => ?_)
      refine lv_aload_n hx hb dX10_lay_19 rfl (lv_at hl 0 rfl) ?_
      refine lv_bipush (v := (-2)) hx hb dX10_lay_20 (by decide) ?_
      refine q_cV (rest := []) E G 17 0 c17 sg_17 (C := RX10) (T := TX10) (N := 21) rfl (k_X10_refuses l D cy sz ad n S (-2)) tb_492 tb_494 tp_8 tb_6 tb_495 (nn := 1) (by decide +kernel) ⟨Nat.le_of_ble_eq_true rfl, Nat.le_of_ble_eq_true rfl⟩ rfl hl.1 rfl (Nat.le_of_ble_eq_true rfl) dX10_lay_22 ⟨Nat.zero_le _, Nat.zero_le _⟩ (fun H locs G => ?_)
      exact q_iret E G (by unfold f_X10_lay; simp only [if_pos h1, if_neg h3, pr_eta]) dX10_lay_25
  · refine q_cSp E G [] (k_X10_in_f l D cy sz ad n S x1 0 3 h1) tb_489 tb_490 tb_6 tb_491 (nn := 3) (by decide +kernel) ⟨Nat.le_of_ble_eq_true rfl, Nat.le_of_ble_eq_true rfl⟩ rfl hl.1 rfl (Nat.le_of_ble_eq_true rfl) dX10_lay_3 ⟨Nat.zero_le _, Nat.zero_le _⟩ (fun H locs G => ?_)
    refine lv_if_eq (tgt := 19) hx hb dX10_lay_6 (by decide) (fun _ => ?_) (fun h => absurd h (by decide))
    refine lv_aload_n hx hb dX10_lay_19 rfl (lv_at hl 0 rfl) ?_
    refine lv_bipush (v := (-2)) hx hb dX10_lay_20 (by decide) ?_
    refine q_cV (rest := []) E G 17 0 c17 sg_17 (C := RX10) (T := TX10) (N := 21) rfl (k_X10_refuses l D cy sz ad n S (-2)) tb_492 tb_494 tp_8 tb_6 tb_495 (nn := 1) (by decide +kernel) ⟨Nat.le_of_ble_eq_true rfl, Nat.le_of_ble_eq_true rfl⟩ rfl hl.1 rfl (Nat.le_of_ble_eq_true rfl) dX10_lay_22 ⟨Nat.zero_le _, Nat.zero_le _⟩ (fun H locs G => ?_)
    exact q_iret E G (by unfold f_X10_lay; simp only [if_neg h1, pr_eta]) dX10_lay_25

def f_X10_fetch (S : SS) (x1 : Int32) (x2 : Int32) (x3 : Int32) (x4 : Int32) : Int32 × SS := if wj x1 0 3 = true then (if wj x4 0 9 = true then (if wj x3 0 2 = true then (if (pL (S.1 18 9 x1.toNatClampNeg) x2) = 0 then (if (pO S (S.1 18 11 ((10 * x1) + x2).toNatClampNeg) x3) = 0 then (f_X10_fails S 4) else (f_X10_says (uI S 18 0 x4.toNatClampNeg (S.1 18 11 ((10 * x1) + x2).toNatClampNeg)) 1)) else (f_X10_fails S (pL (S.1 18 9 x1.toNatClampNeg) x2))) else (f_X10_refuses S (-3))) else (f_X10_refuses S (-2))) else (f_X10_refuses S (-2))
set_option maxHeartbeats 4000000 in
set_option maxRecDepth 100000 in
theorem k_X10_fetch (l : Launch) (D : va_G) (cy : Nat → ClassId) (sz : Nat) (ad : Nat → Nat → Nat) (n : Nat) (S : SS) (ok : okM S) (x1 : Int32) (x2 : Int32) (x3 : Int32) (x4 : Int32) : CI l yX10_fetch cX10_fetch 6 (some .int) 2 43 [.ref (ad 17 0), .int x1, .int x2, .int x3, .int x4] D cy sz ad n S (f_X10_fetch S x1 x2 x3 x4) := by
  refine Met.enter (by decide) (Nat.le_of_ble_eq_true rfl) (fun p e s m args below meth c ls E G hl => ?_)
  have E : En p s m args meth c cX10_fetch 6 (some .int) RX10 D cy sz := E
  obtain ⟨hx, hb, hrt, hml, hown, hw, hlk, hK, hF, hsz⟩ := id E
  have hl : lv_has ls 6 [(0, .ref (ad 17 0)), (1, .int x1), (2, .int x2), (3, .int x3), (4, .int x4)] := hl
  refine lv_iload_n hx hb dX10_fetch_0 rfl (lv_at hl 1 rfl) ?_
  refine lv_iconst (v := 0) hx hb dX10_fetch_1 (by decide) ?_
  refine lv_iconst (v := 3) hx hb dX10_fetch_2 (by decide) ?_
  by_cases h1 : wj x1 0 3 = true
  · have v2 : vp_in x1 4 := wj_in h1 (by decide) (by decide)
    refine q_cSp E G [] (k_X10_in_t l D cy sz ad n S x1 0 3 h1) tb_489 tb_490 tb_6 tb_491 (nn := 3) (by decide +kernel) ⟨Nat.le_of_ble_eq_true rfl, Nat.le_of_ble_eq_true rfl⟩ rfl hl.1 rfl (Nat.le_of_ble_eq_true rfl) dX10_fetch_3 ⟨Nat.zero_le _, Nat.zero_le _⟩ (fun H locs G => ?_)
    refine lv_if_eq (tgt := 20) hx hb dX10_fetch_6 (by decide) (fun h => absurd h (by decide)) (fun _ => ?_)
    refine lv_iload hx hb dX10_fetch_9 (lv_at hl 4 rfl) ?_
    refine lv_iconst (v := 0) hx hb dX10_fetch_11 (by decide) ?_
    refine lv_bipush (v := 9) hx hb dX10_fetch_12 (by decide) ?_
    by_cases h3 : wj x4 0 9 = true
    · have v4 : vp_in x4 10 := wj_in h3 (by decide) (by decide)
      refine q_cSp E G [] (k_X10_in_t l D cy sz ad n S x4 0 9 h3) tb_489 tb_490 tb_6 tb_491 (nn := 3) (by decide +kernel) ⟨Nat.le_of_ble_eq_true rfl, Nat.le_of_ble_eq_true rfl⟩ rfl hl.1 rfl (Nat.le_of_ble_eq_true rfl) dX10_fetch_14 ⟨Nat.zero_le _, Nat.zero_le _⟩ (fun H locs G => ?_)
      refine lv_if_ne (tgt := 27) hx hb dX10_fetch_17 (by decide) (fun _ => ?_) (fun h => absurd h (by decide))
      refine lv_iload_n hx hb dX10_fetch_27 rfl (lv_at hl 3 rfl) ?_
      refine lv_iconst (v := 0) hx hb dX10_fetch_28 (by decide) ?_
      refine lv_iconst (v := 2) hx hb dX10_fetch_29 (by decide) ?_
      by_cases h5 : wj x3 0 2 = true
      · have v6 : vp_in x3 3 := wj_in h5 (by decide) (by decide)
        refine q_cSp E G [] (k_X10_in_t l D cy sz ad n S x3 0 2 h5) tb_489 tb_490 tb_6 tb_491 (nn := 3) (by decide +kernel) ⟨Nat.le_of_ble_eq_true rfl, Nat.le_of_ble_eq_true rfl⟩ rfl hl.1 rfl (Nat.le_of_ble_eq_true rfl) dX10_fetch_30 ⟨Nat.zero_le _, Nat.zero_le _⟩ (fun H locs G => ?_)
        refine lv_if_ne (tgt := 43) hx hb dX10_fetch_33 (by decide) (fun _ => ?_) (fun h => absurd h (by decide))
        refine lv_aload_n hx hb dX10_fetch_43 rfl (lv_at hl 0 rfl) ?_
        refine q_get (index := 35) (ref := "ToolRoomModel") E G inX10 17 0 c17 sg_17 rfl 9 (by decide) tb_430 (Or.inl rfl) rfl dX10_fetch_44 ?_
        refine lv_iload_n hx hb dX10_fetch_47 rfl (lv_at hl 1 rfl) ?_
        refine q_iald E G 18 9 (c18 9 (by decide)) sa_18_9 v2 dX10_fetch_48 ?_
        refine lv_iload_n hx hb dX10_fetch_49 rfl (lv_at hl 2 rfl) ?_
        refine q_cSp E G [] (k_X10_lacks l D cy sz ad n S (S.1 18 9 x1.toNatClampNeg) x2) tb_574 tb_575 tb_6 tb_576 (nn := 2) (by decide +kernel) ⟨Nat.le_of_ble_eq_true rfl, Nat.le_of_ble_eq_true rfl⟩ rfl hl.1 rfl (Nat.le_of_ble_eq_true rfl) dX10_fetch_50 ⟨Nat.zero_le _, Nat.zero_le _⟩ (fun H locs G => ?_)
        refine lv_istore (lv' := [(5, .int (pL (S.1 18 9 x1.toNatClampNeg) x2)), (0, .ref (ad 17 0)), (1, .int x1), (2, .int x2), (3, .int x3), (4, .int x4)]) hx hb dX10_fetch_53 hl (by decide) rfl (fun ls hl => ?_)
        refine lv_iload hx hb dX10_fetch_55 (lv_at hl 0 rfl) ?_
        refine lv_if_ne (tgt := 82) hx hb dX10_fetch_57 (by decide) (fun h7 => ?_) (fun h7 => ?_)
        · refine lv_iload hx hb dX10_fetch_82 (lv_at hl 0 rfl) ?_
          refine lv_if_eq (tgt := 94) hx hb dX10_fetch_84 (by decide) (fun h => absurd h h7) (fun _ => ?_)
          refine lv_aload_n hx hb dX10_fetch_87 rfl (lv_at hl 1 rfl) ?_
          refine lv_iload hx hb dX10_fetch_88 (lv_at hl 0 rfl) ?_
          refine q_cV (rest := []) E G 17 0 c17 sg_17 (C := RX10) (T := TX10) (N := 21) rfl (k_X10_fails l D cy sz ad n S (pL (S.1 18 9 x1.toNatClampNeg) x2) pL_in) tb_516 tb_518 tp_10 tb_6 tb_519 (nn := 1) (by decide +kernel) ⟨Nat.le_of_ble_eq_true rfl, Nat.le_of_ble_eq_true rfl⟩ rfl hl.1 rfl (Nat.le_of_ble_eq_true rfl) dX10_fetch_90 ⟨Nat.zero_le _, Nat.zero_le _⟩ (fun H locs G => ?_)
          exact q_iret E G (by unfold f_X10_fetch; simp only [if_pos h1, if_pos h3, if_pos h5, if_neg h7, pr_eta]) dX10_fetch_93
        · have v8 : vp_in x2 10 := pL_0 h7 (ok.2.2.2.2.1 _ (vp_lt v2)) (by decide)
          refine lv_aload_n hx hb dX10_fetch_60 rfl (lv_at hl 1 rfl) ?_
          refine lv_aload_n hx hb dX10_fetch_61 rfl (lv_at hl 1 rfl) ?_
          refine q_get (index := 41) (ref := "ToolRoomModel") E G inX10 17 0 c17 sg_17 rfl 11 (by decide) tb_432 (Or.inl rfl) rfl dX10_fetch_62 ?_
          refine lv_bipush (v := 10) hx hb dX10_fetch_65 (by decide) ?_
          refine lv_iload_n hx hb dX10_fetch_67 rfl (lv_at hl 2 rfl) ?_
          refine lv_imul hx hb dX10_fetch_68 ?_
          refine lv_iload_n hx hb dX10_fetch_69 rfl (lv_at hl 3 rfl) ?_
          refine lv_iadd hx hb dX10_fetch_70 ?_
          refine q_iald E G 18 11 (c18 11 (by decide)) sa_18_11 (ixv v2 v8 10 rfl (by decide) (by decide) (by decide) (by decide) (by decide)) dX10_fetch_71 ?_
          refine lv_iload_n hx hb dX10_fetch_72 rfl (lv_at hl 4 rfl) ?_
          refine q_cVp E G 17 0 c17 sg_17 (C := RX10) (T := TX10) (N := 21) rfl [] (k_X10_isOf l D cy sz ad n S (S.1 18 11 ((10 * x1) + x2).toNatClampNeg) x3 (ok.2.1 _ (vp_lt (ixv (N := 40) v2 v8 10 rfl (by decide) (by decide) (by decide) (by decide) (by decide))))) tb_593 tb_595 tp_14 tb_6 tb_596 (nn := 2) (by decide +kernel) ⟨Nat.le_of_ble_eq_true rfl, Nat.le_of_ble_eq_true rfl⟩ rfl hl.1 rfl (Nat.le_of_ble_eq_true rfl) dX10_fetch_73 ⟨Nat.zero_le _, Nat.zero_le _⟩ (fun H locs G => ?_)
          refine lv_if_ne (tgt := 82) hx hb dX10_fetch_76 (by decide) (fun h9 => ?_) (fun h9 => ?_)
          · refine lv_iload hx hb dX10_fetch_82 (lv_at hl 0 rfl) ?_
            refine lv_if_eq (tgt := 94) hx hb dX10_fetch_84 (by decide) (fun _ => ?_) (fun h => absurd h7 h)
            refine lv_aload_n hx hb dX10_fetch_94 rfl (lv_at hl 1 rfl) ?_
            refine q_get (index := 7) (ref := "ToolRoomModel") E G inX10 17 0 c17 sg_17 rfl 0 (by decide) tb_421 (Or.inl rfl) rfl dX10_fetch_95 ?_
            refine lv_iload hx hb dX10_fetch_98 (lv_at hl 5 rfl) ?_
            refine lv_aload_n hx hb dX10_fetch_100 rfl (lv_at hl 1 rfl) ?_
            refine q_get (index := 41) (ref := "ToolRoomModel") E G inX10 17 0 c17 sg_17 rfl 11 (by decide) tb_432 (Or.inl rfl) rfl dX10_fetch_101 ?_
            refine lv_bipush (v := 10) hx hb dX10_fetch_104 (by decide) ?_
            refine lv_iload_n hx hb dX10_fetch_106 rfl (lv_at hl 2 rfl) ?_
            refine lv_imul hx hb dX10_fetch_107 ?_
            refine lv_iload_n hx hb dX10_fetch_108 rfl (lv_at hl 3 rfl) ?_
            refine lv_iadd hx hb dX10_fetch_109 ?_
            refine q_iald E G 18 11 (c18 11 (by decide)) sa_18_11 (ixv v2 v8 10 rfl (by decide) (by decide) (by decide) (by decide) (by decide)) dX10_fetch_110 ?_
            refine q_iast E G 18 0 (c18 0 (by decide)) (fun _ => sa_18_0) v4 dX10_fetch_111 (fun H locs G => ?_)
            refine lv_aload_n hx hb dX10_fetch_112 rfl (lv_at hl 1 rfl) ?_
            refine lv_iconst (v := 1) hx hb dX10_fetch_113 (by decide) ?_
            refine q_cV (rest := []) E G 17 0 c17 sg_17 (C := RX10) (T := TX10) (N := 21) rfl (k_X10_says l D cy sz ad n (uI S 18 0 x4.toNatClampNeg (S.1 18 11 ((10 * x1) + x2).toNatClampNeg)) 1) tb_496 tb_498 tp_9 tb_6 tb_499 (nn := 1) (by decide +kernel) ⟨Nat.le_of_ble_eq_true rfl, Nat.le_of_ble_eq_true rfl⟩ rfl hl.1 rfl (Nat.le_of_ble_eq_true rfl) dX10_fetch_114 ⟨Nat.zero_le _, Nat.zero_le _⟩ (fun H locs G => ?_)
            exact q_iret E G (by unfold f_X10_fetch; simp only [if_pos h1, if_pos h3, if_pos h5, if_pos h7, if_neg h9, pr_eta]) dX10_fetch_117
          · refine lv_iconst (v := 4) hx hb dX10_fetch_79 (by decide) ?_
            refine lv_istore (lv' := [(5, .int 4), (0, .ref (ad 17 0)), (1, .int x1), (2, .int x2), (3, .int x3), (4, .int x4)]) hx hb dX10_fetch_80 hl (by decide) rfl (fun ls hl => ?_)
            refine lv_iload hx hb dX10_fetch_82 (lv_at hl 0 rfl) ?_
            refine lv_if_eq (tgt := 94) hx hb dX10_fetch_84 (by decide) (fun h => absurd h (by decide)) (fun _ => ?_)
            refine lv_aload_n hx hb dX10_fetch_87 rfl (lv_at hl 1 rfl) ?_
            refine lv_iload hx hb dX10_fetch_88 (lv_at hl 0 rfl) ?_
            refine q_cV (rest := []) E G 17 0 c17 sg_17 (C := RX10) (T := TX10) (N := 21) rfl (k_X10_fails l D cy sz ad n S 4 (by unfold vp_in; decide)) tb_516 tb_518 tp_10 tb_6 tb_519 (nn := 1) (by decide +kernel) ⟨Nat.le_of_ble_eq_true rfl, Nat.le_of_ble_eq_true rfl⟩ rfl hl.1 rfl (Nat.le_of_ble_eq_true rfl) dX10_fetch_90 ⟨Nat.zero_le _, Nat.zero_le _⟩ (fun H locs G => ?_)
            exact q_iret E G (by unfold f_X10_fetch; simp only [if_pos h1, if_pos h3, if_pos h5, if_pos h7, if_pos h9, pr_eta]) dX10_fetch_93
      · refine q_cSp E G [] (k_X10_in_f l D cy sz ad n S x3 0 2 h5) tb_489 tb_490 tb_6 tb_491 (nn := 3) (by decide +kernel) ⟨Nat.le_of_ble_eq_true rfl, Nat.le_of_ble_eq_true rfl⟩ rfl hl.1 rfl (Nat.le_of_ble_eq_true rfl) dX10_fetch_30 ⟨Nat.zero_le _, Nat.zero_le _⟩ (fun H locs G => ?_)
        refine lv_if_ne (tgt := 43) hx hb dX10_fetch_33 (by decide) (fun h => absurd h (by decide)) (fun _ => ?_)
        refine lv_aload_n hx hb dX10_fetch_36 rfl (lv_at hl 0 rfl) ?_
        refine lv_bipush (v := (-3)) hx hb dX10_fetch_37 (by decide) ?_
        refine q_cV (rest := []) E G 17 0 c17 sg_17 (C := RX10) (T := TX10) (N := 21) rfl (k_X10_refuses l D cy sz ad n S (-3)) tb_492 tb_494 tp_8 tb_6 tb_495 (nn := 1) (by decide +kernel) ⟨Nat.le_of_ble_eq_true rfl, Nat.le_of_ble_eq_true rfl⟩ rfl hl.1 rfl (Nat.le_of_ble_eq_true rfl) dX10_fetch_39 ⟨Nat.zero_le _, Nat.zero_le _⟩ (fun H locs G => ?_)
        exact q_iret E G (by unfold f_X10_fetch; simp only [if_pos h1, if_pos h3, if_neg h5, pr_eta]) dX10_fetch_42
    · refine q_cSp E G [] (k_X10_in_f l D cy sz ad n S x4 0 9 h3) tb_489 tb_490 tb_6 tb_491 (nn := 3) (by decide +kernel) ⟨Nat.le_of_ble_eq_true rfl, Nat.le_of_ble_eq_true rfl⟩ rfl hl.1 rfl (Nat.le_of_ble_eq_true rfl) dX10_fetch_14 ⟨Nat.zero_le _, Nat.zero_le _⟩ (fun H locs G => ?_)
      refine lv_if_ne (tgt := 27) hx hb dX10_fetch_17 (by decide) (fun h => absurd h (by decide)) (fun _ => ?_)
      refine lv_aload_n hx hb dX10_fetch_20 rfl (lv_at hl 0 rfl) ?_
      refine lv_bipush (v := (-2)) hx hb dX10_fetch_21 (by decide) ?_
      refine q_cV (rest := []) E G 17 0 c17 sg_17 (C := RX10) (T := TX10) (N := 21) rfl (k_X10_refuses l D cy sz ad n S (-2)) tb_492 tb_494 tp_8 tb_6 tb_495 (nn := 1) (by decide +kernel) ⟨Nat.le_of_ble_eq_true rfl, Nat.le_of_ble_eq_true rfl⟩ rfl hl.1 rfl (Nat.le_of_ble_eq_true rfl) dX10_fetch_23 ⟨Nat.zero_le _, Nat.zero_le _⟩ (fun H locs G => ?_)
      exact q_iret E G (by unfold f_X10_fetch; simp only [if_pos h1, if_neg h3, pr_eta]) dX10_fetch_26
  · refine q_cSp E G [] (k_X10_in_f l D cy sz ad n S x1 0 3 h1) tb_489 tb_490 tb_6 tb_491 (nn := 3) (by decide +kernel) ⟨Nat.le_of_ble_eq_true rfl, Nat.le_of_ble_eq_true rfl⟩ rfl hl.1 rfl (Nat.le_of_ble_eq_true rfl) dX10_fetch_3 ⟨Nat.zero_le _, Nat.zero_le _⟩ (fun H locs G => ?_)
    refine lv_if_eq (tgt := 20) hx hb dX10_fetch_6 (by decide) (fun _ => ?_) (fun h => absurd h (by decide))
    refine lv_aload_n hx hb dX10_fetch_20 rfl (lv_at hl 0 rfl) ?_
    refine lv_bipush (v := (-2)) hx hb dX10_fetch_21 (by decide) ?_
    refine q_cV (rest := []) E G 17 0 c17 sg_17 (C := RX10) (T := TX10) (N := 21) rfl (k_X10_refuses l D cy sz ad n S (-2)) tb_492 tb_494 tp_8 tb_6 tb_495 (nn := 1) (by decide +kernel) ⟨Nat.le_of_ble_eq_true rfl, Nat.le_of_ble_eq_true rfl⟩ rfl hl.1 rfl (Nat.le_of_ble_eq_true rfl) dX10_fetch_23 ⟨Nat.zero_le _, Nat.zero_le _⟩ (fun H locs G => ?_)
    exact q_iret E G (by unfold f_X10_fetch; simp only [if_neg h1, pr_eta]) dX10_fetch_26

def f_X10_strike (S : SS) (x1 : Int32) (x2 : Int32) : Int32 × SS := if wj x1 0 1 = true then (if (pL (S.1 18 12 x1.toNatClampNeg) x2) = 0 then (if 0 ≤ (S.1 18 13 ((8 * x1) + x2).toNatClampNeg) then (f_X10_says (uI S 18 13 ((8 * x1) + x2).toNatClampNeg (-1)) 1) else (f_X10_says (uI S 18 13 ((8 * x1) + x2).toNatClampNeg (-1)) 0)) else (f_X10_fails S (pL (S.1 18 12 x1.toNatClampNeg) x2))) else (f_X10_refuses S (-2))
set_option maxHeartbeats 4000000 in
set_option maxRecDepth 100000 in
theorem k_X10_strike (l : Launch) (D : va_G) (cy : Nat → ClassId) (sz : Nat) (ad : Nat → Nat → Nat) (n : Nat) (S : SS) (ok : okM S) (x1 : Int32) (x2 : Int32) : CI l yX10_strike cX10_strike 5 (some .int) 2 43 [.ref (ad 17 0), .int x1, .int x2] D cy sz ad n S (f_X10_strike S x1 x2) := by
  refine Met.enter (by decide) (Nat.le_of_ble_eq_true rfl) (fun p e s m args below meth c ls E G hl => ?_)
  have E : En p s m args meth c cX10_strike 5 (some .int) RX10 D cy sz := E
  obtain ⟨hx, hb, hrt, hml, hown, hw, hlk, hK, hF, hsz⟩ := id E
  have hl : lv_has ls 5 [(0, .ref (ad 17 0)), (1, .int x1), (2, .int x2)] := hl
  refine lv_iload_n hx hb dX10_strike_0 rfl (lv_at hl 1 rfl) ?_
  refine lv_iconst (v := 0) hx hb dX10_strike_1 (by decide) ?_
  refine lv_iconst (v := 1) hx hb dX10_strike_2 (by decide) ?_
  by_cases h1 : wj x1 0 1 = true
  · have v2 : vp_in x1 2 := wj_in h1 (by decide) (by decide)
    refine q_cSp E G [] (k_X10_in_t l D cy sz ad n S x1 0 1 h1) tb_489 tb_490 tb_6 tb_491 (nn := 3) (by decide +kernel) ⟨Nat.le_of_ble_eq_true rfl, Nat.le_of_ble_eq_true rfl⟩ rfl hl.1 rfl (Nat.le_of_ble_eq_true rfl) dX10_strike_3 ⟨Nat.zero_le _, Nat.zero_le _⟩ (fun H locs G => ?_)
    refine lv_if_ne (tgt := 16) hx hb dX10_strike_6 (by decide) (fun _ => ?_) (fun h => absurd h (by decide))
    refine lv_aload_n hx hb dX10_strike_16 rfl (lv_at hl 0 rfl) ?_
    refine q_get (index := 44) (ref := "ToolRoomModel") E G inX10 17 0 c17 sg_17 rfl 12 (by decide) tb_433 (Or.inl rfl) rfl dX10_strike_17 ?_
    refine lv_iload_n hx hb dX10_strike_20 rfl (lv_at hl 1 rfl) ?_
    refine q_iald E G 18 12 (c18 12 (by decide)) sa_18_12 v2 dX10_strike_21 ?_
    refine lv_iload_n hx hb dX10_strike_22 rfl (lv_at hl 2 rfl) ?_
    refine q_cSp E G [] (k_X10_lacks l D cy sz ad n S (S.1 18 12 x1.toNatClampNeg) x2) tb_574 tb_575 tb_6 tb_576 (nn := 2) (by decide +kernel) ⟨Nat.le_of_ble_eq_true rfl, Nat.le_of_ble_eq_true rfl⟩ rfl hl.1 rfl (Nat.le_of_ble_eq_true rfl) dX10_strike_23 ⟨Nat.zero_le _, Nat.zero_le _⟩ (fun H locs G => ?_)
    refine lv_istore_n (lv' := [(3, .int (pL (S.1 18 12 x1.toNatClampNeg) x2)), (0, .ref (ad 17 0)), (1, .int x1), (2, .int x2)]) hx hb dX10_strike_26 rfl hl (by decide) rfl (fun ls hl => ?_)
    refine lv_iload_n hx hb dX10_strike_27 rfl (lv_at hl 0 rfl) ?_
    refine lv_if_eq (tgt := 37) hx hb dX10_strike_28 (by decide) (fun h3 => ?_) (fun h3 => ?_)
    · have v4 : vp_in x2 8 := pL_0 h3 (ok.2.2.2.2.2.1 _ (vp_lt v2)) (by decide)
      refine lv_aload_n hx hb dX10_strike_37 rfl (lv_at hl 1 rfl) ?_
      refine q_get (index := 47) (ref := "ToolRoomModel") E G inX10 17 0 c17 sg_17 rfl 13 (by decide) tb_434 (Or.inl rfl) rfl dX10_strike_38 ?_
      refine lv_bipush (v := 8) hx hb dX10_strike_41 (by decide) ?_
      refine lv_iload_n hx hb dX10_strike_43 rfl (lv_at hl 2 rfl) ?_
      refine lv_imul hx hb dX10_strike_44 ?_
      refine lv_iload_n hx hb dX10_strike_45 rfl (lv_at hl 3 rfl) ?_
      refine lv_iadd hx hb dX10_strike_46 ?_
      refine q_iald E G 18 13 (c18 13 (by decide)) sa_18_13 (ixv v2 v4 8 rfl (by decide) (by decide) (by decide) (by decide) (by decide)) dX10_strike_47 ?_
      refine lv_if_ge (tgt := 55) hx hb dX10_strike_48 (by decide) (fun h5 => ?_) (fun h5 => ?_)
      · refine lv_iconst (v := 1) hx hb dX10_strike_55 (by decide) ?_
        refine lv_istore (lv' := [(4, .int 1), (3, .int (pL (S.1 18 12 x1.toNatClampNeg) x2)), (0, .ref (ad 17 0)), (1, .int x1), (2, .int x2)]) hx hb dX10_strike_56 hl (by decide) rfl (fun ls hl => ?_)
        refine lv_aload_n hx hb dX10_strike_58 rfl (lv_at hl 2 rfl) ?_
        refine q_get (index := 47) (ref := "ToolRoomModel") E G inX10 17 0 c17 sg_17 rfl 13 (by decide) tb_434 (Or.inl rfl) rfl dX10_strike_59 ?_
        refine lv_bipush (v := 8) hx hb dX10_strike_62 (by decide) ?_
        refine lv_iload_n hx hb dX10_strike_64 rfl (lv_at hl 3 rfl) ?_
        refine lv_imul hx hb dX10_strike_65 ?_
        refine lv_iload_n hx hb dX10_strike_66 rfl (lv_at hl 4 rfl) ?_
        refine lv_iadd hx hb dX10_strike_67 ?_
        refine lv_iconst (v := (-1)) hx hb dX10_strike_68 (by decide) ?_
        refine q_iast E G 18 13 (c18 13 (by decide)) (fun _ => sa_18_13) (ixv v2 v4 8 rfl (by decide) (by decide) (by decide) (by decide) (by decide)) dX10_strike_69 (fun H locs G => ?_)
        refine lv_aload_n hx hb dX10_strike_70 rfl (lv_at hl 2 rfl) ?_
        refine lv_iload hx hb dX10_strike_71 (lv_at hl 0 rfl) ?_
        refine q_cV (rest := []) E G 17 0 c17 sg_17 (C := RX10) (T := TX10) (N := 21) rfl (k_X10_says l D cy sz ad n (uI S 18 13 ((8 * x1) + x2).toNatClampNeg (-1)) 1) tb_496 tb_498 tp_9 tb_6 tb_499 (nn := 1) (by decide +kernel) ⟨Nat.le_of_ble_eq_true rfl, Nat.le_of_ble_eq_true rfl⟩ rfl hl.1 rfl (Nat.le_of_ble_eq_true rfl) dX10_strike_73 ⟨Nat.zero_le _, Nat.zero_le _⟩ (fun H locs G => ?_)
        exact q_iret E G (by unfold f_X10_strike; simp only [if_pos h1, if_pos h3, if_pos h5, pr_eta]) dX10_strike_76
      · refine lv_iconst (v := 0) hx hb dX10_strike_51 (by decide) ?_
        refine lv_goto (tgt := 56) hx hb dX10_strike_52 (by decide) ?_
        refine lv_istore (lv' := [(4, .int 0), (3, .int (pL (S.1 18 12 x1.toNatClampNeg) x2)), (0, .ref (ad 17 0)), (1, .int x1), (2, .int x2)]) hx hb dX10_strike_56 hl (by decide) rfl (fun ls hl => ?_)
        refine lv_aload_n hx hb dX10_strike_58 rfl (lv_at hl 2 rfl) ?_
        refine q_get (index := 47) (ref := "ToolRoomModel") E G inX10 17 0 c17 sg_17 rfl 13 (by decide) tb_434 (Or.inl rfl) rfl dX10_strike_59 ?_
        refine lv_bipush (v := 8) hx hb dX10_strike_62 (by decide) ?_
        refine lv_iload_n hx hb dX10_strike_64 rfl (lv_at hl 3 rfl) ?_
        refine lv_imul hx hb dX10_strike_65 ?_
        refine lv_iload_n hx hb dX10_strike_66 rfl (lv_at hl 4 rfl) ?_
        refine lv_iadd hx hb dX10_strike_67 ?_
        refine lv_iconst (v := (-1)) hx hb dX10_strike_68 (by decide) ?_
        refine q_iast E G 18 13 (c18 13 (by decide)) (fun _ => sa_18_13) (ixv v2 v4 8 rfl (by decide) (by decide) (by decide) (by decide) (by decide)) dX10_strike_69 (fun H locs G => ?_)
        refine lv_aload_n hx hb dX10_strike_70 rfl (lv_at hl 2 rfl) ?_
        refine lv_iload hx hb dX10_strike_71 (lv_at hl 0 rfl) ?_
        refine q_cV (rest := []) E G 17 0 c17 sg_17 (C := RX10) (T := TX10) (N := 21) rfl (k_X10_says l D cy sz ad n (uI S 18 13 ((8 * x1) + x2).toNatClampNeg (-1)) 0) tb_496 tb_498 tp_9 tb_6 tb_499 (nn := 1) (by decide +kernel) ⟨Nat.le_of_ble_eq_true rfl, Nat.le_of_ble_eq_true rfl⟩ rfl hl.1 rfl (Nat.le_of_ble_eq_true rfl) dX10_strike_73 ⟨Nat.zero_le _, Nat.zero_le _⟩ (fun H locs G => ?_)
        exact q_iret E G (by unfold f_X10_strike; simp only [if_pos h1, if_pos h3, if_neg h5, pr_eta]) dX10_strike_76
    · refine lv_aload_n hx hb dX10_strike_31 rfl (lv_at hl 1 rfl) ?_
      refine lv_iload_n hx hb dX10_strike_32 rfl (lv_at hl 0 rfl) ?_
      refine q_cV (rest := []) E G 17 0 c17 sg_17 (C := RX10) (T := TX10) (N := 21) rfl (k_X10_fails l D cy sz ad n S (pL (S.1 18 12 x1.toNatClampNeg) x2) pL_in) tb_516 tb_518 tp_10 tb_6 tb_519 (nn := 1) (by decide +kernel) ⟨Nat.le_of_ble_eq_true rfl, Nat.le_of_ble_eq_true rfl⟩ rfl hl.1 rfl (Nat.le_of_ble_eq_true rfl) dX10_strike_33 ⟨Nat.zero_le _, Nat.zero_le _⟩ (fun H locs G => ?_)
      exact q_iret E G (by unfold f_X10_strike; simp only [if_pos h1, if_neg h3, pr_eta]) dX10_strike_36
  · refine q_cSp E G [] (k_X10_in_f l D cy sz ad n S x1 0 1 h1) tb_489 tb_490 tb_6 tb_491 (nn := 3) (by decide +kernel) ⟨Nat.le_of_ble_eq_true rfl, Nat.le_of_ble_eq_true rfl⟩ rfl hl.1 rfl (Nat.le_of_ble_eq_true rfl) dX10_strike_3 ⟨Nat.zero_le _, Nat.zero_le _⟩ (fun H locs G => ?_)
    refine lv_if_ne (tgt := 16) hx hb dX10_strike_6 (by decide) (fun h => absurd h (by decide)) (fun _ => ?_)
    refine lv_aload_n hx hb dX10_strike_9 rfl (lv_at hl 0 rfl) ?_
    refine lv_bipush (v := (-2)) hx hb dX10_strike_10 (by decide) ?_
    refine q_cV (rest := []) E G 17 0 c17 sg_17 (C := RX10) (T := TX10) (N := 21) rfl (k_X10_refuses l D cy sz ad n S (-2)) tb_492 tb_494 tp_8 tb_6 tb_495 (nn := 1) (by decide +kernel) ⟨Nat.le_of_ble_eq_true rfl, Nat.le_of_ble_eq_true rfl⟩ rfl hl.1 rfl (Nat.le_of_ble_eq_true rfl) dX10_strike_12 ⟨Nat.zero_le _, Nat.zero_le _⟩ (fun H locs G => ?_)
    exact q_iret E G (by unfold f_X10_strike; simp only [if_neg h1, pr_eta]) dX10_strike_15

def f_X10_mark (S : SS) (x1 : Int32) (x2 : Int32) (x3 : Int32) (x4 : Int32) : Int32 × SS := if wj x1 0 1 = true then (if (pD S x1 x2 x3) = 0 then (f_X10_says (uI S 18 14 (((64 * x1) + (8 * x2)) + x3).toNatClampNeg x4) 1) else (f_X10_fails S (pD S x1 x2 x3))) else (f_X10_refuses S (-2))
set_option maxHeartbeats 4000000 in
set_option maxRecDepth 100000 in
theorem k_X10_mark (l : Launch) (D : va_G) (cy : Nat → ClassId) (sz : Nat) (ad : Nat → Nat → Nat) (n : Nat) (S : SS) (ok : okM S) (x1 : Int32) (x2 : Int32) (x3 : Int32) (x4 : Int32) : CI l yX10_mark cX10_mark 6 (some .int) 3 67 [.ref (ad 17 0), .int x1, .int x2, .int x3, .int x4] D cy sz ad n S (f_X10_mark S x1 x2 x3 x4) := by
  refine Met.enter (by decide) (Nat.le_of_ble_eq_true rfl) (fun p e s m args below meth c ls E G hl => ?_)
  have E : En p s m args meth c cX10_mark 6 (some .int) RX10 D cy sz := E
  obtain ⟨hx, hb, hrt, hml, hown, hw, hlk, hK, hF, hsz⟩ := id E
  have hl : lv_has ls 6 [(0, .ref (ad 17 0)), (1, .int x1), (2, .int x2), (3, .int x3), (4, .int x4)] := hl
  refine lv_iload_n hx hb dX10_mark_0 rfl (lv_at hl 1 rfl) ?_
  refine lv_iconst (v := 0) hx hb dX10_mark_1 (by decide) ?_
  refine lv_iconst (v := 1) hx hb dX10_mark_2 (by decide) ?_
  by_cases h1 : wj x1 0 1 = true
  · have v2 : vp_in x1 2 := wj_in h1 (by decide) (by decide)
    refine q_cSp E G [] (k_X10_in_t l D cy sz ad n S x1 0 1 h1) tb_489 tb_490 tb_6 tb_491 (nn := 3) (by decide +kernel) ⟨Nat.le_of_ble_eq_true rfl, Nat.le_of_ble_eq_true rfl⟩ rfl hl.1 rfl (Nat.le_of_ble_eq_true rfl) dX10_mark_3 ⟨Nat.zero_le _, Nat.zero_le _⟩ (fun H locs G => ?_)
    refine lv_if_ne (tgt := 16) hx hb dX10_mark_6 (by decide) (fun _ => ?_) (fun h => absurd h (by decide))
    refine lv_aload_n hx hb dX10_mark_16 rfl (lv_at hl 0 rfl) ?_
    refine lv_iload_n hx hb dX10_mark_17 rfl (lv_at hl 1 rfl) ?_
    refine lv_iload_n hx hb dX10_mark_18 rfl (lv_at hl 2 rfl) ?_
    refine lv_iload_n hx hb dX10_mark_19 rfl (lv_at hl 3 rfl) ?_
    refine q_cVp E G 17 0 c17 sg_17 (C := RX10) (T := TX10) (N := 21) rfl [] (k_X10_lacksCell l D cy sz ad n S ok x1 x2 x3 v2) tb_613 tb_615 tp_15 tb_6 tb_616 (nn := 3) (by decide +kernel) ⟨Nat.le_of_ble_eq_true rfl, Nat.le_of_ble_eq_true rfl⟩ rfl hl.1 rfl (Nat.le_of_ble_eq_true rfl) dX10_mark_20 ⟨Nat.zero_le _, Nat.zero_le _⟩ (fun H locs G => ?_)
    refine lv_istore (lv' := [(5, .int (pD S x1 x2 x3)), (0, .ref (ad 17 0)), (1, .int x1), (2, .int x2), (3, .int x3), (4, .int x4)]) hx hb dX10_mark_23 hl (by decide) rfl (fun ls hl => ?_)
    refine lv_iload hx hb dX10_mark_25 (lv_at hl 0 rfl) ?_
    refine lv_if_eq (tgt := 37) hx hb dX10_mark_27 (by decide) (fun h3 => ?_) (fun h3 => ?_)
    · have v4 : vp_in x2 8 := pL_0 (pD_a h3) (ok.2.2.2.2.2.1 _ (vp_lt v2)) (by decide)
      have v5 : vp_in x3 8 := pL_0 (pD_b h3) (ok.2.2.2.2.2.2 _ (vp_lt (ixv (N := 16) v2 v4 8 rfl (by decide) (by decide) (by decide) (by decide) (by decide)))) (by decide)
      refine lv_aload_n hx hb dX10_mark_37 rfl (lv_at hl 1 rfl) ?_
      refine q_get (index := 50) (ref := "ToolRoomModel") E G inX10 17 0 c17 sg_17 rfl 14 (by decide) tb_435 (Or.inl rfl) rfl dX10_mark_38 ?_
      refine lv_bipush (v := 64) hx hb dX10_mark_41 (by decide) ?_
      refine lv_iload_n hx hb dX10_mark_43 rfl (lv_at hl 2 rfl) ?_
      refine lv_imul hx hb dX10_mark_44 ?_
      refine lv_bipush (v := 8) hx hb dX10_mark_45 (by decide) ?_
      refine lv_iload_n hx hb dX10_mark_47 rfl (lv_at hl 3 rfl) ?_
      refine lv_imul hx hb dX10_mark_48 ?_
      refine lv_iadd hx hb dX10_mark_49 ?_
      refine lv_iload_n hx hb dX10_mark_50 rfl (lv_at hl 4 rfl) ?_
      refine lv_iadd hx hb dX10_mark_51 ?_
      refine lv_iload hx hb dX10_mark_52 (lv_at hl 5 rfl) ?_
      refine q_iast E G 18 14 (c18 14 (by decide)) (fun _ => sa_18_14) (ix3v v2 v4 v5) dX10_mark_54 (fun H locs G => ?_)
      refine lv_aload_n hx hb dX10_mark_55 rfl (lv_at hl 1 rfl) ?_
      refine lv_iconst (v := 1) hx hb dX10_mark_56 (by decide) ?_
      refine q_cV (rest := []) E G 17 0 c17 sg_17 (C := RX10) (T := TX10) (N := 21) rfl (k_X10_says l D cy sz ad n (uI S 18 14 (((64 * x1) + (8 * x2)) + x3).toNatClampNeg x4) 1) tb_496 tb_498 tp_9 tb_6 tb_499 (nn := 1) (by decide +kernel) ⟨Nat.le_of_ble_eq_true rfl, Nat.le_of_ble_eq_true rfl⟩ rfl hl.1 rfl (Nat.le_of_ble_eq_true rfl) dX10_mark_57 ⟨Nat.zero_le _, Nat.zero_le _⟩ (fun H locs G => ?_)
      exact q_iret E G (by unfold f_X10_mark; simp only [if_pos h1, if_pos h3, pr_eta]) dX10_mark_60
    · refine lv_aload_n hx hb dX10_mark_30 rfl (lv_at hl 1 rfl) ?_
      refine lv_iload hx hb dX10_mark_31 (lv_at hl 0 rfl) ?_
      refine q_cV (rest := []) E G 17 0 c17 sg_17 (C := RX10) (T := TX10) (N := 21) rfl (k_X10_fails l D cy sz ad n S (pD S x1 x2 x3) pD_in) tb_516 tb_518 tp_10 tb_6 tb_519 (nn := 1) (by decide +kernel) ⟨Nat.le_of_ble_eq_true rfl, Nat.le_of_ble_eq_true rfl⟩ rfl hl.1 rfl (Nat.le_of_ble_eq_true rfl) dX10_mark_33 ⟨Nat.zero_le _, Nat.zero_le _⟩ (fun H locs G => ?_)
      exact q_iret E G (by unfold f_X10_mark; simp only [if_pos h1, if_neg h3, pr_eta]) dX10_mark_36
  · refine q_cSp E G [] (k_X10_in_f l D cy sz ad n S x1 0 1 h1) tb_489 tb_490 tb_6 tb_491 (nn := 3) (by decide +kernel) ⟨Nat.le_of_ble_eq_true rfl, Nat.le_of_ble_eq_true rfl⟩ rfl hl.1 rfl (Nat.le_of_ble_eq_true rfl) dX10_mark_3 ⟨Nat.zero_le _, Nat.zero_le _⟩ (fun H locs G => ?_)
    refine lv_if_ne (tgt := 16) hx hb dX10_mark_6 (by decide) (fun h => absurd h (by decide)) (fun _ => ?_)
    refine lv_aload_n hx hb dX10_mark_9 rfl (lv_at hl 0 rfl) ?_
    refine lv_bipush (v := (-2)) hx hb dX10_mark_10 (by decide) ?_
    refine q_cV (rest := []) E G 17 0 c17 sg_17 (C := RX10) (T := TX10) (N := 21) rfl (k_X10_refuses l D cy sz ad n S (-2)) tb_492 tb_494 tp_8 tb_6 tb_495 (nn := 1) (by decide +kernel) ⟨Nat.le_of_ble_eq_true rfl, Nat.le_of_ble_eq_true rfl⟩ rfl hl.1 rfl (Nat.le_of_ble_eq_true rfl) dX10_mark_12 ⟨Nat.zero_le _, Nat.zero_le _⟩ (fun H locs G => ?_)
    exact q_iret E G (by unfold f_X10_mark; simp only [if_neg h1, pr_eta]) dX10_mark_15

def f_X10_cell (S : SS) (x1 : Int32) (x2 : Int32) (x3 : Int32) : Int32 × SS := if wj x1 0 1 = true then (if (pD (uI S 17 0 17 0) x1 x2 x3) = 0 then ((S.1 18 14 (((64 * x1) + (8 * x2)) + x3).toNatClampNeg), (uI S 17 0 17 0)) else (0, (f_X10_fails (uI S 17 0 17 0) (pD (uI S 17 0 17 0) x1 x2 x3)).2)) else (0, (uI S 17 0 17 (-2)))
set_option maxHeartbeats 4000000 in
set_option maxRecDepth 100000 in
theorem k_X10_cell (l : Launch) (D : va_G) (cy : Nat → ClassId) (sz : Nat) (ad : Nat → Nat → Nat) (n : Nat) (S : SS) (ok : okM S) (x1 : Int32) (x2 : Int32) (x3 : Int32) : CI l yX10_cell cX10_cell 5 (some .int) 3 67 [.ref (ad 17 0), .int x1, .int x2, .int x3] D cy sz ad n S (f_X10_cell S x1 x2 x3) := by
  refine Met.enter (by decide) (Nat.le_of_ble_eq_true rfl) (fun p e s m args below meth c ls E G hl => ?_)
  have E : En p s m args meth c cX10_cell 5 (some .int) RX10 D cy sz := E
  obtain ⟨hx, hb, hrt, hml, hown, hw, hlk, hK, hF, hsz⟩ := id E
  have hl : lv_has ls 5 [(0, .ref (ad 17 0)), (1, .int x1), (2, .int x2), (3, .int x3)] := hl
  refine lv_aload_n hx hb dX10_cell_0 rfl (lv_at hl 0 rfl) ?_
  refine lv_iload_n hx hb dX10_cell_1 rfl (lv_at hl 1 rfl) ?_
  refine lv_iconst (v := 0) hx hb dX10_cell_2 (by decide) ?_
  refine lv_iconst (v := 1) hx hb dX10_cell_3 (by decide) ?_
  by_cases h1 : wj x1 0 1 = true
  · have v2 : vp_in x1 2 := wj_in h1 (by decide) (by decide)
    refine q_cSp E G [.ref (ad 17 0)] (k_X10_in_t l D cy sz ad n S x1 0 1 h1) tb_489 tb_490 tb_6 tb_491 (nn := 3) (by decide +kernel) ⟨Nat.le_of_ble_eq_true rfl, Nat.le_of_ble_eq_true rfl⟩ rfl hl.1 rfl (Nat.le_of_ble_eq_true rfl) dX10_cell_4 ⟨Nat.zero_le _, Nat.zero_le _⟩ (fun H locs G => ?_)
    refine lv_if_eq (tgt := 14) hx hb dX10_cell_7 (by decide) (fun h => absurd h (by decide)) (fun _ => ?_)
    refine lv_iconst (v := 0) hx hb dX10_cell_10 (by decide) ?_
    refine lv_goto (tgt := 16) hx hb dX10_cell_11 (by decide) ?_
    refine q_put (index := 62) (ref := "ToolRoomModel") E G inX10 tyX10 tyX10_ok nmX10 17 0 c17 17 sg_17 rfl 17 (by decide) tb_438 (Or.inl rfl) rfl (ty := .int) (by decide +kernel) rfl rfl (Nat.le_of_ble_eq_true rfl) sp_17_17 dX10_cell_16 (fun H locs G => ?_)
    refine lv_aload_n hx hb dX10_cell_19 rfl (lv_at hl 0 rfl) ?_
    refine q_get (index := 62) (ref := "ToolRoomModel") E G inX10 17 0 c17 sg_17 rfl 17 (by decide) tb_438 (Or.inl rfl) rfl dX10_cell_20 ?_
    rw [uI_self]
    refine lv_if_eq (tgt := 28) hx hb dX10_cell_23 (by decide) (fun _ => ?_) (fun h => absurd h (by decide))
    refine lv_aload_n hx hb dX10_cell_28 rfl (lv_at hl 0 rfl) ?_
    refine lv_iload_n hx hb dX10_cell_29 rfl (lv_at hl 1 rfl) ?_
    refine lv_iload_n hx hb dX10_cell_30 rfl (lv_at hl 2 rfl) ?_
    refine lv_iload_n hx hb dX10_cell_31 rfl (lv_at hl 3 rfl) ?_
    refine q_cVp E G 17 0 c17 sg_17 (C := RX10) (T := TX10) (N := 21) rfl [] (k_X10_lacksCell l D cy sz ad n (uI S 17 0 17 0) (okM_w ok) x1 x2 x3 v2) tb_613 tb_615 tp_15 tb_6 tb_616 (nn := 3) (by decide +kernel) ⟨Nat.le_of_ble_eq_true rfl, Nat.le_of_ble_eq_true rfl⟩ rfl hl.1 rfl (Nat.le_of_ble_eq_true rfl) dX10_cell_32 ⟨Nat.zero_le _, Nat.zero_le _⟩ (fun H locs G => ?_)
    refine lv_istore (lv' := [(4, .int (pD (uI S 17 0 17 0) x1 x2 x3)), (0, .ref (ad 17 0)), (1, .int x1), (2, .int x2), (3, .int x3)]) hx hb dX10_cell_35 hl (by decide) rfl (fun ls hl => ?_)
    refine lv_iload hx hb dX10_cell_37 (lv_at hl 0 rfl) ?_
    refine lv_if_eq (tgt := 52) hx hb dX10_cell_39 (by decide) (fun h3 => ?_) (fun h3 => ?_)
    · have v4 : vp_in x2 8 := pL_0 (pD_a h3) ((okM_w ok).2.2.2.2.2.1 _ (vp_lt v2)) (by decide)
      have v5 : vp_in x3 8 := pL_0 (pD_b h3) ((okM_w ok).2.2.2.2.2.2 _ (vp_lt (ixv (N := 16) v2 v4 8 rfl (by decide) (by decide) (by decide) (by decide) (by decide)))) (by decide)
      refine lv_aload_n hx hb dX10_cell_52 rfl (lv_at hl 1 rfl) ?_
      refine q_get (index := 50) (ref := "ToolRoomModel") E G inX10 17 0 c17 sg_17 rfl 14 (by decide) tb_435 (Or.inl rfl) rfl dX10_cell_53 ?_
      refine lv_bipush (v := 64) hx hb dX10_cell_56 (by decide) ?_
      refine lv_iload_n hx hb dX10_cell_58 rfl (lv_at hl 2 rfl) ?_
      refine lv_imul hx hb dX10_cell_59 ?_
      refine lv_bipush (v := 8) hx hb dX10_cell_60 (by decide) ?_
      refine lv_iload_n hx hb dX10_cell_62 rfl (lv_at hl 3 rfl) ?_
      refine lv_imul hx hb dX10_cell_63 ?_
      refine lv_iadd hx hb dX10_cell_64 ?_
      refine lv_iload_n hx hb dX10_cell_65 rfl (lv_at hl 4 rfl) ?_
      refine lv_iadd hx hb dX10_cell_66 ?_
      refine q_iald E G 18 14 (c18 14 (by decide)) sa_18_14 (ix3v v2 v4 v5) dX10_cell_67 ?_
      rw [uI_nf (by decide)]
      exact q_iret E G (by unfold f_X10_cell; simp only [if_pos h1, if_pos h3, pr_eta]) dX10_cell_68
    · refine lv_aload_n hx hb dX10_cell_42 rfl (lv_at hl 1 rfl) ?_
      refine lv_iload hx hb dX10_cell_43 (lv_at hl 0 rfl) ?_
      refine q_cV (rest := []) E G 17 0 c17 sg_17 (C := RX10) (T := TX10) (N := 21) rfl (k_X10_fails l D cy sz ad n (uI S 17 0 17 0) (pD (uI S 17 0 17 0) x1 x2 x3) pD_in) tb_516 tb_518 tp_10 tb_6 tb_519 (nn := 1) (by decide +kernel) ⟨Nat.le_of_ble_eq_true rfl, Nat.le_of_ble_eq_true rfl⟩ rfl hl.1 rfl (Nat.le_of_ble_eq_true rfl) dX10_cell_45 ⟨Nat.zero_le _, Nat.zero_le _⟩ (fun H locs G => ?_)
      refine lv_istore (lv' := [(4, .int (f_X10_fails (uI S 17 0 17 0) (pD (uI S 17 0 17 0) x1 x2 x3)).1), (0, .ref (ad 17 0)), (1, .int x1), (2, .int x2), (3, .int x3)]) hx hb dX10_cell_48 hl (by decide) rfl (fun ls hl => ?_)
      refine lv_iconst (v := 0) hx hb dX10_cell_50 (by decide) ?_
      exact q_iret E G (by unfold f_X10_cell; simp only [if_pos h1, if_neg h3, pr_eta]) dX10_cell_51
  · refine q_cSp E G [.ref (ad 17 0)] (k_X10_in_f l D cy sz ad n S x1 0 1 h1) tb_489 tb_490 tb_6 tb_491 (nn := 3) (by decide +kernel) ⟨Nat.le_of_ble_eq_true rfl, Nat.le_of_ble_eq_true rfl⟩ rfl hl.1 rfl (Nat.le_of_ble_eq_true rfl) dX10_cell_4 ⟨Nat.zero_le _, Nat.zero_le _⟩ (fun H locs G => ?_)
    refine lv_if_eq (tgt := 14) hx hb dX10_cell_7 (by decide) (fun _ => ?_) (fun h => absurd h (by decide))
    refine lv_bipush (v := (-2)) hx hb dX10_cell_14 (by decide) ?_
    refine q_put (index := 62) (ref := "ToolRoomModel") E G inX10 tyX10 tyX10_ok nmX10 17 0 c17 17 sg_17 rfl 17 (by decide) tb_438 (Or.inl rfl) rfl (ty := .int) (by decide +kernel) rfl rfl (Nat.le_of_ble_eq_true rfl) sp_17_17 dX10_cell_16 (fun H locs G => ?_)
    refine lv_aload_n hx hb dX10_cell_19 rfl (lv_at hl 0 rfl) ?_
    refine q_get (index := 62) (ref := "ToolRoomModel") E G inX10 17 0 c17 sg_17 rfl 17 (by decide) tb_438 (Or.inl rfl) rfl dX10_cell_20 ?_
    rw [uI_self]
    refine lv_if_eq (tgt := 28) hx hb dX10_cell_23 (by decide) (fun h => absurd h (by decide)) (fun _ => ?_)
    refine lv_iconst (v := 0) hx hb dX10_cell_26 (by decide) ?_
    exact q_iret E G (by unfold f_X10_cell; simp only [if_neg h1, pr_eta]) dX10_cell_27

def f_X10_alarm (S : SS) (x1 : Int32) (x2 : Int32) : Int32 × SS := if wj x1 0 3 = true then (if (S.1 18 15 x1.toNatClampNeg) = 0 then (f_X10_says (uI (uI S 18 15 x1.toNatClampNeg 1) 18 16 x1.toNatClampNeg x2) 1) else (f_X10_says (uI (uI S 18 15 x1.toNatClampNeg 1) 18 16 x1.toNatClampNeg x2) 0)) else (f_X10_refuses S (-2))
set_option maxHeartbeats 4000000 in
set_option maxRecDepth 100000 in
theorem k_X10_alarm (l : Launch) (D : va_G) (cy : Nat → ClassId) (sz : Nat) (ad : Nat → Nat → Nat) (n : Nat) (S : SS) (ok : okM S) (x1 : Int32) (x2 : Int32) : CI l yX10_alarm cX10_alarm 4 (some .int) 1 22 [.ref (ad 17 0), .int x1, .int x2] D cy sz ad n S (f_X10_alarm S x1 x2) := by
  refine Met.enter (by decide) (Nat.le_of_ble_eq_true rfl) (fun p e s m args below meth c ls E G hl => ?_)
  have E : En p s m args meth c cX10_alarm 4 (some .int) RX10 D cy sz := E
  obtain ⟨hx, hb, hrt, hml, hown, hw, hlk, hK, hF, hsz⟩ := id E
  have hl : lv_has ls 4 [(0, .ref (ad 17 0)), (1, .int x1), (2, .int x2)] := hl
  refine lv_iload_n hx hb dX10_alarm_0 rfl (lv_at hl 1 rfl) ?_
  refine lv_iconst (v := 0) hx hb dX10_alarm_1 (by decide) ?_
  refine lv_iconst (v := 3) hx hb dX10_alarm_2 (by decide) ?_
  by_cases h1 : wj x1 0 3 = true
  · have v2 : vp_in x1 4 := wj_in h1 (by decide) (by decide)
    refine q_cSp E G [] (k_X10_in_t l D cy sz ad n S x1 0 3 h1) tb_489 tb_490 tb_6 tb_491 (nn := 3) (by decide +kernel) ⟨Nat.le_of_ble_eq_true rfl, Nat.le_of_ble_eq_true rfl⟩ rfl hl.1 rfl (Nat.le_of_ble_eq_true rfl) dX10_alarm_3 ⟨Nat.zero_le _, Nat.zero_le _⟩ (fun H locs G => ?_)
    refine lv_if_ne (tgt := 16) hx hb dX10_alarm_6 (by decide) (fun _ => ?_) (fun h => absurd h (by decide))
    refine lv_aload_n hx hb dX10_alarm_16 rfl (lv_at hl 0 rfl) ?_
    refine q_get (index := 53) (ref := "ToolRoomModel") E G inX10 17 0 c17 sg_17 rfl 15 (by decide) tb_436 (Or.inl rfl) rfl dX10_alarm_17 ?_
    refine lv_iload_n hx hb dX10_alarm_20 rfl (lv_at hl 1 rfl) ?_
    refine q_zald E G 18 15 (c18 15 (by decide)) sa_18_15 v2 dX10_alarm_21 ?_
    refine lv_if_eq (tgt := 29) hx hb dX10_alarm_22 (by decide) (fun h3 => ?_) (fun h3 => ?_)
    · refine lv_iconst (v := 1) hx hb dX10_alarm_29 (by decide) ?_
      refine lv_istore_n (lv' := [(3, .int 1), (0, .ref (ad 17 0)), (1, .int x1), (2, .int x2)]) hx hb dX10_alarm_30 rfl hl (by decide) rfl (fun ls hl => ?_)
      refine lv_aload_n hx hb dX10_alarm_31 rfl (lv_at hl 1 rfl) ?_
      refine q_get (index := 53) (ref := "ToolRoomModel") E G inX10 17 0 c17 sg_17 rfl 15 (by decide) tb_436 (Or.inl rfl) rfl dX10_alarm_32 ?_
      refine lv_iload_n hx hb dX10_alarm_35 rfl (lv_at hl 2 rfl) ?_
      refine lv_iconst (v := 1) hx hb dX10_alarm_36 (by decide) ?_
      refine q_zast E G 18 15 (c18 15 (by decide)) (fun _ => sa_18_15) v2 (by decide) dX10_alarm_37 (fun H locs G => ?_)
      refine lv_aload_n hx hb dX10_alarm_38 rfl (lv_at hl 1 rfl) ?_
      refine q_get (index := 56) (ref := "ToolRoomModel") E G inX10 17 0 c17 sg_17 rfl 16 (by decide) tb_437 (Or.inl rfl) rfl dX10_alarm_39 ?_
      refine lv_iload_n hx hb dX10_alarm_42 rfl (lv_at hl 2 rfl) ?_
      refine lv_iload_n hx hb dX10_alarm_43 rfl (lv_at hl 3 rfl) ?_
      refine q_iast E G 18 16 (c18 16 (by decide)) (fun _ => sa_18_16) v2 dX10_alarm_44 (fun H locs G => ?_)
      refine lv_aload_n hx hb dX10_alarm_45 rfl (lv_at hl 1 rfl) ?_
      refine lv_iload_n hx hb dX10_alarm_46 rfl (lv_at hl 0 rfl) ?_
      refine q_cV (rest := []) E G 17 0 c17 sg_17 (C := RX10) (T := TX10) (N := 21) rfl (k_X10_says l D cy sz ad n (uI (uI S 18 15 x1.toNatClampNeg 1) 18 16 x1.toNatClampNeg x2) 1) tb_496 tb_498 tp_9 tb_6 tb_499 (nn := 1) (by decide +kernel) ⟨Nat.le_of_ble_eq_true rfl, Nat.le_of_ble_eq_true rfl⟩ rfl hl.1 rfl (Nat.le_of_ble_eq_true rfl) dX10_alarm_47 ⟨Nat.zero_le _, Nat.zero_le _⟩ (fun H locs G => ?_)
      exact q_iret E G (by unfold f_X10_alarm; simp only [if_pos h1, if_pos h3, pr_eta]) dX10_alarm_50
    · refine lv_iconst (v := 0) hx hb dX10_alarm_25 (by decide) ?_
      refine lv_goto (tgt := 30) hx hb dX10_alarm_26 (by decide) ?_
      refine lv_istore_n (lv' := [(3, .int 0), (0, .ref (ad 17 0)), (1, .int x1), (2, .int x2)]) hx hb dX10_alarm_30 rfl hl (by decide) rfl (fun ls hl => ?_)
      refine lv_aload_n hx hb dX10_alarm_31 rfl (lv_at hl 1 rfl) ?_
      refine q_get (index := 53) (ref := "ToolRoomModel") E G inX10 17 0 c17 sg_17 rfl 15 (by decide) tb_436 (Or.inl rfl) rfl dX10_alarm_32 ?_
      refine lv_iload_n hx hb dX10_alarm_35 rfl (lv_at hl 2 rfl) ?_
      refine lv_iconst (v := 1) hx hb dX10_alarm_36 (by decide) ?_
      refine q_zast E G 18 15 (c18 15 (by decide)) (fun _ => sa_18_15) v2 (by decide) dX10_alarm_37 (fun H locs G => ?_)
      refine lv_aload_n hx hb dX10_alarm_38 rfl (lv_at hl 1 rfl) ?_
      refine q_get (index := 56) (ref := "ToolRoomModel") E G inX10 17 0 c17 sg_17 rfl 16 (by decide) tb_437 (Or.inl rfl) rfl dX10_alarm_39 ?_
      refine lv_iload_n hx hb dX10_alarm_42 rfl (lv_at hl 2 rfl) ?_
      refine lv_iload_n hx hb dX10_alarm_43 rfl (lv_at hl 3 rfl) ?_
      refine q_iast E G 18 16 (c18 16 (by decide)) (fun _ => sa_18_16) v2 dX10_alarm_44 (fun H locs G => ?_)
      refine lv_aload_n hx hb dX10_alarm_45 rfl (lv_at hl 1 rfl) ?_
      refine lv_iload_n hx hb dX10_alarm_46 rfl (lv_at hl 0 rfl) ?_
      refine q_cV (rest := []) E G 17 0 c17 sg_17 (C := RX10) (T := TX10) (N := 21) rfl (k_X10_says l D cy sz ad n (uI (uI S 18 15 x1.toNatClampNeg 1) 18 16 x1.toNatClampNeg x2) 0) tb_496 tb_498 tp_9 tb_6 tb_499 (nn := 1) (by decide +kernel) ⟨Nat.le_of_ble_eq_true rfl, Nat.le_of_ble_eq_true rfl⟩ rfl hl.1 rfl (Nat.le_of_ble_eq_true rfl) dX10_alarm_47 ⟨Nat.zero_le _, Nat.zero_le _⟩ (fun H locs G => ?_)
      exact q_iret E G (by unfold f_X10_alarm; simp only [if_pos h1, if_neg h3, pr_eta]) dX10_alarm_50
  · refine q_cSp E G [] (k_X10_in_f l D cy sz ad n S x1 0 3 h1) tb_489 tb_490 tb_6 tb_491 (nn := 3) (by decide +kernel) ⟨Nat.le_of_ble_eq_true rfl, Nat.le_of_ble_eq_true rfl⟩ rfl hl.1 rfl (Nat.le_of_ble_eq_true rfl) dX10_alarm_3 ⟨Nat.zero_le _, Nat.zero_le _⟩ (fun H locs G => ?_)
    refine lv_if_ne (tgt := 16) hx hb dX10_alarm_6 (by decide) (fun h => absurd h (by decide)) (fun _ => ?_)
    refine lv_aload_n hx hb dX10_alarm_9 rfl (lv_at hl 0 rfl) ?_
    refine lv_bipush (v := (-2)) hx hb dX10_alarm_10 (by decide) ?_
    refine q_cV (rest := []) E G 17 0 c17 sg_17 (C := RX10) (T := TX10) (N := 21) rfl (k_X10_refuses l D cy sz ad n S (-2)) tb_492 tb_494 tp_8 tb_6 tb_495 (nn := 1) (by decide +kernel) ⟨Nat.le_of_ble_eq_true rfl, Nat.le_of_ble_eq_true rfl⟩ rfl hl.1 rfl (Nat.le_of_ble_eq_true rfl) dX10_alarm_12 ⟨Nat.zero_le _, Nat.zero_le _⟩ (fun H locs G => ?_)
    exact q_iret E G (by unfold f_X10_alarm; simp only [if_neg h1, pr_eta]) dX10_alarm_15

def f_X10_calm (S : SS) (x1 : Int32) : Int32 × SS := if wj x1 0 3 = true then (if (S.1 18 15 x1.toNatClampNeg) = 0 then (f_X10_says (uI S 18 15 x1.toNatClampNeg 0) 0) else (f_X10_says (uI S 18 15 x1.toNatClampNeg 0) 1)) else (f_X10_refuses S (-2))
set_option maxHeartbeats 4000000 in
set_option maxRecDepth 100000 in
theorem k_X10_calm (l : Launch) (D : va_G) (cy : Nat → ClassId) (sz : Nat) (ad : Nat → Nat → Nat) (n : Nat) (S : SS) (ok : okM S) (x1 : Int32) : CI l yX10_calm cX10_calm 3 (some .int) 1 22 [.ref (ad 17 0), .int x1] D cy sz ad n S (f_X10_calm S x1) := by
  refine Met.enter (by decide) (Nat.le_of_ble_eq_true rfl) (fun p e s m args below meth c ls E G hl => ?_)
  have E : En p s m args meth c cX10_calm 3 (some .int) RX10 D cy sz := E
  obtain ⟨hx, hb, hrt, hml, hown, hw, hlk, hK, hF, hsz⟩ := id E
  have hl : lv_has ls 3 [(0, .ref (ad 17 0)), (1, .int x1)] := hl
  refine lv_iload_n hx hb dX10_calm_0 rfl (lv_at hl 1 rfl) ?_
  refine lv_iconst (v := 0) hx hb dX10_calm_1 (by decide) ?_
  refine lv_iconst (v := 3) hx hb dX10_calm_2 (by decide) ?_
  by_cases h1 : wj x1 0 3 = true
  · have v2 : vp_in x1 4 := wj_in h1 (by decide) (by decide)
    refine q_cSp E G [] (k_X10_in_t l D cy sz ad n S x1 0 3 h1) tb_489 tb_490 tb_6 tb_491 (nn := 3) (by decide +kernel) ⟨Nat.le_of_ble_eq_true rfl, Nat.le_of_ble_eq_true rfl⟩ rfl hl.1 rfl (Nat.le_of_ble_eq_true rfl) dX10_calm_3 ⟨Nat.zero_le _, Nat.zero_le _⟩ (fun H locs G => ?_)
    refine lv_if_ne (tgt := 16) hx hb dX10_calm_6 (by decide) (fun _ => ?_) (fun h => absurd h (by decide))
    refine lv_aload_n hx hb dX10_calm_16 rfl (lv_at hl 0 rfl) ?_
    refine q_get (index := 53) (ref := "ToolRoomModel") E G inX10 17 0 c17 sg_17 rfl 15 (by decide) tb_436 (Or.inl rfl) rfl dX10_calm_17 ?_
    refine lv_iload_n hx hb dX10_calm_20 rfl (lv_at hl 1 rfl) ?_
    refine q_zald E G 18 15 (c18 15 (by decide)) sa_18_15 v2 dX10_calm_21 ?_
    refine lv_if_eq (tgt := 29) hx hb dX10_calm_22 (by decide) (fun h3 => ?_) (fun h3 => ?_)
    · refine lv_iconst (v := 0) hx hb dX10_calm_29 (by decide) ?_
      refine lv_istore_n (lv' := [(2, .int 0), (0, .ref (ad 17 0)), (1, .int x1)]) hx hb dX10_calm_30 rfl hl (by decide) rfl (fun ls hl => ?_)
      refine lv_aload_n hx hb dX10_calm_31 rfl (lv_at hl 1 rfl) ?_
      refine q_get (index := 53) (ref := "ToolRoomModel") E G inX10 17 0 c17 sg_17 rfl 15 (by decide) tb_436 (Or.inl rfl) rfl dX10_calm_32 ?_
      refine lv_iload_n hx hb dX10_calm_35 rfl (lv_at hl 2 rfl) ?_
      refine lv_iconst (v := 0) hx hb dX10_calm_36 (by decide) ?_
      refine q_zast E G 18 15 (c18 15 (by decide)) (fun _ => sa_18_15) v2 (by decide) dX10_calm_37 (fun H locs G => ?_)
      refine lv_aload_n hx hb dX10_calm_38 rfl (lv_at hl 1 rfl) ?_
      refine lv_iload_n hx hb dX10_calm_39 rfl (lv_at hl 0 rfl) ?_
      refine q_cV (rest := []) E G 17 0 c17 sg_17 (C := RX10) (T := TX10) (N := 21) rfl (k_X10_says l D cy sz ad n (uI S 18 15 x1.toNatClampNeg 0) 0) tb_496 tb_498 tp_9 tb_6 tb_499 (nn := 1) (by decide +kernel) ⟨Nat.le_of_ble_eq_true rfl, Nat.le_of_ble_eq_true rfl⟩ rfl hl.1 rfl (Nat.le_of_ble_eq_true rfl) dX10_calm_40 ⟨Nat.zero_le _, Nat.zero_le _⟩ (fun H locs G => ?_)
      exact q_iret E G (by unfold f_X10_calm; simp only [if_pos h1, if_pos h3, pr_eta]) dX10_calm_43
    · refine lv_iconst (v := 1) hx hb dX10_calm_25 (by decide) ?_
      refine lv_goto (tgt := 30) hx hb dX10_calm_26 (by decide) ?_
      refine lv_istore_n (lv' := [(2, .int 1), (0, .ref (ad 17 0)), (1, .int x1)]) hx hb dX10_calm_30 rfl hl (by decide) rfl (fun ls hl => ?_)
      refine lv_aload_n hx hb dX10_calm_31 rfl (lv_at hl 1 rfl) ?_
      refine q_get (index := 53) (ref := "ToolRoomModel") E G inX10 17 0 c17 sg_17 rfl 15 (by decide) tb_436 (Or.inl rfl) rfl dX10_calm_32 ?_
      refine lv_iload_n hx hb dX10_calm_35 rfl (lv_at hl 2 rfl) ?_
      refine lv_iconst (v := 0) hx hb dX10_calm_36 (by decide) ?_
      refine q_zast E G 18 15 (c18 15 (by decide)) (fun _ => sa_18_15) v2 (by decide) dX10_calm_37 (fun H locs G => ?_)
      refine lv_aload_n hx hb dX10_calm_38 rfl (lv_at hl 1 rfl) ?_
      refine lv_iload_n hx hb dX10_calm_39 rfl (lv_at hl 0 rfl) ?_
      refine q_cV (rest := []) E G 17 0 c17 sg_17 (C := RX10) (T := TX10) (N := 21) rfl (k_X10_says l D cy sz ad n (uI S 18 15 x1.toNatClampNeg 0) 1) tb_496 tb_498 tp_9 tb_6 tb_499 (nn := 1) (by decide +kernel) ⟨Nat.le_of_ble_eq_true rfl, Nat.le_of_ble_eq_true rfl⟩ rfl hl.1 rfl (Nat.le_of_ble_eq_true rfl) dX10_calm_40 ⟨Nat.zero_le _, Nat.zero_le _⟩ (fun H locs G => ?_)
      exact q_iret E G (by unfold f_X10_calm; simp only [if_pos h1, if_neg h3, pr_eta]) dX10_calm_43
  · refine q_cSp E G [] (k_X10_in_f l D cy sz ad n S x1 0 3 h1) tb_489 tb_490 tb_6 tb_491 (nn := 3) (by decide +kernel) ⟨Nat.le_of_ble_eq_true rfl, Nat.le_of_ble_eq_true rfl⟩ rfl hl.1 rfl (Nat.le_of_ble_eq_true rfl) dX10_calm_3 ⟨Nat.zero_le _, Nat.zero_le _⟩ (fun H locs G => ?_)
    refine lv_if_ne (tgt := 16) hx hb dX10_calm_6 (by decide) (fun h => absurd h (by decide)) (fun _ => ?_)
    refine lv_aload_n hx hb dX10_calm_9 rfl (lv_at hl 0 rfl) ?_
    refine lv_bipush (v := (-2)) hx hb dX10_calm_10 (by decide) ?_
    refine q_cV (rest := []) E G 17 0 c17 sg_17 (C := RX10) (T := TX10) (N := 21) rfl (k_X10_refuses l D cy sz ad n S (-2)) tb_492 tb_494 tp_8 tb_6 tb_495 (nn := 1) (by decide +kernel) ⟨Nat.le_of_ble_eq_true rfl, Nat.le_of_ble_eq_true rfl⟩ rfl hl.1 rfl (Nat.le_of_ble_eq_true rfl) dX10_calm_12 ⟨Nat.zero_le _, Nat.zero_le _⟩ (fun H locs G => ?_)
    exact q_iret E G (by unfold f_X10_calm; simp only [if_neg h1, pr_eta]) dX10_calm_15

def f_X10_let (S : SS) (x1 : Int32) : Int32 × SS := if wj x1 0 3 = true then (if (S.1 18 15 x1.toNatClampNeg) = 0 then (f_X10_fails S 1) else ((f_X10_fails S 6).1, (uI ((f_X10_fails S 6).2) 17 0 17 (((f_X10_fails S 6).2).1 18 16 x1.toNatClampNeg)))) else (f_X10_refuses S (-2))
set_option maxHeartbeats 4000000 in
set_option maxRecDepth 100000 in
theorem k_X10_let (l : Launch) (D : va_G) (cy : Nat → ClassId) (sz : Nat) (ad : Nat → Nat → Nat) (n : Nat) (S : SS) (ok : okM S) (x1 : Int32) : CI l yX10_let cX10_let 3 (some .int) 1 22 [.ref (ad 17 0), .int x1] D cy sz ad n S (f_X10_let S x1) := by
  refine Met.enter (by decide) (Nat.le_of_ble_eq_true rfl) (fun p e s m args below meth c ls E G hl => ?_)
  have E : En p s m args meth c cX10_let 3 (some .int) RX10 D cy sz := E
  obtain ⟨hx, hb, hrt, hml, hown, hw, hlk, hK, hF, hsz⟩ := id E
  have hl : lv_has ls 3 [(0, .ref (ad 17 0)), (1, .int x1)] := hl
  refine lv_iload_n hx hb dX10_let_0 rfl (lv_at hl 1 rfl) ?_
  refine lv_iconst (v := 0) hx hb dX10_let_1 (by decide) ?_
  refine lv_iconst (v := 3) hx hb dX10_let_2 (by decide) ?_
  by_cases h1 : wj x1 0 3 = true
  · have v2 : vp_in x1 4 := wj_in h1 (by decide) (by decide)
    refine q_cSp E G [] (k_X10_in_t l D cy sz ad n S x1 0 3 h1) tb_489 tb_490 tb_6 tb_491 (nn := 3) (by decide +kernel) ⟨Nat.le_of_ble_eq_true rfl, Nat.le_of_ble_eq_true rfl⟩ rfl hl.1 rfl (Nat.le_of_ble_eq_true rfl) dX10_let_3 ⟨Nat.zero_le _, Nat.zero_le _⟩ (fun H locs G => ?_)
    refine lv_if_ne (tgt := 16) hx hb dX10_let_6 (by decide) (fun _ => ?_) (fun h => absurd h (by decide))
    refine lv_aload_n hx hb dX10_let_16 rfl (lv_at hl 0 rfl) ?_
    refine q_get (index := 53) (ref := "ToolRoomModel") E G inX10 17 0 c17 sg_17 rfl 15 (by decide) tb_436 (Or.inl rfl) rfl dX10_let_17 ?_
    refine lv_iload_n hx hb dX10_let_20 rfl (lv_at hl 1 rfl) ?_
    refine q_zald E G 18 15 (c18 15 (by decide)) sa_18_15 v2 dX10_let_21 ?_
    refine lv_if_ne (tgt := 31) hx hb dX10_let_22 (by decide) (fun h3 => ?_) (fun h3 => ?_)
    · refine lv_aload_n hx hb dX10_let_31 rfl (lv_at hl 0 rfl) ?_
      refine lv_bipush (v := 6) hx hb dX10_let_32 (by decide) ?_
      refine q_cV (rest := []) E G 17 0 c17 sg_17 (C := RX10) (T := TX10) (N := 21) rfl (k_X10_fails l D cy sz ad n S 6 (by unfold vp_in; decide)) tb_516 tb_518 tp_10 tb_6 tb_519 (nn := 1) (by decide +kernel) ⟨Nat.le_of_ble_eq_true rfl, Nat.le_of_ble_eq_true rfl⟩ rfl hl.1 rfl (Nat.le_of_ble_eq_true rfl) dX10_let_34 ⟨Nat.zero_le _, Nat.zero_le _⟩ (fun H locs G => ?_)
      refine lv_istore_n (lv' := [(2, .int (f_X10_fails S 6).1), (0, .ref (ad 17 0)), (1, .int x1)]) hx hb dX10_let_37 rfl hl (by decide) rfl (fun ls hl => ?_)
      refine lv_aload_n hx hb dX10_let_38 rfl (lv_at hl 1 rfl) ?_
      refine lv_aload_n hx hb dX10_let_39 rfl (lv_at hl 1 rfl) ?_
      refine q_get (index := 56) (ref := "ToolRoomModel") E G inX10 17 0 c17 sg_17 rfl 16 (by decide) tb_437 (Or.inl rfl) rfl dX10_let_40 ?_
      refine lv_iload_n hx hb dX10_let_43 rfl (lv_at hl 2 rfl) ?_
      refine q_iald E G 18 16 (c18 16 (by decide)) sa_18_16 v2 dX10_let_44 ?_
      refine q_put (index := 62) (ref := "ToolRoomModel") E G inX10 tyX10 tyX10_ok nmX10 17 0 c17 17 sg_17 rfl 17 (by decide) tb_438 (Or.inl rfl) rfl (ty := .int) (by decide +kernel) rfl rfl (Nat.le_of_ble_eq_true rfl) sp_17_17 dX10_let_45 (fun H locs G => ?_)
      refine lv_iload_n hx hb dX10_let_48 rfl (lv_at hl 0 rfl) ?_
      exact q_iret E G (by unfold f_X10_let; simp only [if_pos h1, if_neg h3, pr_eta]) dX10_let_49
    · refine lv_aload_n hx hb dX10_let_25 rfl (lv_at hl 0 rfl) ?_
      refine lv_iconst (v := 1) hx hb dX10_let_26 (by decide) ?_
      refine q_cV (rest := []) E G 17 0 c17 sg_17 (C := RX10) (T := TX10) (N := 21) rfl (k_X10_fails l D cy sz ad n S 1 (by unfold vp_in; decide)) tb_516 tb_518 tp_10 tb_6 tb_519 (nn := 1) (by decide +kernel) ⟨Nat.le_of_ble_eq_true rfl, Nat.le_of_ble_eq_true rfl⟩ rfl hl.1 rfl (Nat.le_of_ble_eq_true rfl) dX10_let_27 ⟨Nat.zero_le _, Nat.zero_le _⟩ (fun H locs G => ?_)
      exact q_iret E G (by unfold f_X10_let; simp only [if_pos h1, if_pos h3, pr_eta]) dX10_let_30
  · refine q_cSp E G [] (k_X10_in_f l D cy sz ad n S x1 0 3 h1) tb_489 tb_490 tb_6 tb_491 (nn := 3) (by decide +kernel) ⟨Nat.le_of_ble_eq_true rfl, Nat.le_of_ble_eq_true rfl⟩ rfl hl.1 rfl (Nat.le_of_ble_eq_true rfl) dX10_let_3 ⟨Nat.zero_le _, Nat.zero_le _⟩ (fun H locs G => ?_)
    refine lv_if_ne (tgt := 16) hx hb dX10_let_6 (by decide) (fun h => absurd h (by decide)) (fun _ => ?_)
    refine lv_aload_n hx hb dX10_let_9 rfl (lv_at hl 0 rfl) ?_
    refine lv_bipush (v := (-2)) hx hb dX10_let_10 (by decide) ?_
    refine q_cV (rest := []) E G 17 0 c17 sg_17 (C := RX10) (T := TX10) (N := 21) rfl (k_X10_refuses l D cy sz ad n S (-2)) tb_492 tb_494 tp_8 tb_6 tb_495 (nn := 1) (by decide +kernel) ⟨Nat.le_of_ble_eq_true rfl, Nat.le_of_ble_eq_true rfl⟩ rfl hl.1 rfl (Nat.le_of_ble_eq_true rfl) dX10_let_12 ⟨Nat.zero_le _, Nat.zero_le _⟩ (fun H locs G => ?_)
    exact q_iret E G (by unfold f_X10_let; simp only [if_neg h1, pr_eta]) dX10_let_15

def f_X10_why (S : SS) : Int32 × SS := ((S.1 17 0 17), S)
set_option maxHeartbeats 4000000 in
set_option maxRecDepth 100000 in
theorem k_X10_why (l : Launch) (D : va_G) (cy : Nat → ClassId) (sz : Nat) (ad : Nat → Nat → Nat) (n : Nat) (S : SS) (ok : okM S) : CI l yX10_why cX10_why 1 (some .int) 0 0 [.ref (ad 17 0)] D cy sz ad n S (f_X10_why S ) := by
  refine Met.enter (by decide) (Nat.le_of_ble_eq_true rfl) (fun p e s m args below meth c ls E G hl => ?_)
  have E : En p s m args meth c cX10_why 1 (some .int) RX10 D cy sz := E
  obtain ⟨hx, hb, hrt, hml, hown, hw, hlk, hK, hF, hsz⟩ := id E
  have hl : lv_has ls 1 [(0, .ref (ad 17 0))] := hl
  refine lv_aload_n hx hb dX10_why_0 rfl (lv_at hl 0 rfl) ?_
  refine q_get (index := 62) (ref := "ToolRoomModel") E G inX10 17 0 c17 sg_17 rfl 17 (by decide) tb_438 (Or.inl rfl) rfl dX10_why_1 ?_
  exact q_iret E G (by rfl) dX10_why_4

def f_X10_count (S : SS) (x1 : Int32) : Int32 × SS := if wj x1 0 7 = true then (if x1 = 0 then ((S.1 17 0 18), S) else (if x1 = 7 then ((S.1 17 0 20), S) else ((S.1 18 19 x1.toNatClampNeg), S))) else ((-3), S)
set_option maxHeartbeats 4000000 in
set_option maxRecDepth 100000 in
theorem k_X10_count (l : Launch) (D : va_G) (cy : Nat → ClassId) (sz : Nat) (ad : Nat → Nat → Nat) (n : Nat) (S : SS) (ok : okM S) (x1 : Int32) : CI l yX10_count cX10_count 2 (some .int) 1 22 [.ref (ad 17 0), .int x1] D cy sz ad n S (f_X10_count S x1) := by
  refine Met.enter (by decide) (Nat.le_of_ble_eq_true rfl) (fun p e s m args below meth c ls E G hl => ?_)
  have E : En p s m args meth c cX10_count 2 (some .int) RX10 D cy sz := E
  obtain ⟨hx, hb, hrt, hml, hown, hw, hlk, hK, hF, hsz⟩ := id E
  have hl : lv_has ls 2 [(0, .ref (ad 17 0)), (1, .int x1)] := hl
  refine lv_iload_n hx hb dX10_count_0 rfl (lv_at hl 1 rfl) ?_
  refine lv_iconst (v := 0) hx hb dX10_count_1 (by decide) ?_
  refine lv_bipush (v := 7) hx hb dX10_count_2 (by decide) ?_
  by_cases h1 : wj x1 0 7 = true
  · have v2 : vp_in x1 8 := wj_in h1 (by decide) (by decide)
    refine q_cSp E G [] (k_X10_in_t l D cy sz ad n S x1 0 7 h1) tb_489 tb_490 tb_6 tb_491 (nn := 3) (by decide +kernel) ⟨Nat.le_of_ble_eq_true rfl, Nat.le_of_ble_eq_true rfl⟩ rfl hl.1 rfl (Nat.le_of_ble_eq_true rfl) dX10_count_4 ⟨Nat.zero_le _, Nat.zero_le _⟩ (fun H locs G => ?_)
    refine lv_if_ne (tgt := 13) hx hb dX10_count_7 (by decide) (fun _ => ?_) (fun h => absurd h (by decide))
    refine lv_iload_n hx hb dX10_count_13 rfl (lv_at hl 1 rfl) ?_
    refine lv_if_ne (tgt := 24) hx hb dX10_count_14 (by decide) (fun h3 => ?_) (fun h3 => ?_)
    · refine lv_iload_n hx hb dX10_count_24 rfl (lv_at hl 1 rfl) ?_
      refine lv_bipush (v := 7) hx hb dX10_count_25 (by decide) ?_
      refine lv_icmp_ne (tgt := 37) hx hb dX10_count_27 (by decide) (fun h4 => ?_) (fun h4 => ?_)
      · refine lv_aload_n hx hb dX10_count_37 rfl (lv_at hl 0 rfl) ?_
        refine q_get (index := 59) (ref := "ToolRoomModel") E G inX10 17 0 c17 sg_17 rfl 19 (by decide) tb_440 (Or.inl rfl) rfl dX10_count_38 ?_
        refine lv_iload_n hx hb dX10_count_41 rfl (lv_at hl 1 rfl) ?_
        refine q_iald E G 18 19 (c18 19 (by decide)) sa_18_19 (cnt7 v2 h4) dX10_count_42 ?_
        exact q_iret E G (by unfold f_X10_count; simp only [if_pos h1, if_neg h3, if_neg h4, pr_eta]) dX10_count_43
      · refine lv_aload_n hx hb dX10_count_30 rfl (lv_at hl 0 rfl) ?_
        refine q_get (index := 93) (ref := "ToolRoomModel") E G inX10 17 0 c17 sg_17 rfl 20 (by decide) tb_441 (Or.inl rfl) rfl dX10_count_31 ?_
        refine lv_goto (tgt := 43) hx hb dX10_count_34 (by decide) ?_
        exact q_iret E G (by unfold f_X10_count; simp only [if_pos h1, if_neg h3, if_pos h4, pr_eta]) dX10_count_43
    · refine lv_aload_n hx hb dX10_count_17 rfl (lv_at hl 0 rfl) ?_
      refine q_get (index := 66) (ref := "ToolRoomModel") E G inX10 17 0 c17 sg_17 rfl 18 (by decide) tb_439 (Or.inl rfl) rfl dX10_count_18 ?_
      refine lv_goto (tgt := 43) hx hb dX10_count_21 (by decide) ?_
      exact q_iret E G (by unfold f_X10_count; simp only [if_pos h1, if_pos h3, pr_eta]) dX10_count_43
  · refine q_cSp E G [] (k_X10_in_f l D cy sz ad n S x1 0 7 h1) tb_489 tb_490 tb_6 tb_491 (nn := 3) (by decide +kernel) ⟨Nat.le_of_ble_eq_true rfl, Nat.le_of_ble_eq_true rfl⟩ rfl hl.1 rfl (Nat.le_of_ble_eq_true rfl) dX10_count_4 ⟨Nat.zero_le _, Nat.zero_le _⟩ (fun H locs G => ?_)
    refine lv_if_ne (tgt := 13) hx hb dX10_count_7 (by decide) (fun h => absurd h (by decide)) (fun _ => ?_)
    refine lv_bipush (v := (-3)) hx hb dX10_count_10 (by decide) ?_
    exact q_iret E G (by unfold f_X10_count; simp only [if_neg h1, pr_eta]) dX10_count_12
