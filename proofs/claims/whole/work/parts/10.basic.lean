def bi (b : Bool) : Int32 := if b = true then 1 else 0
theorem pC_0a {S : SS} {g : Nat} {i j : Int32} (h : pC S g i j = 0) : pA S 12 g i = 0 := by
  unfold pC at h
  split at h
  · assumption
  · exact h
theorem pC_0b {S : SS} {g : Nat} {i j : Int32} (h : pC S g i j = 0) : pA S 14 (8 * g + i.toNatClampNeg) j = 0 := by
  have h1 := pC_0a h
  unfold pC at h
  rw [if_pos h1] at h
  exact h

set_option maxHeartbeats 4000000 in
set_option maxRecDepth 100000 in
theorem k_X9_isWithin (l : Launch) (D : va_G) (cy : Nat → ClassId) (sz : Nat) (ad : Nat → Nat → Nat) (n : Nat) (S : SS) (x : Int32) (b : Int32) : CI l yX9_isWithin cX9_isWithin 2 (some .boolean) 0 0 [.int x, .int b] D cy sz ad n S (bi (wi x b), S) := by
  refine Met.enter (by decide) (Nat.le_of_ble_eq_true rfl) (fun p e s m args below meth c ls E G hl => ?_)
  have E : En p s m args meth c cX9_isWithin 2 (some .boolean) RX9 D cy sz := E
  obtain ⟨hx, hb, hrt, hml, hown, hw, hlk, hK, hF, hsz⟩ := id E
  have hl : lv_has ls 2 [(0, .int x), (1, .int b)] := hl
  refine lv_iload_n hx hb dX9_isWithin_0 rfl (lv_at hl 0 rfl) ?_
  refine lv_if_lt (tgt := 13) hx hb dX9_isWithin_1 (by decide) (fun h1 => ?_) (fun h1 => ?_)
  · refine lv_iconst (v := 0) hx hb dX9_isWithin_13 (by decide) ?_
    exact q_zret E G rfl (Prod.ext (by simp only [bi, wi]; first | (simp [h1]; done) | (have h0 := Int32.not_lt.mp h1; simp [h0, h1]; done) | (have h0 := Int32.not_lt.mp h1; have h9 := Int32.not_le.mp h2; simp [h0, h9]; done) | (have h9 := Int32.not_le.mpr h1; simp [h9]; done) | (have h9 := Int32.not_lt.mpr h2; simp [h9]; done)) rfl) dX9_isWithin_14
  · refine lv_iload_n hx hb dX9_isWithin_4 rfl (lv_at hl 0 rfl) ?_
    refine lv_iload_n hx hb dX9_isWithin_5 rfl (lv_at hl 1 rfl) ?_
    refine lv_icmp_ge (tgt := 13) hx hb dX9_isWithin_6 (by decide) (fun h2 => ?_) (fun h2 => ?_)
    · refine lv_iconst (v := 0) hx hb dX9_isWithin_13 (by decide) ?_
      exact q_zret E G rfl (Prod.ext (by simp only [bi, wi]; first | (simp [h1, h2]; done) | (have h0 := Int32.not_lt.mp h1; simp [h0, h1, h2]; done) | (have h0 := Int32.not_lt.mp h1; have h9 := Int32.not_le.mp h2; simp [h0, h9]; done) | (have h9 := Int32.not_le.mpr h1; simp [h9]; done) | (have h9 := Int32.not_lt.mpr h2; simp [h9]; done)) rfl) dX9_isWithin_14
    · refine lv_iconst (v := 1) hx hb dX9_isWithin_9 (by decide) ?_
      refine lv_goto (tgt := 14) hx hb dX9_isWithin_10 (by decide) ?_
      exact q_zret E G rfl (Prod.ext (by simp only [bi, wi]; first | (simp [h1, h2]; done) | (have h0 := Int32.not_lt.mp h1; simp [h0, h1, h2]; done) | (have h0 := Int32.not_lt.mp h1; have h9 := Int32.not_le.mp h2; simp [h0, h9]; done) | (have h9 := Int32.not_le.mpr h1; simp [h9]; done) | (have h9 := Int32.not_lt.mpr h2; simp [h9]; done)) rfl) dX9_isWithin_14

theorem k_X9_isWithin_t (l : Launch) (D : va_G) (cy : Nat → ClassId) (sz : Nat) (ad : Nat → Nat → Nat) (n : Nat) (S : SS) (x b : Int32) (h : wi x b = true) : CI l yX9_isWithin cX9_isWithin 2 (some .boolean) 0 0 [.int x, .int b] D cy sz ad n S (1, S) := by
  have := k_X9_isWithin l D cy sz ad n S x b
  rw [h] at this
  exact this
theorem k_X9_isWithin_f (l : Launch) (D : va_G) (cy : Nat → ClassId) (sz : Nat) (ad : Nat → Nat → Nat) (n : Nat) (S : SS) (x b : Int32) (h : ¬ wi x b = true) : CI l yX9_isWithin cX9_isWithin 2 (some .boolean) 0 0 [.int x, .int b] D cy sz ad n S (0, S) := by
  have := k_X9_isWithin l D cy sz ad n S x b
  rw [Bool.not_eq_true] at h
  rw [h] at this
  exact this

def f_X9_done (S : SS) (v : Int32) : Int32 × SS := (v, (uI S 0 0 9 0))
set_option maxHeartbeats 4000000 in
set_option maxRecDepth 100000 in
theorem k_X9_done (l : Launch) (D : va_G) (cy : Nat → ClassId) (sz : Nat) (ad : Nat → Nat → Nat) (n : Nat) (S : SS) (v : Int32) : CI l yX9_done cX9_done 2 (some .int) 0 0 [.ref (ad 0 0), .int v] D cy sz ad n S (f_X9_done S v) := by
  refine Met.enter (by decide) (Nat.le_of_ble_eq_true rfl) (fun p e s m args below meth c ls E G hl => ?_)
  have E : En p s m args meth c cX9_done 2 (some .int) RX9 D cy sz := E
  obtain ⟨hx, hb, hrt, hml, hown, hw, hlk, hK, hF, hsz⟩ := id E
  have hl : lv_has ls 2 [(0, .ref (ad 0 0)), (1, .int v)] := hl
  refine lv_aload_n hx hb dX9_done_0 rfl (lv_at hl 0 rfl) ?_
  refine lv_iconst (v := 0) hx hb dX9_done_1 (by decide) ?_
  refine q_put (index := 51) (ref := "ToolRoom") E G inX9 tyX9 tyX9_ok nmX9 0 0 c0 9 sg_0 rfl 9 (by decide) tb_91 (Or.inl rfl) rfl (ty := .int) (by decide +kernel) rfl rfl (Nat.le_of_ble_eq_true rfl) sp_0_9 dX9_done_2 (fun H locs G => ?_)
  refine lv_iload_n hx hb dX9_done_5 rfl (lv_at hl 1 rfl) ?_
  exact q_iret E G (by rfl) dX9_done_6

def f_X9_refuse (S : SS) (v : Int32) : Int32 × SS := (v, (uI S 0 0 9 v))
set_option maxHeartbeats 4000000 in
set_option maxRecDepth 100000 in
theorem k_X9_refuse (l : Launch) (D : va_G) (cy : Nat → ClassId) (sz : Nat) (ad : Nat → Nat → Nat) (n : Nat) (S : SS) (v : Int32) : CI l yX9_refuse cX9_refuse 2 (some .int) 0 0 [.ref (ad 0 0), .int v] D cy sz ad n S (f_X9_refuse S v) := by
  refine Met.enter (by decide) (Nat.le_of_ble_eq_true rfl) (fun p e s m args below meth c ls E G hl => ?_)
  have E : En p s m args meth c cX9_refuse 2 (some .int) RX9 D cy sz := E
  obtain ⟨hx, hb, hrt, hml, hown, hw, hlk, hK, hF, hsz⟩ := id E
  have hl : lv_has ls 2 [(0, .ref (ad 0 0)), (1, .int v)] := hl
  refine lv_aload_n hx hb dX9_refuse_0 rfl (lv_at hl 0 rfl) ?_
  refine lv_iload_n hx hb dX9_refuse_1 rfl (lv_at hl 1 rfl) ?_
  refine q_put (index := 51) (ref := "ToolRoom") E G inX9 tyX9 tyX9_ok nmX9 0 0 c0 9 sg_0 rfl 9 (by decide) tb_91 (Or.inl rfl) rfl (ty := .int) (by decide +kernel) rfl rfl (Nat.le_of_ble_eq_true rfl) sp_0_9 dX9_refuse_2 (fun H locs G => ?_)
  refine lv_iload_n hx hb dX9_refuse_5 rfl (lv_at hl 1 rfl) ?_
  exact q_iret E G (by rfl) dX9_refuse_6

def f_X9_fail (S : SS) (v : Int32) : Int32 × SS := (f_X9_refuse (uI (uI S 7 0 v.toNatClampNeg ((S.1 7 0 v.toNatClampNeg) + 1)) 0 0 7 v) ((-10) - v))
set_option maxHeartbeats 4000000 in
set_option maxRecDepth 100000 in
theorem k_X9_fail (l : Launch) (D : va_G) (cy : Nat → ClassId) (sz : Nat) (ad : Nat → Nat → Nat) (n : Nat) (S : SS) (v : Int32) (hv : vp_in v 7) : CI l yX9_fail cX9_fail 2 (some .int) 1 21 [.ref (ad 0 0), .int v] D cy sz ad n S (f_X9_fail S v) := by
  refine Met.enter (by decide) (Nat.le_of_ble_eq_true rfl) (fun p e s m args below meth c ls E G hl => ?_)
  have E : En p s m args meth c cX9_fail 2 (some .int) RX9 D cy sz := E
  obtain ⟨hx, hb, hrt, hml, hown, hw, hlk, hK, hF, hsz⟩ := id E
  have hl : lv_has ls 2 [(0, .ref (ad 0 0)), (1, .int v)] := hl
  refine lv_aload_n hx hb dX9_fail_0 rfl (lv_at hl 0 rfl) ?_
  refine q_get (index := 41) (ref := "ToolRoom") E G inX9 0 0 c0 sg_0 rfl 6 (by decide) tb_88 (Or.inl rfl) rfl dX9_fail_1 ?_
  refine lv_iload_n hx hb dX9_fail_4 rfl (lv_at hl 1 rfl) ?_
  refine lv_dup2_11 hx hb dX9_fail_5 rfl rfl ?_
  refine q_iald E G 7 0 c7 sa_7 hv dX9_fail_6 ?_
  refine lv_iconst (v := 1) hx hb dX9_fail_7 (by decide) ?_
  refine lv_iadd hx hb dX9_fail_8 ?_
  refine q_iast E G 7 0 c7 (fun _ => sa_7) hv dX9_fail_9 (fun H locs G => ?_)
  refine lv_aload_n hx hb dX9_fail_10 rfl (lv_at hl 0 rfl) ?_
  refine lv_iload_n hx hb dX9_fail_11 rfl (lv_at hl 1 rfl) ?_
  refine q_put (index := 44) (ref := "ToolRoom") E G inX9 tyX9 tyX9_ok nmX9 0 0 c0 7 sg_0 rfl 7 (by decide) tb_89 (Or.inl rfl) rfl (ty := .int) (by decide +kernel) rfl rfl (Nat.le_of_ble_eq_true rfl) sp_0_7 dX9_fail_12 (fun H locs G => ?_)
  refine lv_aload_n hx hb dX9_fail_15 rfl (lv_at hl 0 rfl) ?_
  refine lv_bipush (v := (-10)) hx hb dX9_fail_16 (by decide) ?_
  refine lv_iload_n hx hb dX9_fail_18 rfl (lv_at hl 1 rfl) ?_
  refine lv_isub hx hb dX9_fail_19 ?_
  refine q_cV (rest := []) E G 0 0 c0 sg_0 (C := RX9) (T := TX9) (N := 10) rfl (k_X9_refuse l D cy sz ad n (uI (uI S 7 0 v.toNatClampNeg ((S.1 7 0 v.toNatClampNeg) + 1)) 0 0 7 v) ((-10) - v)) tb_120 tb_122 tp_0 tb_1 tb_123 (nn := 1) (by decide +kernel) ⟨Nat.le_of_ble_eq_true rfl, Nat.le_of_ble_eq_true rfl⟩ rfl hl.1 rfl (Nat.le_of_ble_eq_true rfl) dX9_fail_20 ⟨Nat.zero_le _, Nat.zero_le _⟩ (fun H locs G => ?_)
  exact q_iret E G (by rfl) dX9_fail_23

def f_X9_refuseWithZero (S : SS) (v : Int32) : Int32 × SS := (0, (f_X9_refuse S v).2)
set_option maxHeartbeats 4000000 in
set_option maxRecDepth 100000 in
theorem k_X9_refuseWithZero (l : Launch) (D : va_G) (cy : Nat → ClassId) (sz : Nat) (ad : Nat → Nat → Nat) (n : Nat) (S : SS) (v : Int32) : CI l yX9_refuseWithZero cX9_refuseWithZero 2 (some .int) 1 21 [.ref (ad 0 0), .int v] D cy sz ad n S (f_X9_refuseWithZero S v) := by
  refine Met.enter (by decide) (Nat.le_of_ble_eq_true rfl) (fun p e s m args below meth c ls E G hl => ?_)
  have E : En p s m args meth c cX9_refuseWithZero 2 (some .int) RX9 D cy sz := E
  obtain ⟨hx, hb, hrt, hml, hown, hw, hlk, hK, hF, hsz⟩ := id E
  have hl : lv_has ls 2 [(0, .ref (ad 0 0)), (1, .int v)] := hl
  refine lv_aload_n hx hb dX9_refuseWithZero_0 rfl (lv_at hl 0 rfl) ?_
  refine lv_iload_n hx hb dX9_refuseWithZero_1 rfl (lv_at hl 1 rfl) ?_
  refine q_cV (rest := []) E G 0 0 c0 sg_0 (C := RX9) (T := TX9) (N := 10) rfl (k_X9_refuse l D cy sz ad n S v) tb_120 tb_122 tp_0 tb_1 tb_123 (nn := 1) (by decide +kernel) ⟨Nat.le_of_ble_eq_true rfl, Nat.le_of_ble_eq_true rfl⟩ rfl hl.1 rfl (Nat.le_of_ble_eq_true rfl) dX9_refuseWithZero_2 ⟨Nat.zero_le _, Nat.zero_le _⟩ (fun H locs G => ?_)
  refine lv_pop hx hb dX9_refuseWithZero_5 rfl ?_
  refine lv_iconst (v := 0) hx hb dX9_refuseWithZero_6 (by decide) ?_
  exact q_iret E G (by rfl) dX9_refuseWithZero_7

def f_X9_failWithZero (S : SS) (v : Int32) : Int32 × SS := (0, (f_X9_fail S v).2)
set_option maxHeartbeats 4000000 in
set_option maxRecDepth 100000 in
theorem k_X9_failWithZero (l : Launch) (D : va_G) (cy : Nat → ClassId) (sz : Nat) (ad : Nat → Nat → Nat) (n : Nat) (S : SS) (v : Int32) (hv : vp_in v 7) : CI l yX9_failWithZero cX9_failWithZero 2 (some .int) 2 42 [.ref (ad 0 0), .int v] D cy sz ad n S (f_X9_failWithZero S v) := by
  refine Met.enter (by decide) (Nat.le_of_ble_eq_true rfl) (fun p e s m args below meth c ls E G hl => ?_)
  have E : En p s m args meth c cX9_failWithZero 2 (some .int) RX9 D cy sz := E
  obtain ⟨hx, hb, hrt, hml, hown, hw, hlk, hK, hF, hsz⟩ := id E
  have hl : lv_has ls 2 [(0, .ref (ad 0 0)), (1, .int v)] := hl
  refine lv_aload_n hx hb dX9_failWithZero_0 rfl (lv_at hl 0 rfl) ?_
  refine lv_iload_n hx hb dX9_failWithZero_1 rfl (lv_at hl 1 rfl) ?_
  refine q_cV (rest := []) E G 0 0 c0 sg_0 (C := RX9) (T := TX9) (N := 10) rfl (k_X9_fail l D cy sz ad n S v hv) tb_227 tb_229 tp_2 tb_1 tb_230 (nn := 1) (by decide +kernel) ⟨Nat.le_of_ble_eq_true rfl, Nat.le_of_ble_eq_true rfl⟩ rfl hl.1 rfl (Nat.le_of_ble_eq_true rfl) dX9_failWithZero_2 ⟨Nat.zero_le _, Nat.zero_le _⟩ (fun H locs G => ?_)
  refine lv_pop hx hb dX9_failWithZero_5 rfl ?_
  refine lv_iconst (v := 0) hx hb dX9_failWithZero_6 (by decide) ?_
  exact q_iret E G (by rfl) dX9_failWithZero_7

set_option maxHeartbeats 4000000 in
set_option maxRecDepth 100000 in
theorem k_X5_isMissing (l : Launch) (D : va_G) (cy : Nat → ClassId) (sz : Nat) (ad : Nat → Nat → Nat) (n : Nat) (S : SS) (f i : Nat) (hf : isH f) (hi : isC n f i) : CI l yX5_isMissing cX5_isMissing 1 (some .boolean) 0 0 [.ref (ad f i)] D cy sz ad n S ((if S.1 f i 0 = -1 then 1 else 0, S)) := by
  refine Met.enter (by decide) (Nat.le_of_ble_eq_true rfl) (fun p e s m args below meth c ls E G hl => ?_)
  have E : En p s m args meth c cX5_isMissing 1 (some .boolean) RX5 D cy sz := E
  obtain ⟨hx, hb, hrt, hml, hown, hw, hlk, hK, hF, hsz⟩ := id E
  have hl : lv_has ls 1 [(0, .ref (ad f i))] := hl
  refine lv_aload_n hx hb dX5_isMissing_0 rfl (lv_at hl 0 rfl) ?_
  refine q_getH E G f i hf hi tb_38 (Or.inl rfl) dX5_isMissing_1 ?_
  refine lv_iconst (v := (-1)) hx hb dX5_isMissing_4 (by decide) ?_
  refine lv_icmp_ne (tgt := 12) hx hb dX5_isMissing_5 (by decide) (fun h1 => ?_) (fun h1 => ?_)
  · refine lv_iconst (v := 0) hx hb dX5_isMissing_12 (by decide) ?_
    exact q_zret E G rfl (by first | (simp only [h1, if_pos]; done) | (simp [h1]; done)) dX5_isMissing_13
  · refine lv_iconst (v := 1) hx hb dX5_isMissing_8 (by decide) ?_
    refine lv_goto (tgt := 13) hx hb dX5_isMissing_9 (by decide) ?_
    exact q_zret E G rfl (by first | (simp only [h1, if_pos]; done) | (simp [h1]; done)) dX5_isMissing_13
