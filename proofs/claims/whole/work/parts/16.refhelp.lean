def pB (k : Int32) : Int32 := if k = 1 then 1 else if k = 2 then 1 else 0
def mW (S : SS) (t : Int32) : Int32 := if S.1 18 2 t.toNatClampNeg = 0 then 50 + S.1 18 3 t.toNatClampNeg else if S.1 18 2 t.toNatClampNeg = 1 then 10 else if S.1 18 2 t.toNatClampNeg = 2 then 12 else 5
def pT (what k : Int32) : Int32 := if what = 2 then (if wj k 0 1 = true then 1 else 0) else (if wj k 0 3 = true then 1 else 0)
def pZ (S : SS) (what k : Int32) : Int32 := if what = 0 then S.1 18 7 k.toNatClampNeg else if what = 1 then S.1 18 9 k.toNatClampNeg else S.1 18 12 k.toNatClampNeg
def pL (s i : Int32) : Int32 := if 0 ≤ s then (if wj i 0 (s - 1) = true then 0 else 2) else 1
def pD (S : SS) (g i j : Int32) : Int32 := if pL (S.1 18 12 g.toNatClampNeg) i = 0 then pL (S.1 18 13 ((8 * g) + i).toNatClampNeg) j else pL (S.1 18 12 g.toNatClampNeg) i
def pO (S : SS) (t sort : Int32) : Int32 := if t = -1 then 1 else if sort = 0 then 1 else if sort = 1 then pB (S.1 18 2 t.toNatClampNeg) else if S.1 18 2 t.toNatClampNeg = 3 then 1 else 0
theorem pB_01 (k : Int32) : pB k = 0 ∨ pB k = 1 := by
  unfold pB
  split
  · exact Or.inr rfl
  · split
    · exact Or.inr rfl
    · exact Or.inl rfl
theorem pL_in {s i : Int32} : vp_in (pL s i) 7 := by
  unfold pL
  split
  · split
    · unfold vp_in; decide
    · unfold vp_in; decide
  · unfold vp_in; decide
theorem pD_in {S : SS} {g i j : Int32} : vp_in (pD S g i j) 7 := by
  unfold pD
  split
  · exact pL_in
  · exact pL_in
theorem pL_0 {s i : Int32} {N : Nat} (h : pL s i = 0) (hs : s ≤ nI N) (hN : N < 2 ^ 31) : vp_in i N := by
  unfold pL at h
  split at h
  · split at h
    · rename_i h1 h2
      unfold wj at h2
      simp only [Bool.and_eq_true, decide_eq_true_eq] at h2
      have a := Int32.le_iff_toInt_le.mp h2.1
      have b := Int32.le_iff_toInt_le.mp h2.2
      have c := Int32.le_iff_toInt_le.mp hs
      have d := Int32.le_iff_toInt_le.mp h1
      have e0 : (0 : Int32).toInt = 0 := by decide
      have e1 : (1 : Int32).toInt = 1 := by decide
      have hm : s.toInt < 2 ^ 31 := Int32.toInt_lt s
      rw [nI_toInt hN] at c
      have f : (s - 1).toInt = s.toInt - 1 := by
        rw [Int32.toInt_sub, e1]
        exact Int.bmod_eq_of_le (by omega) (by omega)
      exact vp_in_iff.mpr ⟨by omega, by omega⟩
    · exact absurd h (by decide)
  · exact absurd h (by decide)
theorem pD_a {S : SS} {g i j : Int32} (h : pD S g i j = 0) : pL (S.1 18 12 g.toNatClampNeg) i = 0 := by
  unfold pD at h
  split at h
  · assumption
  · exact h
theorem pD_b {S : SS} {g i j : Int32} (h : pD S g i j = 0) : pL (S.1 18 13 ((8 * g) + i).toNatClampNeg) j = 0 := by
  have h1 := pD_a h
  unfold pD at h
  rw [if_pos h1] at h
  exact h
theorem pT_4 {what k : Int32} (h : ¬ pT what k = 0) : vp_in k 4 := by
  unfold pT at h
  split at h
  · split at h
    · have q := wj_in (N := 1) (by assumption) (by decide) (by decide)
      have := vp_in_iff.mp q
      exact vp_in_iff.mpr ⟨this.1, by omega⟩
    · exact absurd rfl h
  · split at h
    · exact wj_in (N := 3) (by assumption) (by decide) (by decide)
    · exact absurd rfl h
theorem pT_2 {what k : Int32} (h : ¬ pT what k = 0) (h2 : what = 2) : vp_in k 2 := by
  unfold pT at h
  rw [if_pos h2] at h
  split at h
  · exact wj_in (N := 1) (by assumption) (by decide) (by decide)
  · exact absurd rfl h
theorem wh_2 {x : Int32} (h : vp_in x 3) (h0 : ¬ x = 0) (h1 : ¬ x = 1) : x = 2 := by
  obtain ⟨j, hj, rfl⟩ := vp_in_of h (by decide)
  rcases (show j = 0 ∨ j = 1 ∨ j = 2 by omega) with rfl | rfl | rfl
  · exact absurd rfl h0
  · exact absurd rfl h1
  · rfl
theorem ixm {a b : Int32} {A B c : Nat} (ha : vp_in a A) (hb : vp_in b B) (C : Int32) (hC : C = nI c) (hs : c * A + B < 2 ^ 31) (hA : A < 2 ^ 31) (hB : B < 2 ^ 31) : C * a + b = nI (c * a.toNatClampNeg + b.toNatClampNeg) := by
  obtain ⟨i, hi, rfl⟩ := vp_in_of ha hA
  obtain ⟨j, hj, rfl⟩ := vp_in_of hb hB
  subst hC
  rw [pk_mul, nI_add, nI_clamp (by omega), nI_clamp (by omega)]
theorem ix_lt {i A c j B N : Nat} (hi : i < A) (hj : j < B) (h : c * (A - 1) + B ≤ N) : c * i + j < N := by
  have : c * i ≤ c * (A - 1) := Nat.mul_le_mul_left c (by omega)
  omega
theorem ixv {a b : Int32} {A B c N : Nat} (ha : vp_in a A) (hb : vp_in b B) (C : Int32) (hC : C = nI c) (hs : c * A + B < 2 ^ 31) (hA : A < 2 ^ 31) (hB : B < 2 ^ 31) (hN : c * (A - 1) + B ≤ N) (hN2 : N < 2 ^ 31) : vp_in (C * a + b) N := by
  rw [ixm ha hb C hC hs hA hB]
  exact vp_in_nI (ix_lt (vp_lt ha) (vp_lt hb) hN) hN2
theorem ix3 {a b d : Int32} (ha : vp_in a 2) (hb : vp_in b 8) (hd : vp_in d 8) : (((64 * a) + (8 * b)) + d) = nI (64 * a.toNatClampNeg + 8 * b.toNatClampNeg + d.toNatClampNeg) := by
  obtain ⟨i, hi, rfl⟩ := vp_in_of ha (by decide)
  obtain ⟨j, hj, rfl⟩ := vp_in_of hb (by decide)
  obtain ⟨k, hk, rfl⟩ := vp_in_of hd (by decide)
  rw [show (64 : Int32) = nI 64 from rfl, show (8 : Int32) = nI 8 from rfl, pk_mul, pk_mul, nI_add, nI_add, nI_clamp (by omega), nI_clamp (by omega), nI_clamp (by omega)]
theorem ix3v {a b d : Int32} (ha : vp_in a 2) (hb : vp_in b 8) (hd : vp_in d 8) : vp_in (((64 * a) + (8 * b)) + d) 128 := by
  rw [ix3 ha hb hd]
  have := vp_lt ha
  have := vp_lt hb
  have := vp_lt hd
  exact vp_in_nI (by omega) (by decide)
theorem cnt7 {x : Int32} (h : vp_in x 8) (h7 : ¬ x = 7) : vp_in x 7 := by
  obtain ⟨j, hj, rfl⟩ := vp_in_of h (by decide)
  exact vp_in_nI (by rcases (show j < 7 ∨ j = 7 by omega) with q | q; exact q; exact absurd (by rw [q]; rfl) h7) (by decide)

set_option maxHeartbeats 4000000 in
set_option maxRecDepth 100000 in
theorem k_X10_in (l : Launch) (D : va_G) (cy : Nat → ClassId) (sz : Nat) (ad : Nat → Nat → Nat) (n : Nat) (S : SS) (x : Int32) (a : Int32) (b : Int32) : CI l yX10_in cX10_in 3 (some .boolean) 0 0 [.int x, .int a, .int b] D cy sz ad n S (bi (wj x a b), S) := by
  refine Met.enter (by decide) (Nat.le_of_ble_eq_true rfl) (fun p e s m args below meth c ls E G hl => ?_)
  have E : En p s m args meth c cX10_in 3 (some .boolean) RX10 D cy sz := E
  obtain ⟨hx, hb, hrt, hml, hown, hw, hlk, hK, hF, hsz⟩ := id E
  have hl : lv_has ls 3 [(0, .int x), (1, .int a), (2, .int b)] := hl
  refine lv_iload_n hx hb dX10_in_0 rfl (lv_at hl 0 rfl) ?_
  refine lv_iload_n hx hb dX10_in_1 rfl (lv_at hl 1 rfl) ?_
  refine lv_icmp_lt (tgt := 14) hx hb dX10_in_2 (by decide) (fun h1 => ?_) (fun h1 => ?_)
  · refine lv_iconst (v := 0) hx hb dX10_in_14 (by decide) ?_
    exact q_zret E G rfl (Prod.ext (by simp only [bi, wj]; first | (simp [h1]; done) | (have h0 := Int32.not_lt.mp h1; simp [h0, h1]; done) | (have h0 := Int32.not_le.mp h1; simp [h0, h1]; done) | (have h9 := Int32.not_le.mpr h1; simp [h9]; done) | (have h9 := Int32.not_le.mpr h2; simp [h9]; done) | (have h0 := Int32.not_lt.mp h1; have h9 := Int32.not_lt.mp h2; simp [h0, h9]; done) | (have h0 := Int32.not_lt.mp h1; have h9 := Int32.not_le.mpr h2; simp [h0, h9]; done)) rfl) dX10_in_15
  · refine lv_iload_n hx hb dX10_in_5 rfl (lv_at hl 0 rfl) ?_
    refine lv_iload_n hx hb dX10_in_6 rfl (lv_at hl 2 rfl) ?_
    refine lv_icmp_gt (tgt := 14) hx hb dX10_in_7 (by decide) (fun h2 => ?_) (fun h2 => ?_)
    · refine lv_iconst (v := 0) hx hb dX10_in_14 (by decide) ?_
      exact q_zret E G rfl (Prod.ext (by simp only [bi, wj]; first | (simp [h1, h2]; done) | (have h0 := Int32.not_lt.mp h1; simp [h0, h1, h2]; done) | (have h0 := Int32.not_le.mp h1; simp [h0, h1, h2]; done) | (have h9 := Int32.not_le.mpr h1; simp [h9]; done) | (have h9 := Int32.not_le.mpr h2; simp [h9]; done) | (have h0 := Int32.not_lt.mp h1; have h9 := Int32.not_lt.mp h2; simp [h0, h9]; done) | (have h0 := Int32.not_lt.mp h1; have h9 := Int32.not_le.mpr h2; simp [h0, h9]; done)) rfl) dX10_in_15
    · refine lv_iconst (v := 1) hx hb dX10_in_10 (by decide) ?_
      refine lv_goto (tgt := 15) hx hb dX10_in_11 (by decide) ?_
      exact q_zret E G rfl (Prod.ext (by simp only [bi, wj]; first | (simp [h1, h2]; done) | (have h0 := Int32.not_lt.mp h1; simp [h0, h1, h2]; done) | (have h0 := Int32.not_le.mp h1; simp [h0, h1, h2]; done) | (have h9 := Int32.not_le.mpr h1; simp [h9]; done) | (have h9 := Int32.not_le.mpr h2; simp [h9]; done) | (have h0 := Int32.not_lt.mp h1; have h9 := Int32.not_lt.mp h2; simp [h0, h9]; done) | (have h0 := Int32.not_lt.mp h1; have h9 := Int32.not_le.mpr h2; simp [h0, h9]; done)) rfl) dX10_in_15

theorem k_X10_in_t (l : Launch) (D : va_G) (cy : Nat → ClassId) (sz : Nat) (ad : Nat → Nat → Nat) (n : Nat) (S : SS) (x a b : Int32) (h : wj x a b = true) : CI l yX10_in cX10_in 3 (some .boolean) 0 0 [.int x, .int a, .int b] D cy sz ad n S (1, S) := by
  have := k_X10_in l D cy sz ad n S x a b
  rw [h] at this
  exact this

theorem k_X10_in_f (l : Launch) (D : va_G) (cy : Nat → ClassId) (sz : Nat) (ad : Nat → Nat → Nat) (n : Nat) (S : SS) (x a b : Int32) (h : ¬ wj x a b = true) : CI l yX10_in cX10_in 3 (some .boolean) 0 0 [.int x, .int a, .int b] D cy sz ad n S (0, S) := by
  have := k_X10_in l D cy sz ad n S x a b
  rw [Bool.not_eq_true] at h
  rw [h] at this
  exact this

def f_X10_says (S : SS) (v : Int32) : Int32 × SS := (v, (uI S 17 0 17 0))
set_option maxHeartbeats 4000000 in
set_option maxRecDepth 100000 in
theorem k_X10_says (l : Launch) (D : va_G) (cy : Nat → ClassId) (sz : Nat) (ad : Nat → Nat → Nat) (n : Nat) (S : SS) (v : Int32) : CI l yX10_says cX10_says 2 (some .int) 0 0 [.ref (ad 17 0), .int v] D cy sz ad n S (f_X10_says S v) := by
  refine Met.enter (by decide) (Nat.le_of_ble_eq_true rfl) (fun p e s m args below meth c ls E G hl => ?_)
  have E : En p s m args meth c cX10_says 2 (some .int) RX10 D cy sz := E
  obtain ⟨hx, hb, hrt, hml, hown, hw, hlk, hK, hF, hsz⟩ := id E
  have hl : lv_has ls 2 [(0, .ref (ad 17 0)), (1, .int v)] := hl
  refine lv_aload_n hx hb dX10_says_0 rfl (lv_at hl 0 rfl) ?_
  refine lv_iconst (v := 0) hx hb dX10_says_1 (by decide) ?_
  refine q_put (index := 62) (ref := "ToolRoomModel") E G inX10 tyX10 tyX10_ok nmX10 17 0 c17 17 sg_17 rfl 17 (by decide) tb_438 (Or.inl rfl) rfl (ty := .int) (by decide +kernel) rfl rfl (Nat.le_of_ble_eq_true rfl) sp_17_17 dX10_says_2 (fun H locs G => ?_)
  refine lv_iload_n hx hb dX10_says_5 rfl (lv_at hl 1 rfl) ?_
  exact q_iret E G (by rfl) dX10_says_6

def f_X10_refuses (S : SS) (v : Int32) : Int32 × SS := (v, (uI S 17 0 17 v))
set_option maxHeartbeats 4000000 in
set_option maxRecDepth 100000 in
theorem k_X10_refuses (l : Launch) (D : va_G) (cy : Nat → ClassId) (sz : Nat) (ad : Nat → Nat → Nat) (n : Nat) (S : SS) (v : Int32) : CI l yX10_refuses cX10_refuses 2 (some .int) 0 0 [.ref (ad 17 0), .int v] D cy sz ad n S (f_X10_refuses S v) := by
  refine Met.enter (by decide) (Nat.le_of_ble_eq_true rfl) (fun p e s m args below meth c ls E G hl => ?_)
  have E : En p s m args meth c cX10_refuses 2 (some .int) RX10 D cy sz := E
  obtain ⟨hx, hb, hrt, hml, hown, hw, hlk, hK, hF, hsz⟩ := id E
  have hl : lv_has ls 2 [(0, .ref (ad 17 0)), (1, .int v)] := hl
  refine lv_aload_n hx hb dX10_refuses_0 rfl (lv_at hl 0 rfl) ?_
  refine lv_iload_n hx hb dX10_refuses_1 rfl (lv_at hl 1 rfl) ?_
  refine q_put (index := 62) (ref := "ToolRoomModel") E G inX10 tyX10 tyX10_ok nmX10 17 0 c17 17 sg_17 rfl 17 (by decide) tb_438 (Or.inl rfl) rfl (ty := .int) (by decide +kernel) rfl rfl (Nat.le_of_ble_eq_true rfl) sp_17_17 dX10_refuses_2 (fun H locs G => ?_)
  refine lv_iload_n hx hb dX10_refuses_5 rfl (lv_at hl 1 rfl) ?_
  exact q_iret E G (by rfl) dX10_refuses_6

def f_X10_fails (S : SS) (v : Int32) : Int32 × SS := (((-10) - v), (uI (uI (uI S 17 0 18 v) 18 19 v.toNatClampNeg ((S.1 18 19 v.toNatClampNeg) + 1)) 17 0 17 ((-10) - v)))
set_option maxHeartbeats 4000000 in
set_option maxRecDepth 100000 in
theorem k_X10_fails (l : Launch) (D : va_G) (cy : Nat → ClassId) (sz : Nat) (ad : Nat → Nat → Nat) (n : Nat) (S : SS) (v : Int32) (hv : vp_in v 7) : CI l yX10_fails cX10_fails 2 (some .int) 0 0 [.ref (ad 17 0), .int v] D cy sz ad n S (f_X10_fails S v) := by
  refine Met.enter (by decide) (Nat.le_of_ble_eq_true rfl) (fun p e s m args below meth c ls E G hl => ?_)
  have E : En p s m args meth c cX10_fails 2 (some .int) RX10 D cy sz := E
  obtain ⟨hx, hb, hrt, hml, hown, hw, hlk, hK, hF, hsz⟩ := id E
  have hl : lv_has ls 2 [(0, .ref (ad 17 0)), (1, .int v)] := hl
  refine lv_aload_n hx hb dX10_fails_0 rfl (lv_at hl 0 rfl) ?_
  refine lv_iload_n hx hb dX10_fails_1 rfl (lv_at hl 1 rfl) ?_
  refine q_put (index := 66) (ref := "ToolRoomModel") E G inX10 tyX10 tyX10_ok nmX10 17 0 c17 18 sg_17 rfl 18 (by decide) tb_439 (Or.inl rfl) rfl (ty := .int) (by decide +kernel) rfl rfl (Nat.le_of_ble_eq_true rfl) sp_17_18 dX10_fails_2 (fun H locs G => ?_)
  refine lv_aload_n hx hb dX10_fails_5 rfl (lv_at hl 0 rfl) ?_
  refine q_get (index := 59) (ref := "ToolRoomModel") E G inX10 17 0 c17 sg_17 rfl 19 (by decide) tb_440 (Or.inl rfl) rfl dX10_fails_6 ?_
  refine lv_iload_n hx hb dX10_fails_9 rfl (lv_at hl 1 rfl) ?_
  refine lv_dup2_11 hx hb dX10_fails_10 rfl rfl ?_
  refine q_iald E G 18 19 (c18 19 (by decide)) sa_18_19 hv dX10_fails_11 ?_
  rw [uI_nf (by decide)]
  refine lv_iconst (v := 1) hx hb dX10_fails_12 (by decide) ?_
  refine lv_iadd hx hb dX10_fails_13 ?_
  refine q_iast E G 18 19 (c18 19 (by decide)) (fun _ => sa_18_19) hv dX10_fails_14 (fun H locs G => ?_)
  refine lv_aload_n hx hb dX10_fails_15 rfl (lv_at hl 0 rfl) ?_
  refine lv_bipush (v := (-10)) hx hb dX10_fails_16 (by decide) ?_
  refine lv_iload_n hx hb dX10_fails_18 rfl (lv_at hl 1 rfl) ?_
  refine lv_isub hx hb dX10_fails_19 ?_
  refine q_put (index := 62) (ref := "ToolRoomModel") E G inX10 tyX10 tyX10_ok nmX10 17 0 c17 17 sg_17 rfl 17 (by decide) tb_438 (Or.inl rfl) rfl (ty := .int) (by decide +kernel) rfl rfl (Nat.le_of_ble_eq_true rfl) sp_17_17 dX10_fails_20 (fun H locs G => ?_)
  refine lv_aload_n hx hb dX10_fails_23 rfl (lv_at hl 0 rfl) ?_
  refine q_get (index := 62) (ref := "ToolRoomModel") E G inX10 17 0 c17 sg_17 rfl 17 (by decide) tb_438 (Or.inl rfl) rfl dX10_fails_24 ?_
  rw [uI_self]
  exact q_iret E G (by rfl) dX10_fails_27

theorem fails_ne1 (S : SS) : ¬ (f_X10_fails S 1).1 = 0 := by
  show ¬ ((-10 : Int32) - 1 = 0)
  decide

set_option maxHeartbeats 4000000 in
set_option maxRecDepth 100000 in
theorem k_X10_isBlade (l : Launch) (D : va_G) (cy : Nat → ClassId) (sz : Nat) (ad : Nat → Nat → Nat) (n : Nat) (S : SS) (k : Int32) : CI l yX10_isBlade cX10_isBlade 1 (some .boolean) 0 0 [.int k] D cy sz ad n S (pB k, S) := by
  refine Met.enter (by decide) (Nat.le_of_ble_eq_true rfl) (fun p e s m args below meth c ls E G hl => ?_)
  have E : En p s m args meth c cX10_isBlade 1 (some .boolean) RX10 D cy sz := E
  obtain ⟨hx, hb, hrt, hml, hown, hw, hlk, hK, hF, hsz⟩ := id E
  have hl : lv_has ls 1 [(0, .int k)] := hl
  refine lv_iload_n hx hb dX10_isBlade_0 rfl (lv_at hl 0 rfl) ?_
  refine lv_iconst (v := 1) hx hb dX10_isBlade_1 (by decide) ?_
  refine lv_icmp_eq (tgt := 10) hx hb dX10_isBlade_2 (by decide) (fun h1 => ?_) (fun h1 => ?_)
  · refine lv_iconst (v := 1) hx hb dX10_isBlade_10 (by decide) ?_
    refine lv_goto (tgt := 15) hx hb dX10_isBlade_11 (by decide) ?_
    exact q_zret E G rfl (by first | rfl | (unfold pB; simp only [if_pos h1]; done) | (unfold pB; simp only [if_pos h1]; rfl)) dX10_isBlade_15
  · refine lv_iload_n hx hb dX10_isBlade_5 rfl (lv_at hl 0 rfl) ?_
    refine lv_iconst (v := 2) hx hb dX10_isBlade_6 (by decide) ?_
    refine lv_icmp_ne (tgt := 14) hx hb dX10_isBlade_7 (by decide) (fun h2 => ?_) (fun h2 => ?_)
    · refine lv_iconst (v := 0) hx hb dX10_isBlade_14 (by decide) ?_
      exact q_zret E G rfl (by first | rfl | (unfold pB; simp only [if_neg h1, if_neg h2]; done) | (unfold pB; simp only [if_neg h1, if_neg h2]; rfl)) dX10_isBlade_15
    · refine lv_iconst (v := 1) hx hb dX10_isBlade_10 (by decide) ?_
      refine lv_goto (tgt := 15) hx hb dX10_isBlade_11 (by decide) ?_
      exact q_zret E G rfl (by first | rfl | (unfold pB; simp only [if_neg h1, if_pos h2]; done) | (unfold pB; simp only [if_neg h1, if_pos h2]; rfl)) dX10_isBlade_15

set_option maxHeartbeats 4000000 in
set_option maxRecDepth 100000 in
theorem k_X10_weight (l : Launch) (D : va_G) (cy : Nat → ClassId) (sz : Nat) (ad : Nat → Nat → Nat) (n : Nat) (S : SS) (t : Int32) (hv : vp_in t 600) : CI l yX10_weight cX10_weight 2 (some .int) 0 0 [.ref (ad 17 0), .int t] D cy sz ad n S (mW S t, S) := by
  refine Met.enter (by decide) (Nat.le_of_ble_eq_true rfl) (fun p e s m args below meth c ls E G hl => ?_)
  have E : En p s m args meth c cX10_weight 2 (some .int) RX10 D cy sz := E
  obtain ⟨hx, hb, hrt, hml, hown, hw, hlk, hK, hF, hsz⟩ := id E
  have hl : lv_has ls 2 [(0, .ref (ad 17 0)), (1, .int t)] := hl
  refine lv_aload_n hx hb dX10_weight_0 rfl (lv_at hl 0 rfl) ?_
  refine q_get (index := 13) (ref := "ToolRoomModel") E G inX10 17 0 c17 sg_17 rfl 2 (by decide) tb_423 (Or.inl rfl) rfl dX10_weight_1 ?_
  refine lv_iload_n hx hb dX10_weight_4 rfl (lv_at hl 1 rfl) ?_
  refine q_iald E G 18 2 (c18 2 (by decide)) sa_18_2 hv dX10_weight_5 ?_
  refine lv_if_ne (tgt := 21) hx hb dX10_weight_6 (by decide) (fun h1 => ?_) (fun h1 => ?_)
  · refine lv_aload_n hx hb dX10_weight_21 rfl (lv_at hl 0 rfl) ?_
    refine q_get (index := 13) (ref := "ToolRoomModel") E G inX10 17 0 c17 sg_17 rfl 2 (by decide) tb_423 (Or.inl rfl) rfl dX10_weight_22 ?_
    refine lv_iload_n hx hb dX10_weight_25 rfl (lv_at hl 1 rfl) ?_
    refine q_iald E G 18 2 (c18 2 (by decide)) sa_18_2 hv dX10_weight_26 ?_
    refine lv_iconst (v := 1) hx hb dX10_weight_27 (by decide) ?_
    refine lv_icmp_ne (tgt := 36) hx hb dX10_weight_28 (by decide) (fun h2 => ?_) (fun h2 => ?_)
    · refine lv_aload_n hx hb dX10_weight_36 rfl (lv_at hl 0 rfl) ?_
      refine q_get (index := 13) (ref := "ToolRoomModel") E G inX10 17 0 c17 sg_17 rfl 2 (by decide) tb_423 (Or.inl rfl) rfl dX10_weight_37 ?_
      refine lv_iload_n hx hb dX10_weight_40 rfl (lv_at hl 1 rfl) ?_
      refine q_iald E G 18 2 (c18 2 (by decide)) sa_18_2 hv dX10_weight_41 ?_
      refine lv_iconst (v := 2) hx hb dX10_weight_42 (by decide) ?_
      refine lv_icmp_ne (tgt := 51) hx hb dX10_weight_43 (by decide) (fun h3 => ?_) (fun h3 => ?_)
      · refine lv_iconst (v := 5) hx hb dX10_weight_51 (by decide) ?_
        exact q_iret E G (by first | rfl | (unfold mW; simp only [if_neg h1, if_neg h2, if_neg h3]; done) | (unfold mW; simp only [if_neg h1, if_neg h2, if_neg h3]; rfl)) dX10_weight_52
      · refine lv_bipush (v := 12) hx hb dX10_weight_46 (by decide) ?_
        refine lv_goto (tgt := 52) hx hb dX10_weight_48 (by decide) ?_
        exact q_iret E G (by first | rfl | (unfold mW; simp only [if_neg h1, if_neg h2, if_pos h3]; done) | (unfold mW; simp only [if_neg h1, if_neg h2, if_pos h3]; rfl)) dX10_weight_52
    · refine lv_bipush (v := 10) hx hb dX10_weight_31 (by decide) ?_
      refine lv_goto (tgt := 52) hx hb dX10_weight_33 (by decide) ?_
      exact q_iret E G (by first | rfl | (unfold mW; simp only [if_neg h1, if_pos h2]; done) | (unfold mW; simp only [if_neg h1, if_pos h2]; rfl)) dX10_weight_52
  · refine lv_bipush (v := 50) hx hb dX10_weight_9 (by decide) ?_
    refine lv_aload_n hx hb dX10_weight_11 rfl (lv_at hl 0 rfl) ?_
    refine q_get (index := 16) (ref := "ToolRoomModel") E G inX10 17 0 c17 sg_17 rfl 3 (by decide) tb_424 (Or.inl rfl) rfl dX10_weight_12 ?_
    refine lv_iload_n hx hb dX10_weight_15 rfl (lv_at hl 1 rfl) ?_
    refine q_iald E G 18 3 (c18 3 (by decide)) sa_18_3 hv dX10_weight_16 ?_
    refine lv_iadd hx hb dX10_weight_17 ?_
    refine lv_goto (tgt := 52) hx hb dX10_weight_18 (by decide) ?_
    exact q_iret E G (by first | rfl | (unfold mW; simp only [if_pos h1]; done) | (unfold mW; simp only [if_pos h1]; rfl)) dX10_weight_52

def f_X10_used (S : SS) (t : Int32) (x : Int32) : Int32 × SS := if (S.1 18 2 t.toNatClampNeg) = 0 then ((x + x), (uI (uI S 17 0 20 ((S.1 17 0 20) + 1)) 18 3 t.toNatClampNeg ((S.1 18 3 t.toNatClampNeg) + x))) else (if (S.1 18 2 t.toNatClampNeg) = 1 then ((x + (S.1 18 3 t.toNatClampNeg)), (uI (uI S 17 0 20 ((S.1 17 0 20) + 1)) 18 4 t.toNatClampNeg ((S.1 18 4 t.toNatClampNeg) - x))) else (if (S.1 18 2 t.toNatClampNeg) = 2 then (((x + (S.1 18 3 t.toNatClampNeg)) + 1), (uI (uI S 17 0 20 ((S.1 17 0 20) + 1)) 18 4 t.toNatClampNeg (((S.1 18 4 t.toNatClampNeg) - x) + 1))) else ((S.1 18 3 t.toNatClampNeg), (uI (uI S 17 0 20 ((S.1 17 0 20) + 1)) 18 3 t.toNatClampNeg ((S.1 18 3 t.toNatClampNeg) + 1)))))
set_option maxHeartbeats 4000000 in
set_option maxRecDepth 100000 in
theorem k_X10_used (l : Launch) (D : va_G) (cy : Nat → ClassId) (sz : Nat) (ad : Nat → Nat → Nat) (n : Nat) (S : SS) (t : Int32) (x : Int32) (hv : vp_in t 600) : CI l yX10_used cX10_used 4 (some .int) 0 0 [.ref (ad 17 0), .int t, .int x] D cy sz ad n S (f_X10_used S t x) := by
  refine Met.enter (by decide) (Nat.le_of_ble_eq_true rfl) (fun p e s m args below meth c ls E G hl => ?_)
  have E : En p s m args meth c cX10_used 4 (some .int) RX10 D cy sz := E
  obtain ⟨hx, hb, hrt, hml, hown, hw, hlk, hK, hF, hsz⟩ := id E
  have hl : lv_has ls 4 [(0, .ref (ad 17 0)), (1, .int t), (2, .int x)] := hl
  refine lv_aload_n hx hb dX10_used_0 rfl (lv_at hl 0 rfl) ?_
  refine lv_dup hx hb dX10_used_1 rfl ?_
  refine q_get (index := 93) (ref := "ToolRoomModel") E G inX10 17 0 c17 sg_17 rfl 20 (by decide) tb_441 (Or.inl rfl) rfl dX10_used_2 ?_
  refine lv_iconst (v := 1) hx hb dX10_used_5 (by decide) ?_
  refine lv_iadd hx hb dX10_used_6 ?_
  refine q_put (index := 93) (ref := "ToolRoomModel") E G inX10 tyX10 tyX10_ok nmX10 17 0 c17 20 sg_17 rfl 20 (by decide) tb_441 (Or.inl rfl) rfl (ty := .int) (by decide +kernel) rfl rfl (Nat.le_of_ble_eq_true rfl) sp_17_20 dX10_used_7 (fun H locs G => ?_)
  refine lv_aload_n hx hb dX10_used_10 rfl (lv_at hl 0 rfl) ?_
  refine q_get (index := 13) (ref := "ToolRoomModel") E G inX10 17 0 c17 sg_17 rfl 2 (by decide) tb_423 (Or.inl rfl) rfl dX10_used_11 ?_
  refine lv_iload_n hx hb dX10_used_14 rfl (lv_at hl 1 rfl) ?_
  refine q_iald E G 18 2 (c18 2 (by decide)) sa_18_2 hv dX10_used_15 ?_
  rw [uI_nf (by decide)]
  refine q_tab3 (t0 := 44) (t1 := 58) (t2 := 77) (t3 := 104) hx hb dX10_used_16 (by decide) (by decide) (by decide) (by decide) (fun h1 => ?_) (fun h1 h2 => ?_) (fun h1 h2 h3 => ?_) (fun h1 h2 h3 => ?_)
  · refine lv_aload_n hx hb dX10_used_44 rfl (lv_at hl 0 rfl) ?_
    refine q_get (index := 16) (ref := "ToolRoomModel") E G inX10 17 0 c17 sg_17 rfl 3 (by decide) tb_424 (Or.inl rfl) rfl dX10_used_45 ?_
    refine lv_iload_n hx hb dX10_used_48 rfl (lv_at hl 1 rfl) ?_
    refine lv_dup2_11 hx hb dX10_used_49 rfl rfl ?_
    refine q_iald E G 18 3 (c18 3 (by decide)) sa_18_3 hv dX10_used_50 ?_
    rw [uI_nf (by decide)]
    refine lv_iload_n hx hb dX10_used_51 rfl (lv_at hl 2 rfl) ?_
    refine lv_iadd hx hb dX10_used_52 ?_
    refine q_iast E G 18 3 (c18 3 (by decide)) (fun _ => sa_18_3) hv dX10_used_53 (fun H locs G => ?_)
    refine lv_iload_n hx hb dX10_used_54 rfl (lv_at hl 2 rfl) ?_
    refine lv_iload_n hx hb dX10_used_55 rfl (lv_at hl 2 rfl) ?_
    refine lv_iadd hx hb dX10_used_56 ?_
    exact q_iret E G (by unfold f_X10_used; simp only [if_pos h1, pr_eta]) dX10_used_57
  · refine lv_aload_n hx hb dX10_used_58 rfl (lv_at hl 0 rfl) ?_
    refine q_get (index := 19) (ref := "ToolRoomModel") E G inX10 17 0 c17 sg_17 rfl 4 (by decide) tb_425 (Or.inl rfl) rfl dX10_used_59 ?_
    refine lv_iload_n hx hb dX10_used_62 rfl (lv_at hl 1 rfl) ?_
    refine lv_dup2_11 hx hb dX10_used_63 rfl rfl ?_
    refine q_iald E G 18 4 (c18 4 (by decide)) sa_18_4 hv dX10_used_64 ?_
    rw [uI_nf (by decide)]
    refine lv_iload_n hx hb dX10_used_65 rfl (lv_at hl 2 rfl) ?_
    refine lv_isub hx hb dX10_used_66 ?_
    refine q_iast E G 18 4 (c18 4 (by decide)) (fun _ => sa_18_4) hv dX10_used_67 (fun H locs G => ?_)
    refine lv_iload_n hx hb dX10_used_68 rfl (lv_at hl 2 rfl) ?_
    refine lv_aload_n hx hb dX10_used_69 rfl (lv_at hl 0 rfl) ?_
    refine q_get (index := 16) (ref := "ToolRoomModel") E G inX10 17 0 c17 sg_17 rfl 3 (by decide) tb_424 (Or.inl rfl) rfl dX10_used_70 ?_
    refine lv_iload_n hx hb dX10_used_73 rfl (lv_at hl 1 rfl) ?_
    refine q_iald E G 18 3 (c18 3 (by decide)) sa_18_3 hv dX10_used_74 ?_
    rw [uI_ni (by decide), uI_nf (by decide)]
    refine lv_iadd hx hb dX10_used_75 ?_
    exact q_iret E G (by unfold f_X10_used; simp only [if_neg h1, if_pos h2, pr_eta]) dX10_used_76
  · refine lv_aload_n hx hb dX10_used_77 rfl (lv_at hl 0 rfl) ?_
    refine q_get (index := 19) (ref := "ToolRoomModel") E G inX10 17 0 c17 sg_17 rfl 4 (by decide) tb_425 (Or.inl rfl) rfl dX10_used_78 ?_
    refine lv_iload_n hx hb dX10_used_81 rfl (lv_at hl 1 rfl) ?_
    refine lv_aload_n hx hb dX10_used_82 rfl (lv_at hl 0 rfl) ?_
    refine q_get (index := 19) (ref := "ToolRoomModel") E G inX10 17 0 c17 sg_17 rfl 4 (by decide) tb_425 (Or.inl rfl) rfl dX10_used_83 ?_
    refine lv_iload_n hx hb dX10_used_86 rfl (lv_at hl 1 rfl) ?_
    refine q_iald E G 18 4 (c18 4 (by decide)) sa_18_4 hv dX10_used_87 ?_
    rw [uI_nf (by decide)]
    refine lv_iload_n hx hb dX10_used_88 rfl (lv_at hl 2 rfl) ?_
    refine lv_isub hx hb dX10_used_89 ?_
    refine lv_iconst (v := 1) hx hb dX10_used_90 (by decide) ?_
    refine lv_iadd hx hb dX10_used_91 ?_
    refine q_iast E G 18 4 (c18 4 (by decide)) (fun _ => sa_18_4) hv dX10_used_92 (fun H locs G => ?_)
    refine lv_iload_n hx hb dX10_used_93 rfl (lv_at hl 2 rfl) ?_
    refine lv_aload_n hx hb dX10_used_94 rfl (lv_at hl 0 rfl) ?_
    refine q_get (index := 16) (ref := "ToolRoomModel") E G inX10 17 0 c17 sg_17 rfl 3 (by decide) tb_424 (Or.inl rfl) rfl dX10_used_95 ?_
    refine lv_iload_n hx hb dX10_used_98 rfl (lv_at hl 1 rfl) ?_
    refine q_iald E G 18 3 (c18 3 (by decide)) sa_18_3 hv dX10_used_99 ?_
    rw [uI_ni (by decide), uI_nf (by decide)]
    refine lv_iadd hx hb dX10_used_100 ?_
    refine lv_iconst (v := 1) hx hb dX10_used_101 (by decide) ?_
    refine lv_iadd hx hb dX10_used_102 ?_
    exact q_iret E G (by unfold f_X10_used; simp only [if_neg h1, if_neg h2, if_pos h3, pr_eta]) dX10_used_103
  · refine lv_aload_n hx hb dX10_used_104 rfl (lv_at hl 0 rfl) ?_
    refine q_get (index := 16) (ref := "ToolRoomModel") E G inX10 17 0 c17 sg_17 rfl 3 (by decide) tb_424 (Or.inl rfl) rfl dX10_used_105 ?_
    refine lv_iload_n hx hb dX10_used_108 rfl (lv_at hl 1 rfl) ?_
    refine q_iald E G 18 3 (c18 3 (by decide)) sa_18_3 hv dX10_used_109 ?_
    rw [uI_nf (by decide)]
    refine lv_istore_n (lv' := [(3, .int (S.1 18 3 t.toNatClampNeg)), (0, .ref (ad 17 0)), (1, .int t), (2, .int x)]) hx hb dX10_used_110 rfl hl (by decide) rfl (fun ls hl => ?_)
    refine lv_aload_n hx hb dX10_used_111 rfl (lv_at hl 1 rfl) ?_
    refine q_get (index := 16) (ref := "ToolRoomModel") E G inX10 17 0 c17 sg_17 rfl 3 (by decide) tb_424 (Or.inl rfl) rfl dX10_used_112 ?_
    refine lv_iload_n hx hb dX10_used_115 rfl (lv_at hl 2 rfl) ?_
    refine lv_dup2_11 hx hb dX10_used_116 rfl rfl ?_
    refine q_iald E G 18 3 (c18 3 (by decide)) sa_18_3 hv dX10_used_117 ?_
    rw [uI_nf (by decide)]
    refine lv_iconst (v := 1) hx hb dX10_used_118 (by decide) ?_
    refine lv_iadd hx hb dX10_used_119 ?_
    refine q_iast E G 18 3 (c18 3 (by decide)) (fun _ => sa_18_3) hv dX10_used_120 (fun H locs G => ?_)
    refine lv_iload_n hx hb dX10_used_121 rfl (lv_at hl 0 rfl) ?_
    exact q_iret E G (by unfold f_X10_used; simp only [if_neg h1, if_neg h2, if_neg h3, pr_eta]) dX10_used_122

set_option maxHeartbeats 4000000 in
set_option maxRecDepth 100000 in
theorem k_X10_isThing (l : Launch) (D : va_G) (cy : Nat → ClassId) (sz : Nat) (ad : Nat → Nat → Nat) (n : Nat) (S : SS) (what : Int32) (k : Int32) : CI l yX10_isThing cX10_isThing 2 (some .boolean) 1 22 [.int what, .int k] D cy sz ad n S (pT what k, S) := by
  refine Met.enter (by decide) (Nat.le_of_ble_eq_true rfl) (fun p e s m args below meth c ls E G hl => ?_)
  have E : En p s m args meth c cX10_isThing 2 (some .boolean) RX10 D cy sz := E
  obtain ⟨hx, hb, hrt, hml, hown, hw, hlk, hK, hF, hsz⟩ := id E
  have hl : lv_has ls 2 [(0, .int what), (1, .int k)] := hl
  refine lv_iload_n hx hb dX10_isThing_0 rfl (lv_at hl 1 rfl) ?_
  refine lv_iconst (v := 0) hx hb dX10_isThing_1 (by decide) ?_
  refine lv_iload_n hx hb dX10_isThing_2 rfl (lv_at hl 0 rfl) ?_
  refine lv_iconst (v := 2) hx hb dX10_isThing_3 (by decide) ?_
  refine lv_icmp_ne (tgt := 11) hx hb dX10_isThing_4 (by decide) (fun h1 => ?_) (fun h1 => ?_)
  · refine lv_iconst (v := 3) hx hb dX10_isThing_11 (by decide) ?_
    by_cases h2 : wj k 0 3 = true
    · have v3 : vp_in k 4 := wj_in h2 (by decide) (by decide)
      refine q_cSp E G [] (k_X10_in_t l D cy sz ad n S k 0 3 h2) tb_489 tb_490 tb_6 tb_491 (nn := 3) (by decide +kernel) ⟨Nat.le_of_ble_eq_true rfl, Nat.le_of_ble_eq_true rfl⟩ rfl hl.1 rfl (Nat.le_of_ble_eq_true rfl) dX10_isThing_12 ⟨Nat.zero_le _, Nat.zero_le _⟩ (fun H locs G => ?_)
      exact q_zret E G rfl (by first | rfl | (unfold pT; simp only [if_neg h1, if_pos h2]; done) | (unfold pT; simp only [if_neg h1, if_pos h2]; rfl)) dX10_isThing_15
    · refine q_cSp E G [] (k_X10_in_f l D cy sz ad n S k 0 3 h2) tb_489 tb_490 tb_6 tb_491 (nn := 3) (by decide +kernel) ⟨Nat.le_of_ble_eq_true rfl, Nat.le_of_ble_eq_true rfl⟩ rfl hl.1 rfl (Nat.le_of_ble_eq_true rfl) dX10_isThing_12 ⟨Nat.zero_le _, Nat.zero_le _⟩ (fun H locs G => ?_)
      exact q_zret E G rfl (by first | rfl | (unfold pT; simp only [if_neg h1, if_neg h2]; done) | (unfold pT; simp only [if_neg h1, if_neg h2]; rfl)) dX10_isThing_15
  · refine lv_iconst (v := 1) hx hb dX10_isThing_7 (by decide) ?_
    refine lv_goto (tgt := 12) hx hb dX10_isThing_8 (by decide) ?_
    by_cases h4 : wj k 0 1 = true
    · have v5 : vp_in k 2 := wj_in h4 (by decide) (by decide)
      refine q_cSp E G [] (k_X10_in_t l D cy sz ad n S k 0 1 h4) tb_489 tb_490 tb_6 tb_491 (nn := 3) (by decide +kernel) ⟨Nat.le_of_ble_eq_true rfl, Nat.le_of_ble_eq_true rfl⟩ rfl hl.1 rfl (Nat.le_of_ble_eq_true rfl) dX10_isThing_12 ⟨Nat.zero_le _, Nat.zero_le _⟩ (fun H locs G => ?_)
      exact q_zret E G rfl (by first | rfl | (unfold pT; simp only [if_pos h1, if_pos h4]; done) | (unfold pT; simp only [if_pos h1, if_pos h4]; rfl)) dX10_isThing_15
    · refine q_cSp E G [] (k_X10_in_f l D cy sz ad n S k 0 1 h4) tb_489 tb_490 tb_6 tb_491 (nn := 3) (by decide +kernel) ⟨Nat.le_of_ble_eq_true rfl, Nat.le_of_ble_eq_true rfl⟩ rfl hl.1 rfl (Nat.le_of_ble_eq_true rfl) dX10_isThing_12 ⟨Nat.zero_le _, Nat.zero_le _⟩ (fun H locs G => ?_)
      exact q_zret E G rfl (by first | rfl | (unfold pT; simp only [if_pos h1, if_neg h4]; done) | (unfold pT; simp only [if_pos h1, if_neg h4]; rfl)) dX10_isThing_15

set_option maxHeartbeats 4000000 in
set_option maxRecDepth 100000 in
theorem k_X10_sizeOf (l : Launch) (D : va_G) (cy : Nat → ClassId) (sz : Nat) (ad : Nat → Nat → Nat) (n : Nat) (S : SS) (what : Int32) (k : Int32) (hk : vp_in k 4) (hk2 : ¬ what = 0 → ¬ what = 1 → vp_in k 2) : CI l yX10_sizeOf cX10_sizeOf 3 (some .int) 0 0 [.ref (ad 17 0), .int what, .int k] D cy sz ad n S (pZ S what k, S) := by
  refine Met.enter (by decide) (Nat.le_of_ble_eq_true rfl) (fun p e s m args below meth c ls E G hl => ?_)
  have E : En p s m args meth c cX10_sizeOf 3 (some .int) RX10 D cy sz := E
  obtain ⟨hx, hb, hrt, hml, hown, hw, hlk, hK, hF, hsz⟩ := id E
  have hl : lv_has ls 3 [(0, .ref (ad 17 0)), (1, .int what), (2, .int k)] := hl
  refine lv_iload_n hx hb dX10_sizeOf_0 rfl (lv_at hl 1 rfl) ?_
  refine lv_if_ne (tgt := 13) hx hb dX10_sizeOf_1 (by decide) (fun h1 => ?_) (fun h1 => ?_)
  · refine lv_iload_n hx hb dX10_sizeOf_13 rfl (lv_at hl 1 rfl) ?_
    refine lv_iconst (v := 1) hx hb dX10_sizeOf_14 (by decide) ?_
    refine lv_icmp_ne (tgt := 27) hx hb dX10_sizeOf_15 (by decide) (fun h2 => ?_) (fun h2 => ?_)
    · refine lv_aload_n hx hb dX10_sizeOf_27 rfl (lv_at hl 0 rfl) ?_
      refine q_get (index := 44) (ref := "ToolRoomModel") E G inX10 17 0 c17 sg_17 rfl 12 (by decide) tb_433 (Or.inl rfl) rfl dX10_sizeOf_28 ?_
      refine lv_iload_n hx hb dX10_sizeOf_31 rfl (lv_at hl 2 rfl) ?_
      refine q_iald E G 18 12 (c18 12 (by decide)) sa_18_12 (hk2 h1 h2) dX10_sizeOf_32 ?_
      exact q_iret E G (by first | rfl | (unfold pZ; simp only [if_neg h1, if_neg h2]; done) | (unfold pZ; simp only [if_neg h1, if_neg h2]; rfl)) dX10_sizeOf_33
    · refine lv_aload_n hx hb dX10_sizeOf_18 rfl (lv_at hl 0 rfl) ?_
      refine q_get (index := 35) (ref := "ToolRoomModel") E G inX10 17 0 c17 sg_17 rfl 9 (by decide) tb_430 (Or.inl rfl) rfl dX10_sizeOf_19 ?_
      refine lv_iload_n hx hb dX10_sizeOf_22 rfl (lv_at hl 2 rfl) ?_
      refine q_iald E G 18 9 (c18 9 (by decide)) sa_18_9 hk dX10_sizeOf_23 ?_
      refine lv_goto (tgt := 33) hx hb dX10_sizeOf_24 (by decide) ?_
      exact q_iret E G (by first | rfl | (unfold pZ; simp only [if_neg h1, if_pos h2]; done) | (unfold pZ; simp only [if_neg h1, if_pos h2]; rfl)) dX10_sizeOf_33
  · refine lv_aload_n hx hb dX10_sizeOf_4 rfl (lv_at hl 0 rfl) ?_
    refine q_get (index := 29) (ref := "ToolRoomModel") E G inX10 17 0 c17 sg_17 rfl 7 (by decide) tb_428 (Or.inl rfl) rfl dX10_sizeOf_5 ?_
    refine lv_iload_n hx hb dX10_sizeOf_8 rfl (lv_at hl 2 rfl) ?_
    refine q_iald E G 18 7 (c18 7 (by decide)) sa_18_7 hk dX10_sizeOf_9 ?_
    refine lv_goto (tgt := 33) hx hb dX10_sizeOf_10 (by decide) ?_
    exact q_iret E G (by first | rfl | (unfold pZ; simp only [if_pos h1]; done) | (unfold pZ; simp only [if_pos h1]; rfl)) dX10_sizeOf_33

set_option maxHeartbeats 4000000 in
set_option maxRecDepth 100000 in
theorem k_X10_lacks (l : Launch) (D : va_G) (cy : Nat → ClassId) (sz : Nat) (ad : Nat → Nat → Nat) (n : Nat) (S : SS) (s9 : Int32) (i : Int32) : CI l yX10_lacks cX10_lacks 2 (some .int) 1 22 [.int s9, .int i] D cy sz ad n S (pL s9 i, S) := by
  refine Met.enter (by decide) (Nat.le_of_ble_eq_true rfl) (fun p e s m args below meth c ls E G hl => ?_)
  have E : En p s m args meth c cX10_lacks 2 (some .int) RX10 D cy sz := E
  obtain ⟨hx, hb, hrt, hml, hown, hw, hlk, hK, hF, hsz⟩ := id E
  have hl : lv_has ls 2 [(0, .int s9), (1, .int i)] := hl
  refine lv_iload_n hx hb dX10_lacks_0 rfl (lv_at hl 0 rfl) ?_
  refine lv_if_ge (tgt := 8) hx hb dX10_lacks_1 (by decide) (fun h1 => ?_) (fun h1 => ?_)
  · refine lv_iload_n hx hb dX10_lacks_8 rfl (lv_at hl 1 rfl) ?_
    refine lv_iconst (v := 0) hx hb dX10_lacks_9 (by decide) ?_
    refine lv_iload_n hx hb dX10_lacks_10 rfl (lv_at hl 0 rfl) ?_
    refine lv_iconst (v := 1) hx hb dX10_lacks_11 (by decide) ?_
    refine lv_isub hx hb dX10_lacks_12 ?_
    by_cases h2 : wj i 0 (s9 - 1) = true
    · refine q_cSp E G [] (k_X10_in_t l D cy sz ad n S i 0 (s9 - 1) h2) tb_489 tb_490 tb_6 tb_491 (nn := 3) (by decide +kernel) ⟨Nat.le_of_ble_eq_true rfl, Nat.le_of_ble_eq_true rfl⟩ rfl hl.1 rfl (Nat.le_of_ble_eq_true rfl) dX10_lacks_13 ⟨Nat.zero_le _, Nat.zero_le _⟩ (fun H locs G => ?_)
      refine lv_if_eq (tgt := 23) hx hb dX10_lacks_16 (by decide) (fun h => absurd h (by decide)) (fun _ => ?_)
      refine lv_iconst (v := 0) hx hb dX10_lacks_19 (by decide) ?_
      refine lv_goto (tgt := 24) hx hb dX10_lacks_20 (by decide) ?_
      exact q_iret E G (by first | rfl | (unfold pL; simp only [if_pos h1, if_pos h2]; done) | (unfold pL; simp only [if_pos h1, if_pos h2]; rfl)) dX10_lacks_24
    · refine q_cSp E G [] (k_X10_in_f l D cy sz ad n S i 0 (s9 - 1) h2) tb_489 tb_490 tb_6 tb_491 (nn := 3) (by decide +kernel) ⟨Nat.le_of_ble_eq_true rfl, Nat.le_of_ble_eq_true rfl⟩ rfl hl.1 rfl (Nat.le_of_ble_eq_true rfl) dX10_lacks_13 ⟨Nat.zero_le _, Nat.zero_le _⟩ (fun H locs G => ?_)
      refine lv_if_eq (tgt := 23) hx hb dX10_lacks_16 (by decide) (fun _ => ?_) (fun h => absurd h (by decide))
      refine lv_iconst (v := 2) hx hb dX10_lacks_23 (by decide) ?_
      exact q_iret E G (by first | rfl | (unfold pL; simp only [if_pos h1, if_neg h2]; done) | (unfold pL; simp only [if_pos h1, if_neg h2]; rfl)) dX10_lacks_24
  · refine lv_iconst (v := 1) hx hb dX10_lacks_4 (by decide) ?_
    refine lv_goto (tgt := 24) hx hb dX10_lacks_5 (by decide) ?_
    exact q_iret E G (by first | rfl | (unfold pL; simp only [if_neg h1]; done) | (unfold pL; simp only [if_neg h1]; rfl)) dX10_lacks_24

set_option maxHeartbeats 4000000 in
set_option maxRecDepth 100000 in
theorem k_X10_lacksCell (l : Launch) (D : va_G) (cy : Nat → ClassId) (sz : Nat) (ad : Nat → Nat → Nat) (n : Nat) (S : SS) (ok : okM S) (g9 : Int32) (i : Int32) (j : Int32) (hv : vp_in g9 2) : CI l yX10_lacksCell cX10_lacksCell 5 (some .int) 2 43 [.ref (ad 17 0), .int g9, .int i, .int j] D cy sz ad n S (pD S g9 i j, S) := by
  refine Met.enter (by decide) (Nat.le_of_ble_eq_true rfl) (fun p e s m args below meth c ls E G hl => ?_)
  have E : En p s m args meth c cX10_lacksCell 5 (some .int) RX10 D cy sz := E
  obtain ⟨hx, hb, hrt, hml, hown, hw, hlk, hK, hF, hsz⟩ := id E
  have hl : lv_has ls 5 [(0, .ref (ad 17 0)), (1, .int g9), (2, .int i), (3, .int j)] := hl
  refine lv_aload_n hx hb dX10_lacksCell_0 rfl (lv_at hl 0 rfl) ?_
  refine q_get (index := 44) (ref := "ToolRoomModel") E G inX10 17 0 c17 sg_17 rfl 12 (by decide) tb_433 (Or.inl rfl) rfl dX10_lacksCell_1 ?_
  refine lv_iload_n hx hb dX10_lacksCell_4 rfl (lv_at hl 1 rfl) ?_
  refine q_iald E G 18 12 (c18 12 (by decide)) sa_18_12 hv dX10_lacksCell_5 ?_
  refine lv_iload_n hx hb dX10_lacksCell_6 rfl (lv_at hl 2 rfl) ?_
  refine q_cSp E G [] (k_X10_lacks l D cy sz ad n S (S.1 18 12 g9.toNatClampNeg) i) tb_574 tb_575 tb_6 tb_576 (nn := 2) (by decide +kernel) ⟨Nat.le_of_ble_eq_true rfl, Nat.le_of_ble_eq_true rfl⟩ rfl hl.1 rfl (Nat.le_of_ble_eq_true rfl) dX10_lacksCell_7 ⟨Nat.zero_le _, Nat.zero_le _⟩ (fun H locs G => ?_)
  refine lv_istore (lv' := [(4, .int (pL (S.1 18 12 g9.toNatClampNeg) i)), (0, .ref (ad 17 0)), (1, .int g9), (2, .int i), (3, .int j)]) hx hb dX10_lacksCell_10 hl (by decide) rfl (fun ls hl => ?_)
  refine lv_iload hx hb dX10_lacksCell_12 (lv_at hl 0 rfl) ?_
  refine lv_if_eq (tgt := 22) hx hb dX10_lacksCell_14 (by decide) (fun h1 => ?_) (fun h1 => ?_)
  · have vi : vp_in i 8 := pL_0 h1 (ok.2.2.2.2.2.1 _ (vp_lt hv)) (by decide)
    refine lv_aload_n hx hb dX10_lacksCell_22 rfl (lv_at hl 1 rfl) ?_
    refine q_get (index := 47) (ref := "ToolRoomModel") E G inX10 17 0 c17 sg_17 rfl 13 (by decide) tb_434 (Or.inl rfl) rfl dX10_lacksCell_23 ?_
    refine lv_bipush (v := 8) hx hb dX10_lacksCell_26 (by decide) ?_
    refine lv_iload_n hx hb dX10_lacksCell_28 rfl (lv_at hl 2 rfl) ?_
    refine lv_imul hx hb dX10_lacksCell_29 ?_
    refine lv_iload_n hx hb dX10_lacksCell_30 rfl (lv_at hl 3 rfl) ?_
    refine lv_iadd hx hb dX10_lacksCell_31 ?_
    refine q_iald E G 18 13 (c18 13 (by decide)) sa_18_13 (ixv hv vi 8 rfl (by decide) (by decide) (by decide) (by decide) (by decide)) dX10_lacksCell_32 ?_
    refine lv_iload_n hx hb dX10_lacksCell_33 rfl (lv_at hl 4 rfl) ?_
    refine q_cSp E G [] (k_X10_lacks l D cy sz ad n S (S.1 18 13 ((8 * g9) + i).toNatClampNeg) j) tb_574 tb_575 tb_6 tb_576 (nn := 2) (by decide +kernel) ⟨Nat.le_of_ble_eq_true rfl, Nat.le_of_ble_eq_true rfl⟩ rfl hl.1 rfl (Nat.le_of_ble_eq_true rfl) dX10_lacksCell_34 ⟨Nat.zero_le _, Nat.zero_le _⟩ (fun H locs G => ?_)
    exact q_iret E G (by first | rfl | (unfold pD; simp only [if_pos h1]; done) | (unfold pD; simp only [if_pos h1]; rfl)) dX10_lacksCell_37
  · refine lv_iload hx hb dX10_lacksCell_17 (lv_at hl 0 rfl) ?_
    refine lv_goto (tgt := 37) hx hb dX10_lacksCell_19 (by decide) ?_
    exact q_iret E G (by first | rfl | (unfold pD; simp only [if_neg h1]; done) | (unfold pD; simp only [if_neg h1]; rfl)) dX10_lacksCell_37

set_option maxHeartbeats 4000000 in
set_option maxRecDepth 100000 in
theorem k_X10_isOf (l : Launch) (D : va_G) (cy : Nat → ClassId) (sz : Nat) (ad : Nat → Nat → Nat) (n : Nat) (S : SS) (t : Int32) (sort : Int32) (hv : t = -1 ∨ vp_in t 600) : CI l yX10_isOf cX10_isOf 3 (some .boolean) 1 20 [.ref (ad 17 0), .int t, .int sort] D cy sz ad n S (pO S t sort, S) := by
  refine Met.enter (by decide) (Nat.le_of_ble_eq_true rfl) (fun p e s m args below meth c ls E G hl => ?_)
  have E : En p s m args meth c cX10_isOf 3 (some .boolean) RX10 D cy sz := E
  obtain ⟨hx, hb, hrt, hml, hown, hw, hlk, hK, hF, hsz⟩ := id E
  have hl : lv_has ls 3 [(0, .ref (ad 17 0)), (1, .int t), (2, .int sort)] := hl
  refine lv_iload_n hx hb dX10_isOf_0 rfl (lv_at hl 1 rfl) ?_
  refine lv_iconst (v := (-1)) hx hb dX10_isOf_1 (by decide) ?_
  refine lv_icmp_eq (tgt := 39) hx hb dX10_isOf_2 (by decide) (fun h1 => ?_) (fun h1 => ?_)
  · refine lv_iconst (v := 1) hx hb dX10_isOf_39 (by decide) ?_
    refine lv_goto (tgt := 44) hx hb dX10_isOf_40 (by decide) ?_
    exact q_zret E G rfl (by unfold pO; first | (simp [h1]; done) | (simp [h1]; exact ((pB_01 _).resolve_left (by assumption)).symm)) dX10_isOf_44
  · have vt : vp_in t 600 := hv.resolve_left h1
    refine lv_iload_n hx hb dX10_isOf_5 rfl (lv_at hl 2 rfl) ?_
    refine lv_if_eq (tgt := 39) hx hb dX10_isOf_6 (by decide) (fun h2 => ?_) (fun h2 => ?_)
    · refine lv_iconst (v := 1) hx hb dX10_isOf_39 (by decide) ?_
      refine lv_goto (tgt := 44) hx hb dX10_isOf_40 (by decide) ?_
      exact q_zret E G rfl (by unfold pO; first | (simp [h1, h2]; done) | (simp [h1, h2]; exact ((pB_01 _).resolve_left (by assumption)).symm)) dX10_isOf_44
    · refine lv_iload_n hx hb dX10_isOf_9 rfl (lv_at hl 2 rfl) ?_
      refine lv_iconst (v := 1) hx hb dX10_isOf_10 (by decide) ?_
      refine lv_icmp_ne (tgt := 29) hx hb dX10_isOf_11 (by decide) (fun h3 => ?_) (fun h3 => ?_)
      · refine lv_aload_n hx hb dX10_isOf_29 rfl (lv_at hl 0 rfl) ?_
        refine q_get (index := 13) (ref := "ToolRoomModel") E G inX10 17 0 c17 sg_17 rfl 2 (by decide) tb_423 (Or.inl rfl) rfl dX10_isOf_30 ?_
        refine lv_iload_n hx hb dX10_isOf_33 rfl (lv_at hl 1 rfl) ?_
        refine q_iald E G 18 2 (c18 2 (by decide)) sa_18_2 vt dX10_isOf_34 ?_
        refine lv_iconst (v := 3) hx hb dX10_isOf_35 (by decide) ?_
        refine lv_icmp_ne (tgt := 43) hx hb dX10_isOf_36 (by decide) (fun h4 => ?_) (fun h4 => ?_)
        · refine lv_iconst (v := 0) hx hb dX10_isOf_43 (by decide) ?_
          exact q_zret E G rfl (by unfold pO; first | (simp [h1, h2, h3, h4]; done) | (simp [h1, h2, h3, h4]; exact ((pB_01 _).resolve_left (by assumption)).symm)) dX10_isOf_44
        · refine lv_iconst (v := 1) hx hb dX10_isOf_39 (by decide) ?_
          refine lv_goto (tgt := 44) hx hb dX10_isOf_40 (by decide) ?_
          exact q_zret E G rfl (by unfold pO; first | (simp [h1, h2, h3, h4]; done) | (simp [h1, h2, h3, h4]; exact ((pB_01 _).resolve_left (by assumption)).symm)) dX10_isOf_44
      · refine lv_aload_n hx hb dX10_isOf_14 rfl (lv_at hl 0 rfl) ?_
        refine q_get (index := 13) (ref := "ToolRoomModel") E G inX10 17 0 c17 sg_17 rfl 2 (by decide) tb_423 (Or.inl rfl) rfl dX10_isOf_15 ?_
        refine lv_iload_n hx hb dX10_isOf_18 rfl (lv_at hl 1 rfl) ?_
        refine q_iald E G 18 2 (c18 2 (by decide)) sa_18_2 vt dX10_isOf_19 ?_
        refine q_cSp E G [] (k_X10_isBlade l D cy sz ad n S (S.1 18 2 t.toNatClampNeg)) tb_532 tb_533 tb_6 tb_534 (nn := 1) (by decide +kernel) ⟨Nat.le_of_ble_eq_true rfl, Nat.le_of_ble_eq_true rfl⟩ rfl hl.1 rfl (Nat.le_of_ble_eq_true rfl) dX10_isOf_20 ⟨Nat.zero_le _, Nat.zero_le _⟩ (fun H locs G => ?_)
        refine lv_if_eq (tgt := 43) hx hb dX10_isOf_23 (by decide) (fun h5 => ?_) (fun h5 => ?_)
        · refine lv_iconst (v := 0) hx hb dX10_isOf_43 (by decide) ?_
          exact q_zret E G rfl (by unfold pO; first | (simp [h1, h2, h3, h5]; done) | (simp [h1, h2, h3, h5]; exact ((pB_01 _).resolve_left (by assumption)).symm)) dX10_isOf_44
        · refine lv_goto (tgt := 39) hx hb dX10_isOf_26 (by decide) ?_
          refine lv_iconst (v := 1) hx hb dX10_isOf_39 (by decide) ?_
          refine lv_goto (tgt := 44) hx hb dX10_isOf_40 (by decide) ?_
          exact q_zret E G rfl (by unfold pO; first | (simp [h1, h2, h3, h5]; done) | (simp [h1, h2, h3, h5]; exact ((pB_01 _).resolve_left (by assumption)).symm)) dX10_isOf_44
