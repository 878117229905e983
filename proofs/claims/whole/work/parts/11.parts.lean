section PH
variable {p : Program} {l : Launch} {e : Env} {R : Room} {s : State} {m : MethodId} {args : Array Value} {below : List Frame} {meth : Method} {c : Code} {H : Heap} {locs : List Loc} {cells slots : Nat} {Q : State → Prop}
variable {cc : ByteArray} {mL : Nat} {rt : Option FieldType} {own : String} {pc : Nat} {ls : Array Slot} {st : List Value} {D : va_G} {cy : Nat → ClassId} {sz : Nat} {ad : Nat → Nat → Nat} {n : Nat} {S : SS}
variable {y : MethodName} {b : ByteArray} {k fr lo index nn : Nat} {r : Option FieldType} {As : List Value} {a : Int32} {u : SS}
theorem q_cHp {x : MethodName} (E : En p s m args meth c cc mL rt own D cy sz) (G : Gd D cy sz ad n S s.heap H locs) (f i : Nat) (hf : isH f) (hi : isC n f i) (rest : List Value)
    (hM : CI l y b k r fr lo (.ref (ad f i) :: As) D cy sz ad n S (a, u)) (h1 : Cond.methodLink own index x ∈ wl) (h2 : Cond.sameMethod x.cls "ToolRoom$Holder" x.name x.desc ∈ wl) (h3 : Cond.selects RX3 x y ∈ wl) (h32 : Cond.selects RX6 x y ∈ wl) (h33 : Cond.selects RX7 x y ∈ wl) (h6 : Cond.instanceMethod y ∈ wl) (h4 : Cond.initialized y.cls ∈ wl) (h5 : Cond.code y b k r ∈ wl) (hyx : y = ⟨"ToolRoom$Holder", x.name, x.desc⟩)
    (hd : "ToolRoom$Holder" ≠ "java/lang/invoke/MethodHandle" ∧ "ToolRoom$Holder" ≠ "java/lang/invoke/VarHandle" ∧ (parseMethodDescriptor x.desc).map (fun d => d.parameters.length) = some nn) (hR : fr + 1 ≤ R.frames ∧ 8 + (k + 11) + lo ≤ R.locals) (hn : As.length = nn) (hls : ls.size = mL) (hst : st = As.reverse ++ .ref (ad f i) :: rest) (hrest : (rest.map fun v => v.category).sum ≤ 8)
    (hdg : decode cc pc = .ok (.invokevirtual index, 3)) (hcs : cells ≤ R.cells ∧ slots ≤ R.slots)
    (kk : ∀ (H1 : Heap) (locs1 : List Loc), Gd D cy sz ad n u s.heap H1 locs1 → W p l e R s m args below meth c H1 locs1 cells slots Q (F0 m (pc + 3) ls (.int a :: rest))) : W p l e R s m args below meth c H locs cells slots Q (F0 m pc ls st) :=
  q_cH E G f i hf hi hM h1 h2 h3 h32 h33 h6 h4 h5 hyx hd hR hn hls hst hrest hdg hcs kk
theorem q_cSupp (E : En p s m args meth c cc mL rt own D cy sz) (G : Gd D cy sz ad n S s.heap H locs) (f i : Nat) (hi : isC n f i) {ci : Nat} {fs : List Value} (hsh : sh cy ad f i (S.1 f i) (S.2 f i) = .inr (ci, fs)) {C : String} {T : u_T} {N : Nat} (hc : vwCl[ci]? = some (C, T, N)) (rest : List Value)
    (hM : CI l y b k r fr lo (.ref (ad f i) :: As) D cy sz ad n S (a, u)) (h1 : Cond.methodLink own index y ∈ wl) (h2 : Cond.sameMethod y.cls y.cls y.name y.desc ∈ wl) (h3 : Cond.superclass own y.cls ∈ wl) (h6 : Cond.instanceMethod y ∈ wl) (h4 : Cond.initialized y.cls ∈ wl) (h5 : Cond.code y b k r ∈ wl)
    (hd : y.name ≠ "<init>" ∧ (parseMethodDescriptor y.desc).map (fun d => d.parameters.length) = some nn) (hR : fr + 1 ≤ R.frames ∧ 8 + (k + 11) + lo ≤ R.locals) (hn : As.length = nn) (hls : ls.size = mL) (hst : st = As.reverse ++ .ref (ad f i) :: rest) (hrest : (rest.map fun v => v.category).sum ≤ 8)
    (hdg : decode cc pc = .ok (.invokespecial index, 3)) (hcs : cells ≤ R.cells ∧ slots ≤ R.slots)
    (kk : ∀ (H1 : Heap) (locs1 : List Loc), Gd D cy sz ad n u s.heap H1 locs1 → W p l e R s m args below meth c H1 locs1 cells slots Q (F0 m (pc + 3) ls (.int a :: rest))) : W p l e R s m args below meth c H locs cells slots Q (F0 m pc ls st) :=
  q_cSup E G f i hi hsh hc hM h1 h2 h3 h6 h4 h5 hd hR hn hls hst hrest hdg hcs kk
end PH

theorem k_X5_isMissing_t (l : Launch) (D : va_G) (cy : Nat → ClassId) (sz : Nat) (ad : Nat → Nat → Nat) (n : Nat) (S : SS) (f i : Nat) (hf : isH f) (hi : isC n f i) (h : S.1 f i 0 = -1) : CI l yX5_isMissing cX5_isMissing 1 (some .boolean) 0 0 [.ref (ad f i)] D cy sz ad n S (1, S) := by
  have := k_X5_isMissing l D cy sz ad n S f i hf hi
  rw [if_pos h] at this
  exact this

theorem k_X5_isMissing_f (l : Launch) (D : va_G) (cy : Nat → ClassId) (sz : Nat) (ad : Nat → Nat → Nat) (n : Nat) (S : SS) (f i : Nat) (hf : isH f) (hi : isC n f i) (h : ¬ S.1 f i 0 = -1) : CI l yX5_isMissing cX5_isMissing 1 (some .boolean) 0 0 [.ref (ad f i)] D cy sz ad n S (0, S) := by
  have := k_X5_isMissing l D cy sz ad n S f i hf hi
  rw [if_neg h] at this
  exact this

def f_X5_vanish (S : SS) (f : Nat) (i : Nat) : Int32 × SS := if S.1 f i 0 = -1 then (0, (uI S f i 0 (-1))) else (1, (uI S f i 0 (-1)))
set_option maxHeartbeats 4000000 in
set_option maxRecDepth 100000 in
theorem k_X5_vanish (l : Launch) (D : va_G) (cy : Nat → ClassId) (sz : Nat) (ad : Nat → Nat → Nat) (n : Nat) (S : SS) (f i : Nat) (hf : isH f) (hi : isC n f i) : CI l yX5_vanish cX5_vanish 2 (some .boolean) 1 20 [.ref (ad f i)] D cy sz ad n S (f_X5_vanish S f i) := by
  refine Met.enter (by decide) (Nat.le_of_ble_eq_true rfl) (fun p e s m args below meth c ls E G hl => ?_)
  have E : En p s m args meth c cX5_vanish 2 (some .boolean) RX5 D cy sz := E
  obtain ⟨hx, hb, hrt, hml, hown, hw, hlk, hK, hF, hsz⟩ := id E
  have hl : lv_has ls 2 [(0, .ref (ad f i))] := hl
  refine lv_aload_n hx hb dX5_vanish_0 rfl (lv_at hl 0 rfl) ?_
  by_cases h1 : S.1 f i 0 = -1
  · refine q_cHp E G f i hf hi [] (k_X5_isMissing_t l D cy sz ad n S f i hf hi h1) tb_335 tb_307 tb_308 tb_309 tb_310 tb_306 tb_2 tb_311 rfl (nn := 0) (by decide +kernel) ⟨Nat.le_of_ble_eq_true rfl, Nat.le_of_ble_eq_true rfl⟩ rfl hl.1 rfl (Nat.le_of_ble_eq_true rfl) dX5_vanish_1 ⟨Nat.zero_le _, Nat.zero_le _⟩ (fun H locs G => ?_)
    refine lv_if_ne (tgt := 11) hx hb dX5_vanish_4 (by decide) (fun _ => ?_) (fun h => absurd h (by decide))
    refine lv_iconst (v := 0) hx hb dX5_vanish_11 (by decide) ?_
    refine lv_istore_n (lv' := [(1, .int 0), (0, .ref (ad f i))]) hx hb dX5_vanish_12 rfl hl (by decide) rfl (fun ls hl => ?_)
    refine lv_aload_n hx hb dX5_vanish_13 rfl (lv_at hl 1 rfl) ?_
    refine lv_iconst (v := (-1)) hx hb dX5_vanish_14 (by decide) ?_
    refine q_putH E G f i hf hi tb_38 (Or.inl rfl) dX5_vanish_15 (fun H locs G => ?_)
    refine lv_iload_n hx hb dX5_vanish_18 rfl (lv_at hl 0 rfl) ?_
    exact q_zret E G rfl (by unfold f_X5_vanish; simp only [if_pos h1, pr_eta]) dX5_vanish_19
  · refine q_cHp E G f i hf hi [] (k_X5_isMissing_f l D cy sz ad n S f i hf hi h1) tb_335 tb_307 tb_308 tb_309 tb_310 tb_306 tb_2 tb_311 rfl (nn := 0) (by decide +kernel) ⟨Nat.le_of_ble_eq_true rfl, Nat.le_of_ble_eq_true rfl⟩ rfl hl.1 rfl (Nat.le_of_ble_eq_true rfl) dX5_vanish_1 ⟨Nat.zero_le _, Nat.zero_le _⟩ (fun H locs G => ?_)
    refine lv_if_ne (tgt := 11) hx hb dX5_vanish_4 (by decide) (fun h => absurd h (by decide)) (fun _ => ?_)
    refine lv_iconst (v := 1) hx hb dX5_vanish_7 (by decide) ?_
    refine lv_goto (tgt := 12) hx hb dX5_vanish_8 (by decide) ?_
    refine lv_istore_n (lv' := [(1, .int 1), (0, .ref (ad f i))]) hx hb dX5_vanish_12 rfl hl (by decide) rfl (fun ls hl => ?_)
    refine lv_aload_n hx hb dX5_vanish_13 rfl (lv_at hl 1 rfl) ?_
    refine lv_iconst (v := (-1)) hx hb dX5_vanish_14 (by decide) ?_
    refine q_putH E G f i hf hi tb_38 (Or.inl rfl) dX5_vanish_15 (fun H locs G => ?_)
    refine lv_iload_n hx hb dX5_vanish_18 rfl (lv_at hl 0 rfl) ?_
    exact q_zret E G rfl (by unfold f_X5_vanish; simp only [if_neg h1, pr_eta]) dX5_vanish_19

set_option maxHeartbeats 4000000 in
set_option maxRecDepth 100000 in
theorem k_X9_failureAt (l : Launch) (D : va_G) (cy : Nat → ClassId) (sz : Nat) (ad : Nat → Nat → Nat) (n : Nat) (S : SS) (f i : Nat) (hf : isH f) (hi : isC n f i) (x : Int32) : CI l yX9_failureAt cX9_failureAt 2 (some .int) 1 21 [.ref (ad f i), .int x] D cy sz ad n S (pA S f i x, S) := by
  refine Met.enter (by decide) (Nat.le_of_ble_eq_true rfl) (fun p e s m args below meth c ls E G hl => ?_)
  have E : En p s m args meth c cX9_failureAt 2 (some .int) RX9 D cy sz := E
  obtain ⟨hx, hb, hrt, hml, hown, hw, hlk, hK, hF, hsz⟩ := id E
  have hl : lv_has ls 2 [(0, .ref (ad f i)), (1, .int x)] := hl
  refine lv_aload_n hx hb dX9_failureAt_0 rfl (lv_at hl 0 rfl) ?_
  by_cases h1 : S.1 f i 0 = -1
  · refine q_cHp E G f i hf hi [] (k_X5_isMissing_t l D cy sz ad n S f i hf hi h1) tb_305 tb_307 tb_308 tb_309 tb_310 tb_306 tb_2 tb_311 rfl (nn := 0) (by decide +kernel) ⟨Nat.le_of_ble_eq_true rfl, Nat.le_of_ble_eq_true rfl⟩ rfl hl.1 rfl (Nat.le_of_ble_eq_true rfl) dX9_failureAt_1 ⟨Nat.zero_le _, Nat.zero_le _⟩ (fun H locs G => ?_)
    refine lv_if_eq (tgt := 9) hx hb dX9_failureAt_4 (by decide) (fun h => absurd h (by decide)) (fun _ => ?_)
    refine lv_iconst (v := 1) hx hb dX9_failureAt_7 (by decide) ?_
    exact q_iret E G (by first | rfl | (unfold pA; simp only [if_pos h1]; done) | (unfold pA; simp only [if_pos h1]; rfl)) dX9_failureAt_8
  · refine q_cHp E G f i hf hi [] (k_X5_isMissing_f l D cy sz ad n S f i hf hi h1) tb_305 tb_307 tb_308 tb_309 tb_310 tb_306 tb_2 tb_311 rfl (nn := 0) (by decide +kernel) ⟨Nat.le_of_ble_eq_true rfl, Nat.le_of_ble_eq_true rfl⟩ rfl hl.1 rfl (Nat.le_of_ble_eq_true rfl) dX9_failureAt_1 ⟨Nat.zero_le _, Nat.zero_le _⟩ (fun H locs G => ?_)
    refine lv_if_eq (tgt := 9) hx hb dX9_failureAt_4 (by decide) (fun _ => ?_) (fun h => absurd h (by decide))
    refine lv_iload_n hx hb dX9_failureAt_9 rfl (lv_at hl 1 rfl) ?_
    refine lv_aload_n hx hb dX9_failureAt_10 rfl (lv_at hl 0 rfl) ?_
    refine q_getH E G f i hf hi tb_45 (Or.inl rfl) dX9_failureAt_11 ?_
    by_cases h2 : wi x (S.1 f i 0) = true
    · refine q_cSp E G [] (k_X9_isWithin_t l D cy sz ad n S x (S.1 f i 0) h2) tb_117 tb_118 tb_1 tb_119 (nn := 2) (by decide +kernel) ⟨Nat.le_of_ble_eq_true rfl, Nat.le_of_ble_eq_true rfl⟩ rfl hl.1 rfl (Nat.le_of_ble_eq_true rfl) dX9_failureAt_14 ⟨Nat.zero_le _, Nat.zero_le _⟩ (fun H locs G => ?_)
      refine lv_if_eq (tgt := 24) hx hb dX9_failureAt_17 (by decide) (fun h => absurd h (by decide)) (fun _ => ?_)
      refine lv_iconst (v := 0) hx hb dX9_failureAt_20 (by decide) ?_
      refine lv_goto (tgt := 25) hx hb dX9_failureAt_21 (by decide) ?_
      exact q_iret E G (by first | rfl | (unfold pA; simp only [if_neg h1, if_pos h2]; done) | (unfold pA; simp only [if_neg h1, if_pos h2]; rfl)) dX9_failureAt_25
    · refine q_cSp E G [] (k_X9_isWithin_f l D cy sz ad n S x (S.1 f i 0) h2) tb_117 tb_118 tb_1 tb_119 (nn := 2) (by decide +kernel) ⟨Nat.le_of_ble_eq_true rfl, Nat.le_of_ble_eq_true rfl⟩ rfl hl.1 rfl (Nat.le_of_ble_eq_true rfl) dX9_failureAt_14 ⟨Nat.zero_le _, Nat.zero_le _⟩ (fun H locs G => ?_)
      refine lv_if_eq (tgt := 24) hx hb dX9_failureAt_17 (by decide) (fun _ => ?_) (fun h => absurd h (by decide))
      refine lv_iconst (v := 2) hx hb dX9_failureAt_24 (by decide) ?_
      exact q_iret E G (by first | rfl | (unfold pA; simp only [if_neg h1, if_neg h2]; done) | (unfold pA; simp only [if_neg h1, if_neg h2]; rfl)) dX9_failureAt_25

set_option maxHeartbeats 4000000 in
set_option maxRecDepth 100000 in
theorem k_X9_failureAtCell (l : Launch) (D : va_G) (cy : Nat → ClassId) (sz : Nat) (ad : Nat → Nat → Nat) (n : Nat) (S : SS) (ok : okC n S) (gg : Nat) (hg : gg < 2) (x : Int32) (j : Int32) : CI l yX9_failureAtCell cX9_failureAtCell 4 (some .int) 2 42 [.ref (ad 12 gg), .int x, .int j] D cy sz ad n S (pC S gg x j, S) := by
  refine Met.enter (by decide) (Nat.le_of_ble_eq_true rfl) (fun p e s m args below meth c ls E G hl => ?_)
  have E : En p s m args meth c cX9_failureAtCell 4 (some .int) RX9 D cy sz := E
  obtain ⟨hx, hb, hrt, hml, hown, hw, hlk, hK, hF, hsz⟩ := id E
  have hl : lv_has ls 4 [(0, .ref (ad 12 gg)), (1, .int x), (2, .int j)] := hl
  refine lv_aload_n hx hb dX9_failureAtCell_0 rfl (lv_at hl 0 rfl) ?_
  refine lv_iload_n hx hb dX9_failureAtCell_1 rfl (lv_at hl 1 rfl) ?_
  refine q_cSp E G [] (k_X9_failureAt l D cy sz ad n S 12 gg (Or.inr (Or.inr (Or.inl rfl))) (c12 hg) x) tb_302 tb_303 tb_1 tb_304 (nn := 2) (by decide +kernel) ⟨Nat.le_of_ble_eq_true rfl, Nat.le_of_ble_eq_true rfl⟩ rfl hl.1 rfl (Nat.le_of_ble_eq_true rfl) dX9_failureAtCell_2 ⟨Nat.zero_le _, Nat.zero_le _⟩ (fun H locs G => ?_)
  refine lv_istore_n (lv' := [(3, .int (pA S 12 gg x)), (0, .ref (ad 12 gg)), (1, .int x), (2, .int j)]) hx hb dX9_failureAtCell_5 rfl hl (by decide) rfl (fun ls hl => ?_)
  refine lv_iload_n hx hb dX9_failureAtCell_6 rfl (lv_at hl 0 rfl) ?_
  refine lv_if_eq (tgt := 14) hx hb dX9_failureAtCell_7 (by decide) (fun h1 => ?_) (fun h1 => ?_)
  · have v2 : vp_in x 8 := wi_le (pA_0 h1) (ok.2.2.2.1 _ (hg)) (by decide)
    have v3 : 8 * gg + x.toNatClampNeg < 16 := by have := hg; have := vp_lt v2; omega
    refine lv_aload_n hx hb dX9_failureAtCell_14 rfl (lv_at hl 1 rfl) ?_
    refine q_get (index := 166) (ref := "ToolRoom$Grid") E G inX3 12 gg (c12 hg) sg_12 rfl 1 (by decide) tb_77 (Or.inl rfl) rfl dX9_failureAtCell_15 ?_
    refine lv_iload_n hx hb dX9_failureAtCell_18 rfl (lv_at hl 2 rfl) ?_
    refine q_aald (C := "ToolRoom$Row") E G 13 gg (c13 hg) sa_13 3 rfl v2 dX9_failureAtCell_19 ?_
    refine lv_iload_n hx hb dX9_failureAtCell_20 rfl (lv_at hl 3 rfl) ?_
    refine q_cSp E G [] (k_X9_failureAt l D cy sz ad n S 14 (8 * gg + x.toNatClampNeg) (Or.inr (Or.inr (Or.inr rfl))) (c14 v3) j) tb_302 tb_303 tb_1 tb_304 (nn := 2) (by decide +kernel) ⟨Nat.le_of_ble_eq_true rfl, Nat.le_of_ble_eq_true rfl⟩ rfl hl.1 rfl (Nat.le_of_ble_eq_true rfl) dX9_failureAtCell_21 ⟨Nat.zero_le _, Nat.zero_le _⟩ (fun H locs G => ?_)
    exact q_iret E G (by first | rfl | (unfold pC; simp only [if_pos h1]; done) | (unfold pC; simp only [if_pos h1]; rfl)) dX9_failureAtCell_24
  · refine lv_iload_n hx hb dX9_failureAtCell_10 rfl (lv_at hl 0 rfl) ?_
    refine lv_goto (tgt := 24) hx hb dX9_failureAtCell_11 (by decide) ?_
    exact q_iret E G (by first | rfl | (unfold pC; simp only [if_neg h1]; done) | (unfold pC; simp only [if_neg h1]; rfl)) dX9_failureAtCell_24

set_option maxHeartbeats 4000000 in
set_option maxRecDepth 100000 in
theorem k_X9_isOfSort_n (l : Launch) (D : va_G) (cy : Nat → ClassId) (sz : Nat) (ad : Nat → Nat → Nat) (n : Nat) (S : SS) (sort : Int32) : CI l yX9_isOfSort cX9_isOfSort 2 (some .boolean) 0 0 [.null, .int sort] D cy sz ad n S (pS S none sort, S) := by
  refine Met.enter (by decide) (Nat.le_of_ble_eq_true rfl) (fun p e s m args below meth c ls E G hl => ?_)
  have E : En p s m args meth c cX9_isOfSort 2 (some .boolean) RX9 D cy sz := E
  obtain ⟨hx, hb, hrt, hml, hown, hw, hlk, hK, hF, hsz⟩ := id E
  have hl : lv_has ls 2 [(0, .null), (1, .int sort)] := hl
  refine lv_aload_nN hx hb dX9_isOfSort_0 rfl (lv_at hl 0 rfl) ?_
  refine lv_ifnullN (tgt := 8) hx hb dX9_isOfSort_1 (by decide) ?_
  refine lv_iconst (v := 1) hx hb dX9_isOfSort_8 (by decide) ?_
  exact q_zret E G rfl (by first | rfl | (unfold pS; simp only []; done) | (unfold pS; simp only []; rfl)) dX9_isOfSort_9

set_option maxHeartbeats 4000000 in
set_option maxRecDepth 100000 in
theorem k_X9_isOfSort_s (l : Launch) (D : va_G) (cy : Nat → ClassId) (sz : Nat) (ad : Nat → Nat → Nat) (n : Nat) (S : SS) (t : Nat) (ht : t < n) (sort : Int32) : CI l yX9_isOfSort cX9_isOfSort 2 (some .boolean) 0 0 [.ref (ad 16 t), .int sort] D cy sz ad n S (pS S (some t) sort, S) := by
  refine Met.enter (by decide) (Nat.le_of_ble_eq_true rfl) (fun p e s m args below meth c ls E G hl => ?_)
  have E : En p s m args meth c cX9_isOfSort 2 (some .boolean) RX9 D cy sz := E
  obtain ⟨hx, hb, hrt, hml, hown, hw, hlk, hK, hF, hsz⟩ := id E
  have hl : lv_has ls 2 [(0, .ref (ad 16 t)), (1, .int sort)] := hl
  refine lv_aload_n hx hb dX9_isOfSort_0 rfl (lv_at hl 0 rfl) ?_
  refine lv_ifnull hx hb dX9_isOfSort_1 ?_
  refine lv_iload_n hx hb dX9_isOfSort_4 rfl (lv_at hl 1 rfl) ?_
  refine lv_if_ne (tgt := 10) hx hb dX9_isOfSort_5 (by decide) (fun h1 => ?_) (fun h1 => ?_)
  · refine lv_iload_n hx hb dX9_isOfSort_10 rfl (lv_at hl 1 rfl) ?_
    refine lv_iconst (v := 1) hx hb dX9_isOfSort_11 (by decide) ?_
    refine lv_icmp_ne (tgt := 22) hx hb dX9_isOfSort_12 (by decide) (fun h2 => ?_) (fun h2 => ?_)
    · refine lv_aload_n hx hb dX9_isOfSort_22 rfl (lv_at hl 0 rfl) ?_
      refine q_instG E G ht tb_182 dX9_isOfSort_23 (fun h3 => ?_) (fun h3 => ?_)
      · exact q_zret E G rfl (by first | rfl | (unfold pS; simp only [if_neg h1, if_neg h2, if_pos h3]; done) | (unfold pS; simp only [if_neg h1, if_neg h2, if_pos h3]; rfl)) dX9_isOfSort_26
      · exact q_zret E G rfl (by first | rfl | (unfold pS; simp only [if_neg h1, if_neg h2, if_neg h3]; done) | (unfold pS; simp only [if_neg h1, if_neg h2, if_neg h3]; rfl)) dX9_isOfSort_26
    · refine lv_aload_n hx hb dX9_isOfSort_15 rfl (lv_at hl 0 rfl) ?_
      refine q_instB E G ht tb_155 dX9_isOfSort_16 (fun h4 => ?_) (fun h4 => ?_)
      · refine lv_goto (tgt := 26) hx hb dX9_isOfSort_19 (by decide) ?_
        exact q_zret E G rfl (by first | rfl | (unfold pS; simp only [if_neg h1, if_pos h2, if_pos h4]; done) | (unfold pS; simp only [if_neg h1, if_pos h2, if_pos h4]; rfl)) dX9_isOfSort_26
      · refine lv_goto (tgt := 26) hx hb dX9_isOfSort_19 (by decide) ?_
        exact q_zret E G rfl (by first | rfl | (unfold pS; simp only [if_neg h1, if_pos h2, if_neg h4]; done) | (unfold pS; simp only [if_neg h1, if_pos h2, if_neg h4]; rfl)) dX9_isOfSort_26
  · refine lv_iconst (v := 1) hx hb dX9_isOfSort_8 (by decide) ?_
    exact q_zret E G rfl (by first | rfl | (unfold pS; simp only [if_pos h1]; done) | (unfold pS; simp only [if_pos h1]; rfl)) dX9_isOfSort_9

def f_X0_kindNumber (S : SS) (t : Nat) : Int32 × SS := (1, S)
set_option maxHeartbeats 4000000 in
set_option maxRecDepth 100000 in
theorem k_X0_kindNumber (l : Launch) (D : va_G) (cy : Nat → ClassId) (sz : Nat) (ad : Nat → Nat → Nat) (n : Nat) (S : SS) (t : Nat) (ht : t < n) : CI l yX0_kindNumber cX0_kindNumber 1 (some .int) 0 0 [.ref (ad 16 t)] D cy sz ad n S (f_X0_kindNumber S t) := by
  refine Met.enter (by decide) (Nat.le_of_ble_eq_true rfl) (fun p e s m args below meth c ls E G hl => ?_)
  have E : En p s m args meth c cX0_kindNumber 1 (some .int) RX0 D cy sz := E
  obtain ⟨hx, hb, hrt, hml, hown, hw, hlk, hK, hF, hsz⟩ := id E
  have hl : lv_has ls 1 [(0, .ref (ad 16 t))] := hl
  refine lv_iconst (v := 1) hx hb dX0_kindNumber_0 (by decide) ?_
  exact q_iret E G (by rfl) dX0_kindNumber_1

def f_X0_weight (S : SS) (t : Nat) : Int32 × SS := (10, S)
set_option maxHeartbeats 4000000 in
set_option maxRecDepth 100000 in
theorem k_X0_weight (l : Launch) (D : va_G) (cy : Nat → ClassId) (sz : Nat) (ad : Nat → Nat → Nat) (n : Nat) (S : SS) (t : Nat) (ht : t < n) : CI l yX0_weight cX0_weight 1 (some .int) 0 0 [.ref (ad 16 t)] D cy sz ad n S (f_X0_weight S t) := by
  refine Met.enter (by decide) (Nat.le_of_ble_eq_true rfl) (fun p e s m args below meth c ls E G hl => ?_)
  have E : En p s m args meth c cX0_weight 1 (some .int) RX0 D cy sz := E
  obtain ⟨hx, hb, hrt, hml, hown, hw, hlk, hK, hF, hsz⟩ := id E
  have hl : lv_has ls 1 [(0, .ref (ad 16 t))] := hl
  refine lv_bipush (v := 10) hx hb dX0_weight_0 (by decide) ?_
  exact q_iret E G (by rfl) dX0_weight_2

def f_X1_kindNumber (S : SS) (t : Nat) : Int32 × SS := (2, S)
set_option maxHeartbeats 4000000 in
set_option maxRecDepth 100000 in
theorem k_X1_kindNumber (l : Launch) (D : va_G) (cy : Nat → ClassId) (sz : Nat) (ad : Nat → Nat → Nat) (n : Nat) (S : SS) (t : Nat) (ht : t < n) : CI l yX1_kindNumber cX1_kindNumber 1 (some .int) 0 0 [.ref (ad 16 t)] D cy sz ad n S (f_X1_kindNumber S t) := by
  refine Met.enter (by decide) (Nat.le_of_ble_eq_true rfl) (fun p e s m args below meth c ls E G hl => ?_)
  have E : En p s m args meth c cX1_kindNumber 1 (some .int) RX1 D cy sz := E
  obtain ⟨hx, hb, hrt, hml, hown, hw, hlk, hK, hF, hsz⟩ := id E
  have hl : lv_has ls 1 [(0, .ref (ad 16 t))] := hl
  refine lv_iconst (v := 2) hx hb dX1_kindNumber_0 (by decide) ?_
  exact q_iret E G (by rfl) dX1_kindNumber_1

def f_X1_weight (S : SS) (t : Nat) : Int32 × SS := (12, S)
set_option maxHeartbeats 4000000 in
set_option maxRecDepth 100000 in
theorem k_X1_weight (l : Launch) (D : va_G) (cy : Nat → ClassId) (sz : Nat) (ad : Nat → Nat → Nat) (n : Nat) (S : SS) (t : Nat) (ht : t < n) : CI l yX1_weight cX1_weight 1 (some .int) 0 0 [.ref (ad 16 t)] D cy sz ad n S (f_X1_weight S t) := by
  refine Met.enter (by decide) (Nat.le_of_ble_eq_true rfl) (fun p e s m args below meth c ls E G hl => ?_)
  have E : En p s m args meth c cX1_weight 1 (some .int) RX1 D cy sz := E
  obtain ⟨hx, hb, hrt, hml, hown, hw, hlk, hK, hF, hsz⟩ := id E
  have hl : lv_has ls 1 [(0, .ref (ad 16 t))] := hl
  refine lv_bipush (v := 12) hx hb dX1_weight_0 (by decide) ?_
  exact q_iret E G (by rfl) dX1_weight_2

def f_X2_kindNumber (S : SS) (t : Nat) : Int32 × SS := (3, S)
set_option maxHeartbeats 4000000 in
set_option maxRecDepth 100000 in
theorem k_X2_kindNumber (l : Launch) (D : va_G) (cy : Nat → ClassId) (sz : Nat) (ad : Nat → Nat → Nat) (n : Nat) (S : SS) (t : Nat) (ht : t < n) : CI l yX2_kindNumber cX2_kindNumber 1 (some .int) 0 0 [.ref (ad 16 t)] D cy sz ad n S (f_X2_kindNumber S t) := by
  refine Met.enter (by decide) (Nat.le_of_ble_eq_true rfl) (fun p e s m args below meth c ls E G hl => ?_)
  have E : En p s m args meth c cX2_kindNumber 1 (some .int) RX2 D cy sz := E
  obtain ⟨hx, hb, hrt, hml, hown, hw, hlk, hK, hF, hsz⟩ := id E
  have hl : lv_has ls 1 [(0, .ref (ad 16 t))] := hl
  refine lv_iconst (v := 3) hx hb dX2_kindNumber_0 (by decide) ?_
  exact q_iret E G (by rfl) dX2_kindNumber_1

def f_X2_weight (S : SS) (t : Nat) : Int32 × SS := (5, S)
set_option maxHeartbeats 4000000 in
set_option maxRecDepth 100000 in
theorem k_X2_weight (l : Launch) (D : va_G) (cy : Nat → ClassId) (sz : Nat) (ad : Nat → Nat → Nat) (n : Nat) (S : SS) (t : Nat) (ht : t < n) : CI l yX2_weight cX2_weight 1 (some .int) 0 0 [.ref (ad 16 t)] D cy sz ad n S (f_X2_weight S t) := by
  refine Met.enter (by decide) (Nat.le_of_ble_eq_true rfl) (fun p e s m args below meth c ls E G hl => ?_)
  have E : En p s m args meth c cX2_weight 1 (some .int) RX2 D cy sz := E
  obtain ⟨hx, hb, hrt, hml, hown, hw, hlk, hK, hF, hsz⟩ := id E
  have hl : lv_has ls 1 [(0, .ref (ad 16 t))] := hl
  refine lv_iconst (v := 5) hx hb dX2_weight_0 (by decide) ?_
  exact q_iret E G (by rfl) dX2_weight_1

def f_X4_kindNumber (S : SS) (t : Nat) : Int32 × SS := (0, S)
set_option maxHeartbeats 4000000 in
set_option maxRecDepth 100000 in
theorem k_X4_kindNumber (l : Launch) (D : va_G) (cy : Nat → ClassId) (sz : Nat) (ad : Nat → Nat → Nat) (n : Nat) (S : SS) (t : Nat) (ht : t < n) : CI l yX4_kindNumber cX4_kindNumber 1 (some .int) 0 0 [.ref (ad 16 t)] D cy sz ad n S (f_X4_kindNumber S t) := by
  refine Met.enter (by decide) (Nat.le_of_ble_eq_true rfl) (fun p e s m args below meth c ls E G hl => ?_)
  have E : En p s m args meth c cX4_kindNumber 1 (some .int) RX4 D cy sz := E
  obtain ⟨hx, hb, hrt, hml, hown, hw, hlk, hK, hF, hsz⟩ := id E
  have hl : lv_has ls 1 [(0, .ref (ad 16 t))] := hl
  refine lv_iconst (v := 0) hx hb dX4_kindNumber_0 (by decide) ?_
  exact q_iret E G (by rfl) dX4_kindNumber_1

def f_X4_weight (S : SS) (t : Nat) : Int32 × SS := ((50 + (S.1 16 t 0)), S)
set_option maxHeartbeats 4000000 in
set_option maxRecDepth 100000 in
theorem k_X4_weight (l : Launch) (D : va_G) (cy : Nat → ClassId) (sz : Nat) (ad : Nat → Nat → Nat) (n : Nat) (S : SS) (t : Nat) (ht : t < n) : CI l yX4_weight cX4_weight 1 (some .int) 0 0 [.ref (ad 16 t)] D cy sz ad n S (f_X4_weight S t) := by
  refine Met.enter (by decide) (Nat.le_of_ble_eq_true rfl) (fun p e s m args below meth c ls E G hl => ?_)
  have E : En p s m args meth c cX4_weight 1 (some .int) RX4 D cy sz := E
  obtain ⟨hx, hb, hrt, hml, hown, hw, hlk, hK, hF, hsz⟩ := id E
  have hl : lv_has ls 1 [(0, .ref (ad 16 t))] := hl
  refine lv_bipush (v := 50) hx hb dX4_weight_0 (by decide) ?_
  refine lv_aload_n hx hb dX4_weight_2 rfl (lv_at hl 0 rfl) ?_
  refine q_getT E G ht 0 (by decide) rfl rfl rfl rfl tb_137 (Or.inr tb_138) dX4_weight_3 ?_
  refine lv_iadd hx hb dX4_weight_6 ?_
  exact q_iret E G (by rfl) dX4_weight_7

def f_X4_work (S : SS) (t : Nat) (force : Int32) : Int32 × SS := ((2 * force), (uI S 16 t 0 ((S.1 16 t 0) + force)))
set_option maxHeartbeats 4000000 in
set_option maxRecDepth 100000 in
theorem k_X4_work (l : Launch) (D : va_G) (cy : Nat → ClassId) (sz : Nat) (ad : Nat → Nat → Nat) (n : Nat) (S : SS) (t : Nat) (ht : t < n) (force : Int32) : CI l yX4_work cX4_work 2 (some .int) 0 0 [.ref (ad 16 t), .int force] D cy sz ad n S (f_X4_work S t force) := by
  refine Met.enter (by decide) (Nat.le_of_ble_eq_true rfl) (fun p e s m args below meth c ls E G hl => ?_)
  have E : En p s m args meth c cX4_work 2 (some .int) RX4 D cy sz := E
  obtain ⟨hx, hb, hrt, hml, hown, hw, hlk, hK, hF, hsz⟩ := id E
  have hl : lv_has ls 2 [(0, .ref (ad 16 t)), (1, .int force)] := hl
  refine lv_aload_n hx hb dX4_work_0 rfl (lv_at hl 0 rfl) ?_
  refine lv_dup hx hb dX4_work_1 rfl ?_
  refine q_getT E G ht 0 (by decide) rfl rfl rfl rfl tb_137 (Or.inr tb_138) dX4_work_2 ?_
  refine lv_iload_n hx hb dX4_work_5 rfl (lv_at hl 1 rfl) ?_
  refine lv_iadd hx hb dX4_work_6 ?_
  refine q_putT E G ht 0 (by decide) rfl rfl rfl rfl tb_137 (Or.inr tb_138) (ty := .int) (by decide +kernel) rfl rfl dX4_work_7 (fun H locs G => ?_)
  refine lv_iconst (v := 2) hx hb dX4_work_10 (by decide) ?_
  refine lv_iload_n hx hb dX4_work_11 rfl (lv_at hl 1 rfl) ?_
  refine lv_imul hx hb dX4_work_12 ?_
  exact q_iret E G (by rfl) dX4_work_13

def f_X2_work (S : SS) (t : Nat) (force : Int32) : Int32 × SS := ((S.1 16 t 0), (uI S 16 t 0 ((S.1 16 t 0) + 1)))
set_option maxHeartbeats 4000000 in
set_option maxRecDepth 100000 in
theorem k_X2_work (l : Launch) (D : va_G) (cy : Nat → ClassId) (sz : Nat) (ad : Nat → Nat → Nat) (n : Nat) (S : SS) (t : Nat) (ht : t < n) (force : Int32) : CI l yX2_work cX2_work 3 (some .int) 0 0 [.ref (ad 16 t), .int force] D cy sz ad n S (f_X2_work S t force) := by
  refine Met.enter (by decide) (Nat.le_of_ble_eq_true rfl) (fun p e s m args below meth c ls E G hl => ?_)
  have E : En p s m args meth c cX2_work 3 (some .int) RX2 D cy sz := E
  obtain ⟨hx, hb, hrt, hml, hown, hw, hlk, hK, hF, hsz⟩ := id E
  have hl : lv_has ls 3 [(0, .ref (ad 16 t)), (1, .int force)] := hl
  refine lv_aload_n hx hb dX2_work_0 rfl (lv_at hl 0 rfl) ?_
  refine q_getT E G ht 0 (by decide) rfl rfl rfl rfl tb_139 (Or.inr tb_140) dX2_work_1 ?_
  refine lv_istore_n (lv' := [(2, .int (S.1 16 t 0)), (0, .ref (ad 16 t)), (1, .int force)]) hx hb dX2_work_4 rfl hl (by decide) rfl (fun ls hl => ?_)
  refine lv_aload_n hx hb dX2_work_5 rfl (lv_at hl 1 rfl) ?_
  refine lv_dup hx hb dX2_work_6 rfl ?_
  refine q_getT E G ht 0 (by decide) rfl rfl rfl rfl tb_139 (Or.inr tb_140) dX2_work_7 ?_
  refine lv_iconst (v := 1) hx hb dX2_work_10 (by decide) ?_
  refine lv_iadd hx hb dX2_work_11 ?_
  refine q_putT E G ht 0 (by decide) rfl rfl rfl rfl tb_139 (Or.inr tb_140) (ty := .int) (by decide +kernel) rfl rfl dX2_work_12 (fun H locs G => ?_)
  refine lv_iload_n hx hb dX2_work_15 rfl (lv_at hl 0 rfl) ?_
  exact q_iret E G (by rfl) dX2_work_16

def f_X0_work (S : SS) (t : Nat) (force : Int32) : Int32 × SS := ((force + (S.1 16 t 0)), (uI S 16 t 3 ((S.1 16 t 3) - force)))
set_option maxHeartbeats 4000000 in
set_option maxRecDepth 100000 in
theorem k_X0_work (l : Launch) (D : va_G) (cy : Nat → ClassId) (sz : Nat) (ad : Nat → Nat → Nat) (n : Nat) (S : SS) (t : Nat) (ht : t < n) (hk : S.1 16 t 4 = 1 ∨ S.1 16 t 4 = 2) (force : Int32) : CI l yX0_work cX0_work 2 (some .int) 0 0 [.ref (ad 16 t), .int force] D cy sz ad n S (f_X0_work S t force) := by
  refine Met.enter (by decide) (Nat.le_of_ble_eq_true rfl) (fun p e s m args below meth c ls E G hl => ?_)
  have E : En p s m args meth c cX0_work 2 (some .int) RX0 D cy sz := E
  obtain ⟨hx, hb, hrt, hml, hown, hw, hlk, hK, hF, hsz⟩ := id E
  have hl : lv_has ls 2 [(0, .ref (ad 16 t)), (1, .int force)] := hl
  refine lv_aload_n hx hb dX0_work_0 rfl (lv_at hl 0 rfl) ?_
  refine lv_dup hx hb dX0_work_1 rfl ?_
  refine q_getE E G ht hk tb_161 (Or.inl rfl) dX0_work_2 ?_
  refine lv_iload_n hx hb dX0_work_5 rfl (lv_at hl 1 rfl) ?_
  refine lv_isub hx hb dX0_work_6 ?_
  refine q_putE E G ht hk tb_161 (Or.inl rfl) dX0_work_7 (fun H locs G => ?_)
  refine lv_iload_n hx hb dX0_work_10 rfl (lv_at hl 1 rfl) ?_
  refine lv_aload_n hx hb dX0_work_11 rfl (lv_at hl 0 rfl) ?_
  refine q_getT E G ht 0 (by decide) rfl rfl rfl rfl tb_141 (Or.inr tb_142) dX0_work_12 ?_
  rw [uI_nk (by decide)]
  refine lv_iadd hx hb dX0_work_15 ?_
  exact q_iret E G (by rfl) dX0_work_16

def f_X1_work (S : SS) (t : Nat) (force : Int32) : Int32 × SS := (((force + (S.1 16 t 0)) + 1), (uI (uI S 16 t 3 ((S.1 16 t 3) - force)) 16 t 3 (((S.1 16 t 3) - force) + 1)))
set_option maxHeartbeats 4000000 in
set_option maxRecDepth 100000 in
theorem k_X1_work (l : Launch) (D : va_G) (cy : Nat → ClassId) (sz : Nat) (ad : Nat → Nat → Nat) (n : Nat) (S : SS) (t : Nat) (ht : t < n) (h2 : S.1 16 t 4 = 2) (force : Int32) : CI l yX1_work cX1_work 3 (some .int) 1 21 [.ref (ad 16 t), .int force] D cy sz ad n S (f_X1_work S t force) := by
  refine Met.enter (by decide) (Nat.le_of_ble_eq_true rfl) (fun p e s m args below meth c ls E G hl => ?_)
  have E : En p s m args meth c cX1_work 3 (some .int) RX1 D cy sz := E
  obtain ⟨hx, hb, hrt, hml, hown, hw, hlk, hK, hF, hsz⟩ := id E
  have hl : lv_has ls 3 [(0, .ref (ad 16 t)), (1, .int force)] := hl
  refine lv_aload_n hx hb dX1_work_0 rfl (lv_at hl 0 rfl) ?_
  refine lv_iload_n hx hb dX1_work_1 rfl (lv_at hl 1 rfl) ?_
  refine q_cSupp (a := (force + (S.1 16 t 0))) (u := (uI S 16 t 3 ((S.1 16 t 3) - force))) E G 16 t (c16 ht) (ci := 1) (fs := [.int (S.1 16 t 3), .int (S.1 16 t 0), .int (S.1 16 t 1), .int (S.1 16 t 2)]) (by show tE _ = _; simp [tE, h2]) (C := RX1) (T := TX1) (N := 4) rfl [] (k_X0_work l D cy sz ad n S t ht (Or.inr h2) force) tb_287 tb_641 tb_181 tb_282 tb_9 tb_283 (nn := 1) (by decide +kernel) ⟨Nat.le_of_ble_eq_true rfl, Nat.le_of_ble_eq_true rfl⟩ rfl hl.1 rfl (Nat.le_of_ble_eq_true rfl) dX1_work_2 ⟨Nat.zero_le _, Nat.zero_le _⟩ (fun H locs G => ?_)
  refine lv_iconst (v := 1) hx hb dX1_work_5 (by decide) ?_
  refine lv_iadd hx hb dX1_work_6 ?_
  refine lv_istore_n (lv' := [(2, .int ((force + (S.1 16 t 0)) + 1)), (0, .ref (ad 16 t)), (1, .int force)]) hx hb dX1_work_7 rfl hl (by decide) rfl (fun ls hl => ?_)
  refine lv_aload_n hx hb dX1_work_8 rfl (lv_at hl 1 rfl) ?_
  refine lv_dup hx hb dX1_work_9 rfl ?_
  refine q_getE E G ht (Or.inr (by rw [uI_nk (by decide)]; exact h2)) tb_162 (Or.inr tb_163) dX1_work_10 ?_
  rw [uI_self]
  refine lv_iconst (v := 1) hx hb dX1_work_13 (by decide) ?_
  refine lv_iadd hx hb dX1_work_14 ?_
  refine q_putE E G ht (Or.inr (by rw [uI_nk (by decide)]; exact h2)) tb_162 (Or.inr tb_163) dX1_work_15 (fun H locs G => ?_)
  refine lv_iload_n hx hb dX1_work_18 rfl (lv_at hl 0 rfl) ?_
  exact q_iret E G (by rfl) dX1_work_19
