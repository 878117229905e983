set_option maxHeartbeats 4000000 in
set_option maxRecDepth 100000 in
theorem k_X9_tool_a (l : Launch) (D : va_G) (cy : Nat → ClassId) (sz : Nat) (ad : Nat → Nat → Nat) (n : Nat) (S : SS) (x1 : Int32) (x2 : Int32) (h1 : ¬ wi x1 10 = true) : CI l yX9_tool cX9_tool 4 (some .int) 1 21 [.ref (ad 0 0), .int x1, .int x2] D cy sz ad n S (f_X9_refuse S (-2)) := by
  refine Met.enter (by decide) (Nat.le_of_ble_eq_true rfl) (fun p e s m args below meth c ls E G hl => ?_)
  have E : En p s m args meth c cX9_tool 4 (some .int) RX9 D cy sz := E
  obtain ⟨hx, hb, hrt, hml, hown, hw, hlk, hK, hF, hsz⟩ := id E
  have hl : lv_has ls 4 [(0, .ref (ad 0 0)), (1, .int x1), (2, .int x2)] := hl
  refine lv_iload_n hx hb dX9_tool_0 rfl (lv_at hl 1 rfl) ?_
  refine lv_bipush (v := 10) hx hb dX9_tool_1 (by decide) ?_
  refine q_cSp E G [] (k_X9_isWithin_f l D cy sz ad n S x1 10 h1) tb_117 tb_118 tb_1 tb_119 (nn := 2) (by decide +kernel) ⟨Nat.le_of_ble_eq_true rfl, Nat.le_of_ble_eq_true rfl⟩ rfl hl.1 rfl (Nat.le_of_ble_eq_true rfl) dX9_tool_3 ⟨Nat.zero_le _, Nat.zero_le _⟩ (fun H locs G => ?_)
  refine lv_if_ne (tgt := 16) hx hb dX9_tool_6 (by decide) (fun h => absurd h (by decide)) (fun _ => ?_)
  refine lv_aload_n hx hb dX9_tool_9 rfl (lv_at hl 0 rfl) ?_
  refine lv_bipush (v := (-2)) hx hb dX9_tool_10 (by decide) ?_
  refine q_cV (rest := []) E G 0 0 c0 sg_0 (C := RX9) (T := TX9) (N := 10) rfl (k_X9_refuse l D cy sz ad n S (-2)) tb_120 tb_122 tp_0 tb_1 tb_123 (nn := 1) (by decide +kernel) ⟨Nat.le_of_ble_eq_true rfl, Nat.le_of_ble_eq_true rfl⟩ rfl hl.1 rfl (Nat.le_of_ble_eq_true rfl) dX9_tool_12 ⟨Nat.zero_le _, Nat.zero_le _⟩ (fun H locs G => ?_)
  exact q_iret E G (by rfl) dX9_tool_15

set_option maxHeartbeats 4000000 in
set_option maxRecDepth 100000 in
theorem k_X9_tool_b (l : Launch) (D : va_G) (cy : Nat → ClassId) (sz : Nat) (ad : Nat → Nat → Nat) (n : Nat) (S : SS) (x1 : Int32) (x2 : Int32) (h1 : wi x1 10 = true) (h2 : ¬ wi x2 4 = true) : CI l yX9_tool cX9_tool 4 (some .int) 1 21 [.ref (ad 0 0), .int x1, .int x2] D cy sz ad n S (f_X9_refuse S (-3)) := by
  refine Met.enter (by decide) (Nat.le_of_ble_eq_true rfl) (fun p e s m args below meth c ls E G hl => ?_)
  have E : En p s m args meth c cX9_tool 4 (some .int) RX9 D cy sz := E
  obtain ⟨hx, hb, hrt, hml, hown, hw, hlk, hK, hF, hsz⟩ := id E
  have hl : lv_has ls 4 [(0, .ref (ad 0 0)), (1, .int x1), (2, .int x2)] := hl
  refine lv_iload_n hx hb dX9_tool_0 rfl (lv_at hl 1 rfl) ?_
  refine lv_bipush (v := 10) hx hb dX9_tool_1 (by decide) ?_
  have v1 : vp_in x1 10 := wi_in h1 (by decide) (by decide)
  refine q_cSp E G [] (k_X9_isWithin_t l D cy sz ad n S x1 10 h1) tb_117 tb_118 tb_1 tb_119 (nn := 2) (by decide +kernel) ⟨Nat.le_of_ble_eq_true rfl, Nat.le_of_ble_eq_true rfl⟩ rfl hl.1 rfl (Nat.le_of_ble_eq_true rfl) dX9_tool_3 ⟨Nat.zero_le _, Nat.zero_le _⟩ (fun H locs G => ?_)
  refine lv_if_ne (tgt := 16) hx hb dX9_tool_6 (by decide) (fun _ => ?_) (fun h => absurd h (by decide))
  refine lv_iload_n hx hb dX9_tool_16 rfl (lv_at hl 2 rfl) ?_
  refine lv_iconst (v := 4) hx hb dX9_tool_17 (by decide) ?_
  refine q_cSp E G [] (k_X9_isWithin_f l D cy sz ad n S x2 4 h2) tb_117 tb_118 tb_1 tb_119 (nn := 2) (by decide +kernel) ⟨Nat.le_of_ble_eq_true rfl, Nat.le_of_ble_eq_true rfl⟩ rfl hl.1 rfl (Nat.le_of_ble_eq_true rfl) dX9_tool_18 ⟨Nat.zero_le _, Nat.zero_le _⟩ (fun H locs G => ?_)
  refine lv_if_ne (tgt := 31) hx hb dX9_tool_21 (by decide) (fun h => absurd h (by decide)) (fun _ => ?_)
  refine lv_aload_n hx hb dX9_tool_24 rfl (lv_at hl 0 rfl) ?_
  refine lv_bipush (v := (-3)) hx hb dX9_tool_25 (by decide) ?_
  refine q_cV (rest := []) E G 0 0 c0 sg_0 (C := RX9) (T := TX9) (N := 10) rfl (k_X9_refuse l D cy sz ad n S (-3)) tb_120 tb_122 tp_0 tb_1 tb_123 (nn := 1) (by decide +kernel) ⟨Nat.le_of_ble_eq_true rfl, Nat.le_of_ble_eq_true rfl⟩ rfl hl.1 rfl (Nat.le_of_ble_eq_true rfl) dX9_tool_27 ⟨Nat.zero_le _, Nat.zero_le _⟩ (fun H locs G => ?_)
  exact q_iret E G (by rfl) dX9_tool_30

set_option maxHeartbeats 4000000 in
set_option maxRecDepth 100000 in
theorem tool_tail {p : Program} {l : Launch} {e : Env} {R : Room} {s : State} {m : MethodId} {args : Array Value} {below : List Frame} {meth : Method} {c : Code} {H : Heap} {locs : List Loc} {Q : State → Prop} {D : va_G} {cy : Nat → ClassId} {sz : Nat} {ad : Nat → Nat → Nat} {n : Nat} {S : SS} {ls : Array Slot} {t : Nat} {x1 x2 b : Int32} {F : Int32 × SS} (E : En p s m args meth c cX9_tool 4 (some .int) RX9 D cy sz) (hR : 1 ≤ R.frames ∧ 21 ≤ R.locals) (hcs : 1 ≤ R.cells ∧ 4 ≤ R.slots) (ht : t < n) (hv : vp_in x1 10) (hF : F = if b = 0 then f_X9_done (uR S 1 0 x1.toNatClampNeg (some t)) 0 else f_X9_done (uR S 1 0 x1.toNatClampNeg (some t)) 1) (G : Gd D cy sz ad n S s.heap H locs) (hl : lv_has ls 4 [(3, .int b), (0, .ref (ad 0 0)), (1, .int x1), (2, .int x2)])
    (kk : ∀ (H : Heap) (locs : List Loc) (ls : Array Slot), Gd D cy sz ad n F.2 s.heap H locs → W p l e R s m args below meth c H locs 1 4 Q (F0 m 69 ls [.int F.1])) : W p l e R s m args below meth c H locs 1 4 Q (F0 m 55 ls [.ref (ad 16 t), .int x1, .ref (ad 1 0)]) := by
  obtain ⟨hx, hb, hrt, hml, hown, hw, hlk, hK, hF2, hsz⟩ := id E
  refine q_aast E G 1 0 c1 (fun _ => sa_1) ht hv dX9_tool_55 (fun H locs G => ?_)
  refine lv_aload_n hx hb dX9_tool_56 rfl (lv_at hl 1 rfl) ?_
  refine lv_iload_n hx hb dX9_tool_57 rfl (lv_at hl 0 rfl) ?_
  refine lv_if_eq (tgt := 65) hx hb dX9_tool_58 (by decide) (fun h1 => ?_) (fun h1 => ?_)
  · refine lv_iconst (v := 0) hx hb dX9_tool_65 (by decide) ?_
    refine q_cV (rest := []) E G 0 0 c0 sg_0 (C := RX9) (T := TX9) (N := 10) rfl (k_X9_done l D cy sz ad n (uR S 1 0 x1.toNatClampNeg (some t)) 0) tb_192 tb_194 tp_1 tb_1 tb_195 (nn := 1) (by decide +kernel) ⟨by have := hR.1; show 0 + 1 ≤ _; omega, by have := hR.2; show 8 + (2 + 11) + 0 ≤ _; omega⟩ rfl hl.1 rfl (Nat.le_of_ble_eq_true rfl) dX9_tool_66 hcs (fun H locs G => ?_)
    have e1 : F = f_X9_done (uR S 1 0 x1.toNatClampNeg (some t)) 0 := by rw [hF]; simp only [if_pos h1]
    rw [← e1] at G ⊢
    exact kk H locs ls G
  · refine lv_iconst (v := 1) hx hb dX9_tool_61 (by decide) ?_
    refine lv_goto (tgt := 66) hx hb dX9_tool_62 (by decide) ?_
    refine q_cV (rest := []) E G 0 0 c0 sg_0 (C := RX9) (T := TX9) (N := 10) rfl (k_X9_done l D cy sz ad n (uR S 1 0 x1.toNatClampNeg (some t)) 1) tb_192 tb_194 tp_1 tb_1 tb_195 (nn := 1) (by decide +kernel) ⟨by have := hR.1; show 0 + 1 ≤ _; omega, by have := hR.2; show 8 + (2 + 11) + 0 ≤ _; omega⟩ rfl hl.1 rfl (Nat.le_of_ble_eq_true rfl) dX9_tool_66 hcs (fun H locs G => ?_)
    have e1 : F = f_X9_done (uR S 1 0 x1.toNatClampNeg (some t)) 1 := by rw [hF]; simp only [if_neg h1]
    rw [← e1] at G ⊢
    exact kk H locs ls G

theorem q_cNT {p : Program} {l : Launch} {e : Env} {R : Room} {s : State} {m : MethodId} {args : Array Value} {below : List Frame} {meth : Method} {c : Code} {H : Heap} {locs : List Loc} {Q : State → Prop} {cc : ByteArray} {mL : Nat} {rt : Option FieldType} {pc : Nat} {ls : Array Slot} {st rest : List Value} {D : va_G} {cy : Nat → ClassId} {sz : Nat} {ad : Nat → Nat → Nat} {n : Nat} {S : SS} {x : Int32} (E : En p s m args meth c cc mL rt RX9 D cy sz) (G : Gd D cy sz ad n S s.heap H locs) (ok : ∀ f i j k, S.2 f i j = some k → k < n)
    (hR : 5 ≤ R.frames ∧ 92 ≤ R.locals) (hls : ls.size = mL) (hst : st = .int x :: rest) (hrest : (rest.map fun v => v.category).sum ≤ 8) (hdg : decode cc pc = .ok (.invokestatic 67, 3)) (hcs : 1 ≤ R.cells ∧ 4 ≤ R.slots)
    (kk : ∀ (q : Nat) (H1 : Heap) (locs1 : List Loc), Gd D cy sz (adU ad n q) (n + 1) (wI S 16 n (rT x)) s.heap H1 locs1 → W p l e R s m args below meth c H1 locs1 1 4 Q (F0 m (pc + 3) ls (.ref q :: rest))) : W p l e R s m args below meth c H locs 0 0 Q (F0 m pc ls st) := by
  obtain ⟨hx, hb, hr, hml, hown, hw, hlk, hK, hF, hsz⟩ := id E
  refine va_callr (va_runS (As := [.int x]) (rest := rest) ⟨hx, hb, hml, hown, hw⟩ (k_X9_newTool l D cy sz ad n S ok x) (cwS 1 hw (gX tb_126 (fun w hw => by simp only [List.mem_cons, List.not_mem_nil, or_false] at hw; rcases hw with rfl | rfl | rfl <;> first | exact tb_124 | exact tb_125 | exact tb_1)) rfl rfl rfl (by decide +kernel) ⟨by have := hR.1; show 4 + 1 ≤ _; omega, by have := hR.2; show 8 + (1 + 11) + 72 ≤ _; omega⟩) ⟨Pre.blind, q_pre E G _⟩ rfl rfl hls hst (lv_room hrest) hdg ⟨by simpa using hcs.1, by simpa using hcs.2⟩) G.2.2 (fun q _ h => h) (fun q h => h) (fun u ra t H1 locs1 ht hvm hp hB hz hk hS => ?_)
  exact kk ra H1 locs1 ⟨ht ▸ hB.1, hB.2, hS⟩
theorem q_ref {p : Program} {l : Launch} {e : Env} {R : Room} {s : State} {m : MethodId} {args : Array Value} {below : List Frame} {meth : Method} {c : Code} {H : Heap} {locs : List Loc} {cells slots : Nat} {Q : State → Prop} {pc : Nat} {ls : Array Slot} {st st' : List Value} (h : st = st') (k : W p l e R s m args below meth c H locs cells slots Q (F0 m pc ls st')) : W p l e R s m args below meth c H locs cells slots Q (F0 m pc ls st) := h ▸ k
def f_tool (S : SS) (n : Nat) (x1 x2 : Int32) : Int32 × SS := if (match S.2 1 0 x1.toNatClampNeg with | none => (0 : Int32) | some _ => 1) = 0 then f_X9_done (uR (wI S 16 n (rT x2)) 1 0 x1.toNatClampNeg (some n)) 0 else f_X9_done (uR (wI S 16 n (rT x2)) 1 0 x1.toNatClampNeg (some n)) 1

set_option maxHeartbeats 4000000 in
set_option maxRecDepth 100000 in
theorem k_X9_tool (l : Launch) (D : va_G) (cy : Nat → ClassId) (sz : Nat) (ad : Nat → Nat → Nat) (n : Nat) (S : SS) (ok : okC n S) (x1 x2 : Int32) (h1 : wi x1 10 = true) (h2 : wi x2 4 = true) : Met l yX9_tool (wsB yX9_tool cX9_tool 4 (some .int)) (Rm 5 92 1 4) (va_Pc [.ref (ad 0 0), .int x1, .int x2] (Pre D cy sz ad n S)) (va_Qi (fun r (_ : Nat) => r = (f_tool S n x1 x2).1) (fun q t => Po D cy sz (adU ad n q) (n + 1) (f_tool S n x1 x2).2 t) (fun q => sz ≤ q)) 1 4 (fun q => sz ≤ q) := by
  refine Met.enter (by decide) (Nat.le_of_ble_eq_true rfl) (fun p e s m args below meth c ls E G hl => ?_)
  have E : En p s m args meth c cX9_tool 4 (some .int) RX9 D cy sz := E
  obtain ⟨hx, hb, hrt, hml, hown, hw, hlk, hK, hF, hsz⟩ := id E
  have hl : lv_has ls 4 [(0, .ref (ad 0 0)), (1, .int x1), (2, .int x2)] := hl
  refine lv_iload_n hx hb dX9_tool_0 rfl (lv_at hl 1 rfl) ?_
  refine lv_bipush (v := 10) hx hb dX9_tool_1 (by decide) ?_
  have v1 : vp_in x1 10 := wi_in h1 (by decide) (by decide)
  refine q_cSp E G [] (k_X9_isWithin_t l D cy sz ad n S x1 10 h1) tb_117 tb_118 tb_1 tb_119 (nn := 2) (by decide +kernel) ⟨Nat.le_of_ble_eq_true rfl, Nat.le_of_ble_eq_true rfl⟩ rfl hl.1 rfl (Nat.le_of_ble_eq_true rfl) dX9_tool_3 ⟨Nat.zero_le _, Nat.zero_le _⟩ (fun H locs G => ?_)
  refine lv_if_ne (tgt := 16) hx hb dX9_tool_6 (by decide) (fun _ => ?_) (fun h => absurd h (by decide))
  refine lv_iload_n hx hb dX9_tool_16 rfl (lv_at hl 2 rfl) ?_
  refine lv_iconst (v := 4) hx hb dX9_tool_17 (by decide) ?_
  have v2 : vp_in x2 4 := wi_in h2 (by decide) (by decide)
  refine q_cSp E G [] (k_X9_isWithin_t l D cy sz ad n S x2 4 h2) tb_117 tb_118 tb_1 tb_119 (nn := 2) (by decide +kernel) ⟨Nat.le_of_ble_eq_true rfl, Nat.le_of_ble_eq_true rfl⟩ rfl hl.1 rfl (Nat.le_of_ble_eq_true rfl) dX9_tool_18 ⟨Nat.zero_le _, Nat.zero_le _⟩ (fun H locs G => ?_)
  refine lv_if_ne (tgt := 31) hx hb dX9_tool_21 (by decide) (fun _ => ?_) (fun h => absurd h (by decide))
  refine lv_aload_n hx hb dX9_tool_31 rfl (lv_at hl 0 rfl) ?_
  refine q_get (index := 11) (ref := "ToolRoom") E G inX9 0 0 c0 sg_0 rfl 0 (by decide) tb_82 (Or.inl rfl) rfl dX9_tool_32 ?_
  refine lv_iload_n hx hb dX9_tool_35 rfl (lv_at hl 1 rfl) ?_
  refine q_aaldT E G 1 0 c1 sa_1 v1 dX9_tool_36 (fun h3 => ?_) (fun t3 h3 => ?_)
  · refine lv_ifnullN (tgt := 44) hx hb dX9_tool_37 (by decide) ?_
    refine lv_iconst (v := 0) hx hb dX9_tool_44 (by decide) ?_
    refine lv_istore_n (lv' := [(3, .int 0), (0, .ref (ad 0 0)), (1, .int x1), (2, .int x2)]) hx hb dX9_tool_45 rfl hl (by decide) rfl (fun ls hl => ?_)
    refine lv_aload_n hx hb dX9_tool_46 rfl (lv_at hl 1 rfl) ?_
    refine q_get (index := 11) (ref := "ToolRoom") E G inX9 0 0 c0 sg_0 rfl 0 (by decide) tb_82 (Or.inl rfl) rfl dX9_tool_47 ?_
    refine lv_iload_n hx hb dX9_tool_50 rfl (lv_at hl 2 rfl) ?_
    refine lv_iload_n hx hb dX9_tool_51 rfl (lv_at hl 3 rfl) ?_
    refine q_cNT (rest := [.int x1, .ref (ad 1 0)]) E G ok.1 ⟨Nat.le_of_ble_eq_true rfl, Nat.le_of_ble_eq_true rfl⟩ hl.1 rfl (Nat.le_of_ble_eq_true rfl) dX9_tool_52 ⟨Nat.le_of_ble_eq_true rfl, Nat.le_of_ble_eq_true rfl⟩ (fun q H locs G => ?_)
    have hl : lv_has ls 4 [(3, .int 0), (0, .ref (adU ad n q 0 0)), (1, .int x1), (2, .int x2)] := by rw [adU_f (show (0 : Nat) ≠ 16 by decide)]; exact hl
    refine q_ref (st' := [.ref (adU ad n q 16 n), .int x1, .ref (adU ad n q 1 0)]) (by rw [adU_n, adU_f (show (1 : Nat) ≠ 16 by decide)]) ?_
    refine tool_tail (F := f_tool S n x1 x2) E ⟨Nat.le_of_ble_eq_true rfl, Nat.le_of_ble_eq_true rfl⟩ ⟨Nat.le_of_ble_eq_true rfl, Nat.le_of_ble_eq_true rfl⟩ (by omega) v1 (by unfold f_tool; simp only [h3]) G hl (fun H locs ls G => ?_)
    exact W.iret hx hb hrt (fun t ht hW => ⟨⟨_, q, rfl, rfl, by rw [ht]; exact G.1, G.2.1⟩, G.2.2.F ht⟩) G.2.2.2.2 dX9_tool_69 hlk
  · have kt3 : t3 < n := ok.1 _ _ _ _ h3
    refine lv_ifnull hx hb dX9_tool_37 ?_
    refine lv_iconst (v := 1) hx hb dX9_tool_40 (by decide) ?_
    refine lv_goto (tgt := 45) hx hb dX9_tool_41 (by decide) ?_
    refine lv_istore_n (lv' := [(3, .int 1), (0, .ref (ad 0 0)), (1, .int x1), (2, .int x2)]) hx hb dX9_tool_45 rfl hl (by decide) rfl (fun ls hl => ?_)
    refine lv_aload_n hx hb dX9_tool_46 rfl (lv_at hl 1 rfl) ?_
    refine q_get (index := 11) (ref := "ToolRoom") E G inX9 0 0 c0 sg_0 rfl 0 (by decide) tb_82 (Or.inl rfl) rfl dX9_tool_47 ?_
    refine lv_iload_n hx hb dX9_tool_50 rfl (lv_at hl 2 rfl) ?_
    refine lv_iload_n hx hb dX9_tool_51 rfl (lv_at hl 3 rfl) ?_
    refine q_cNT (rest := [.int x1, .ref (ad 1 0)]) E G ok.1 ⟨Nat.le_of_ble_eq_true rfl, Nat.le_of_ble_eq_true rfl⟩ hl.1 rfl (Nat.le_of_ble_eq_true rfl) dX9_tool_52 ⟨Nat.le_of_ble_eq_true rfl, Nat.le_of_ble_eq_true rfl⟩ (fun q H locs G => ?_)
    have hl : lv_has ls 4 [(3, .int 1), (0, .ref (adU ad n q 0 0)), (1, .int x1), (2, .int x2)] := by rw [adU_f (show (0 : Nat) ≠ 16 by decide)]; exact hl
    refine q_ref (st' := [.ref (adU ad n q 16 n), .int x1, .ref (adU ad n q 1 0)]) (by rw [adU_n, adU_f (show (1 : Nat) ≠ 16 by decide)]) ?_
    refine tool_tail (F := f_tool S n x1 x2) E ⟨Nat.le_of_ble_eq_true rfl, Nat.le_of_ble_eq_true rfl⟩ ⟨Nat.le_of_ble_eq_true rfl, Nat.le_of_ble_eq_true rfl⟩ (by omega) v1 (by unfold f_tool; simp only [h3]) G hl (fun H locs ls G => ?_)
    exact W.iret hx hb hrt (fun t ht hW => ⟨⟨_, q, rfl, rfl, by rw [ht]; exact G.1, G.2.1⟩, G.2.2.F ht⟩) G.2.2.2.2 dX9_tool_69 hlk

theorem okC_uI {n : Nat} {S : SS} (ok : okC n S) {f i k : Nat} {v : Int32} (h : f ≠ 8 ∧ f ≠ 10 ∧ f ≠ 12 ∧ f ≠ 14) : okC n (uI S f i k v) := by
  obtain ⟨a, b, c, d, e⟩ := ok
  refine ⟨a, fun t ht => ?_, fun t ht => ?_, fun t ht => ?_, fun t ht => ?_⟩
  · rw [uI_nf h.1.symm]; exact b t ht
  · rw [uI_nf h.2.1.symm]; exact c t ht
  · rw [uI_nf h.2.2.1.symm]; exact d t ht
  · rw [uI_nf h.2.2.2.symm]; exact e t ht
theorem okC_fw {n : Nat} {S : SS} (ok : okC n S) {t : Nat} {x : Int32} : okC n (f_work S t x).2 := by
  obtain ⟨a, b, c, d, e⟩ := ok
  refine ⟨by rw [fw_R]; exact a, fun t ht => ?_, fun t ht => ?_, fun t ht => ?_, fun t ht => ?_⟩
  · rw [fw_8 _ _ _ _ _ _ (by decide)]; exact b t ht
  · rw [fw_8 _ _ _ _ _ _ (by decide)]; exact c t ht
  · rw [fw_8 _ _ _ _ _ _ (by decide)]; exact d t ht
  · rw [fw_8 _ _ _ _ _ _ (by decide)]; exact e t ht
theorem sO_ok {n : Nat} {S : SS} (ok : okC n S) {t : Nat} {a b c : Int32} : okC n (f_X9_shiftOnce S t a b c).2 := by
  unfold f_X9_shiftOnce
  split
  · split
    · exact ok
    · split
      · exact okC_uI (okC_fw (okC_uI ok (by decide))) (by decide)
      · exact okC_fw (okC_uI ok (by decide))
  · exact ok
theorem sO_in {S : SS} {t : Nat} {a b c : Int32} : vp_in (f_X9_shiftOnce S t a b c).1 7 := by
  unfold f_X9_shiftOnce
  split
  · split
    · show vp_in 1 7; unfold vp_in; decide
    · split
      · exact pA_in
      · exact pA_in
  · show vp_in 2 7; unfold vp_in; decide
def shL (h f : Int32) (t : Nat) (a : Int32) : Nat → Nat → SS → Int32 × SS
  | 0, _, S => f_X9_done S a
  | r + 1, i, S => if (f_X9_shiftOnce S t (h + nI i) f (nI i)).1 = 0 then shL h f t a r (i + 1) (f_X9_shiftOnce S t (h + nI i) f (nI i)).2 else f_X9_fail (f_X9_shiftOnce S t (h + nI i) f (nI i)).2 (f_X9_shiftOnce S t (h + nI i) f (nI i)).1

set_option maxHeartbeats 4000000 in
set_option maxRecDepth 100000 in
theorem lp_X9_shift {p : Program} {l : Launch} {e : Env} {s : State} {m : MethodId} {args : Array Value} {below : List Frame} {meth : Method} {c : Code} {D : va_G} {cy : Nat → ClassId} {sz : Nat} {ad : Nat → Nat → Nat} {n : Nat} {t : Nat} (ht : t < 4) (x1 x3 x4 : Int32) {N : Nat} (hN : N ≤ 9) {F : Int32 × SS} (E : En p s m args meth c cX9_shift 8 (some .int) RX9 D cy sz) : ∀ (k i : Nat), i ≤ N → N + 1 ≤ i + k → ∀ (S : SS) (H : Heap) (locs : List Loc) (ls : Array Slot), okC n S → shL x1 x3 t (nI N) (N - i) i S = F → Gd D cy sz ad n S s.heap H locs → lv_has ls 8 [(6, .int (nI i)), (5, .ref (ad 8 t)), (0, .ref (ad 0 0)), (1, .int x1), (2, .int (nI N)), (3, .int x3), (4, .int x4)] → W p l e (Rm 3 70 0 0) s m args below meth c H locs 0 0 (MQ below (va_Qi (fun r u => (r, u) = F) (Po D cy sz ad n) (fun q => sz ≤ q)) args s 0 0 (fun q => sz ≤ q)) (F0 m 54 ls []) := by
  obtain ⟨hx, hb, hrt, hml, hown, hw, hlk, hK, hF2, hsz⟩ := id E
  intro k
  induction k with
  | zero => intro i g1 g2; exact absurd g2 (by omega)
  | succ k ih =>
    intro i g1 g2 S H locs ls ok hF G hl
    refine lv_iload hx hb dX9_shift_54 (lv_at hl 0 rfl) ?_
    refine lv_iload_n hx hb dX9_shift_56 rfl (lv_at hl 4 rfl) ?_
    refine lv_icmp_ge (tgt := 93) hx hb dX9_shift_57 (by decide) (fun h1 => ?_) (fun h1 => ?_)
    · have e1 : i = N := ge_eq (N := N) (by omega) g1 h1
      refine lv_aload_n hx hb dX9_shift_93 rfl (lv_at hl 2 rfl) ?_
      refine lv_iload_n hx hb dX9_shift_94 rfl (lv_at hl 4 rfl) ?_
      refine q_cV (rest := []) E G 0 0 c0 sg_0 (C := RX9) (T := TX9) (N := 10) rfl (k_X9_done l D cy sz ad n S (nI N)) tb_192 tb_194 tp_1 tb_1 tb_195 (nn := 1) (by decide +kernel) ⟨Nat.le_of_ble_eq_true rfl, Nat.le_of_ble_eq_true rfl⟩ rfl hl.1 rfl (Nat.le_of_ble_eq_true rfl) dX9_shift_95 ⟨Nat.zero_le _, Nat.zero_le _⟩ (fun H locs G => ?_)
      exact q_iret E G (by rw [← hF, show N - i = 0 by omega]; rfl) dX9_shift_98
    · have hlt : i < N := lt_of (N := N) (by omega) g1 h1
      refine lv_aload_n hx hb dX9_shift_60 rfl (lv_at hl 2 rfl) ?_
      refine lv_iload_n hx hb dX9_shift_61 rfl (lv_at hl 3 rfl) ?_
      refine lv_iload hx hb dX9_shift_62 (lv_at hl 0 rfl) ?_
      refine lv_iadd hx hb dX9_shift_64 ?_
      refine lv_iload_n hx hb dX9_shift_65 rfl (lv_at hl 5 rfl) ?_
      refine lv_aload hx hb dX9_shift_66 (lv_at hl 1 rfl) ?_
      refine lv_iload hx hb dX9_shift_68 (lv_at hl 0 rfl) ?_
      refine q_cV (rest := []) E G 0 0 c0 sg_0 (C := RX9) (T := TX9) (N := 10) rfl (k_X9_shiftOnce l D cy sz ad n S ok t ht (x1 + (nI i)) x3 (nI i)) tb_298 tb_300 tp_6 tb_1 tb_301 (nn := 4) (by decide +kernel) ⟨Nat.le_of_ble_eq_true rfl, Nat.le_of_ble_eq_true rfl⟩ rfl hl.1 rfl (Nat.le_of_ble_eq_true rfl) dX9_shift_70 ⟨Nat.zero_le _, Nat.zero_le _⟩ (fun H locs G => ?_)
      refine lv_istore (lv' := [(7, .int (f_X9_shiftOnce S t (x1 + (nI i)) x3 (nI i)).1), (6, .int (nI i)), (5, .ref (ad 8 t)), (0, .ref (ad 0 0)), (1, .int x1), (2, .int (nI N)), (3, .int x3), (4, .int x4)]) hx hb dX9_shift_73 hl (by decide) rfl (fun ls hl => ?_)
      refine lv_iload hx hb dX9_shift_75 (lv_at hl 0 rfl) ?_
      refine lv_if_eq (tgt := 87) hx hb dX9_shift_77 (by decide) (fun h2 => ?_) (fun h2 => ?_)
      · refine lv_iinc (v := (nI (i + 1))) (lv' := [(6, .int (nI (i + 1))), (7, .int (f_X9_shiftOnce S t (x1 + (nI i)) x3 (nI i)).1), (5, .ref (ad 8 t)), (0, .ref (ad 0 0)), (1, .int x1), (2, .int (nI N)), (3, .int x3), (4, .int x4)]) hx hb dX9_shift_87 hl (k := 1) rfl (nI_1 i) (by decide) rfl (fun ls hl => ?_)
        refine lv_goto (tgt := 54) hx hb dX9_shift_90 (by decide) ?_
        exact ih (i + 1) (by omega) (by omega) _ H locs ls (sO_ok ok) (by rw [← hF, show N - i = (N - (i + 1)) + 1 by omega]; conv => rhs; unfold shL; rw [if_pos h2]) G (lv_sub hl [0, 2, 3, 4, 5, 6, 7] rfl)
      · refine lv_aload_n hx hb dX9_shift_80 rfl (lv_at hl 3 rfl) ?_
        refine lv_iload hx hb dX9_shift_81 (lv_at hl 0 rfl) ?_
        refine q_cV (rest := []) E G 0 0 c0 sg_0 (C := RX9) (T := TX9) (N := 10) rfl (k_X9_fail l D cy sz ad n ((f_X9_shiftOnce S t (x1 + (nI i)) x3 (nI i)).2) ((f_X9_shiftOnce S t (x1 + (nI i)) x3 (nI i)).1) sO_in) tb_227 tb_229 tp_2 tb_1 tb_230 (nn := 1) (by decide +kernel) ⟨Nat.le_of_ble_eq_true rfl, Nat.le_of_ble_eq_true rfl⟩ rfl hl.1 rfl (Nat.le_of_ble_eq_true rfl) dX9_shift_83 ⟨Nat.zero_le _, Nat.zero_le _⟩ (fun H locs G => ?_)
        exact q_iret E G (by rw [← hF, show N - i = (N - (i + 1)) + 1 by omega]; unfold shL; rw [if_neg h2]) dX9_shift_86

theorem sh_in {x : Int32} (h1 : ¬ x < 0) (h2 : x ≤ 9) : vp_in x 10 := by
  have a := Int32.le_iff_toInt_le.mp (Int32.not_lt.mp h1)
  have b := Int32.le_iff_toInt_le.mp h2
  have e1 : (0 : Int32).toInt = 0 := by decide
  have e6 : (9 : Int32).toInt = 9 := by decide
  exact vp_in_iff.mpr ⟨by omega, by omega⟩

def f_X9_shift (S : SS) (x1 : Int32) (x2 : Int32) (x3 : Int32) (x4 : Int32) : Int32 × SS := if wi x1 10 = true then (if wi x4 4 = true then (if x2 < 0 then (f_X9_refuse S (-3)) else (if x2 ≤ 9 then shL x1 x3 x4.toNatClampNeg x2 x2.toNatClampNeg 0 S else (f_X9_refuse S (-3)))) else (f_X9_refuse S (-2))) else (f_X9_refuse S (-2))
set_option maxHeartbeats 4000000 in
set_option maxRecDepth 100000 in
theorem k_X9_shift (l : Launch) (D : va_G) (cy : Nat → ClassId) (sz : Nat) (ad : Nat → Nat → Nat) (n : Nat) (S : SS) (ok : okC n S) (x1 : Int32) (x2 : Int32) (x3 : Int32) (x4 : Int32) : CI l yX9_shift cX9_shift 8 (some .int) 3 70 [.ref (ad 0 0), .int x1, .int x2, .int x3, .int x4] D cy sz ad n S (f_X9_shift S x1 x2 x3 x4) := by
  refine Met.enter (by decide) (Nat.le_of_ble_eq_true rfl) (fun p e s m args below meth c ls E G hl => ?_)
  have E : En p s m args meth c cX9_shift 8 (some .int) RX9 D cy sz := E
  obtain ⟨hx, hb, hrt, hml, hown, hw, hlk, hK, hF, hsz⟩ := id E
  have hl : lv_has ls 8 [(0, .ref (ad 0 0)), (1, .int x1), (2, .int x2), (3, .int x3), (4, .int x4)] := hl
  refine lv_iload_n hx hb dX9_shift_0 rfl (lv_at hl 1 rfl) ?_
  refine lv_bipush (v := 10) hx hb dX9_shift_1 (by decide) ?_
  by_cases h1 : wi x1 10 = true
  · have v2 : vp_in x1 10 := wi_in h1 (by decide) (by decide)
    refine q_cSp E G [] (k_X9_isWithin_t l D cy sz ad n S x1 10 h1) tb_117 tb_118 tb_1 tb_119 (nn := 2) (by decide +kernel) ⟨Nat.le_of_ble_eq_true rfl, Nat.le_of_ble_eq_true rfl⟩ rfl hl.1 rfl (Nat.le_of_ble_eq_true rfl) dX9_shift_3 ⟨Nat.zero_le _, Nat.zero_le _⟩ (fun H locs G => ?_)
    refine lv_if_eq (tgt := 18) hx hb dX9_shift_6 (by decide) (fun h => absurd h (by decide)) (fun _ => ?_)
    refine lv_iload hx hb dX9_shift_9 (lv_at hl 4 rfl) ?_
    refine lv_iconst (v := 4) hx hb dX9_shift_11 (by decide) ?_
    by_cases h3 : wi x4 4 = true
    · have v4 : vp_in x4 4 := wi_in h3 (by decide) (by decide)
      refine q_cSp E G [] (k_X9_isWithin_t l D cy sz ad n S x4 4 h3) tb_117 tb_118 tb_1 tb_119 (nn := 2) (by decide +kernel) ⟨Nat.le_of_ble_eq_true rfl, Nat.le_of_ble_eq_true rfl⟩ rfl hl.1 rfl (Nat.le_of_ble_eq_true rfl) dX9_shift_12 ⟨Nat.zero_le _, Nat.zero_le _⟩ (fun H locs G => ?_)
      refine lv_if_ne (tgt := 25) hx hb dX9_shift_15 (by decide) (fun _ => ?_) (fun h => absurd h (by decide))
      refine lv_iload_n hx hb dX9_shift_25 rfl (lv_at hl 2 rfl) ?_
      refine lv_if_lt (tgt := 35) hx hb dX9_shift_26 (by decide) (fun h5 => ?_) (fun h5 => ?_)
      · refine lv_aload_n hx hb dX9_shift_35 rfl (lv_at hl 0 rfl) ?_
        refine lv_bipush (v := (-3)) hx hb dX9_shift_36 (by decide) ?_
        refine q_cV (rest := []) E G 0 0 c0 sg_0 (C := RX9) (T := TX9) (N := 10) rfl (k_X9_refuse l D cy sz ad n S (-3)) tb_120 tb_122 tp_0 tb_1 tb_123 (nn := 1) (by decide +kernel) ⟨Nat.le_of_ble_eq_true rfl, Nat.le_of_ble_eq_true rfl⟩ rfl hl.1 rfl (Nat.le_of_ble_eq_true rfl) dX9_shift_38 ⟨Nat.zero_le _, Nat.zero_le _⟩ (fun H locs G => ?_)
        exact q_iret E G (by unfold f_X9_shift; simp only [if_pos h1, if_pos h3, if_pos h5, pr_eta]) dX9_shift_41
      · refine lv_iload_n hx hb dX9_shift_29 rfl (lv_at hl 2 rfl) ?_
        refine lv_bipush (v := 9) hx hb dX9_shift_30 (by decide) ?_
        refine lv_icmp_le (tgt := 42) hx hb dX9_shift_32 (by decide) (fun h6 => ?_) (fun h6 => ?_)
        · refine lv_aload_n hx hb dX9_shift_42 rfl (lv_at hl 0 rfl) ?_
          refine q_get (index := 17) (ref := "ToolRoom") E G inX9 0 0 c0 sg_0 rfl 1 (by decide) tb_83 (Or.inl rfl) rfl dX9_shift_43 ?_
          refine lv_iload hx hb dX9_shift_46 (lv_at hl 4 rfl) ?_
          refine q_aald (C := "ToolRoom$Row") E G 2 0 c2 sa_2 3 rfl v4 dX9_shift_48 ?_
          refine lv_astore (lv' := [(5, .ref (ad 8 x4.toNatClampNeg)), (0, .ref (ad 0 0)), (1, .int x1), (2, .int x2), (3, .int x3), (4, .int x4)]) hx hb dX9_shift_49 hl (by decide) rfl (fun ls hl => ?_)
          refine lv_iconst (v := 0) hx hb dX9_shift_51 (by decide) ?_
          refine lv_istore (lv' := [(6, .int 0), (5, .ref (ad 8 x4.toNatClampNeg)), (0, .ref (ad 0 0)), (1, .int x1), (2, .int x2), (3, .int x3), (4, .int x4)]) hx hb dX9_shift_52 hl (by decide) rfl (fun ls hl => ?_)
          obtain ⟨N, hN, rfl⟩ := vp_in_of (sh_in h5 h6) (by decide)
          exact lp_X9_shift (vp_lt v4) x1 x3 x4 (by omega) E (N + 1) 0 (by omega) (by omega) S H locs ls ok (by unfold f_X9_shift; simp only [if_pos h1, if_pos h3, if_neg h5, if_pos h6]; rw [nI_clamp (by omega)]; rfl) G (lv_sub hl [0, 1, 2, 3, 4, 5, 6] rfl)
        · refine lv_aload_n hx hb dX9_shift_35 rfl (lv_at hl 0 rfl) ?_
          refine lv_bipush (v := (-3)) hx hb dX9_shift_36 (by decide) ?_
          refine q_cV (rest := []) E G 0 0 c0 sg_0 (C := RX9) (T := TX9) (N := 10) rfl (k_X9_refuse l D cy sz ad n S (-3)) tb_120 tb_122 tp_0 tb_1 tb_123 (nn := 1) (by decide +kernel) ⟨Nat.le_of_ble_eq_true rfl, Nat.le_of_ble_eq_true rfl⟩ rfl hl.1 rfl (Nat.le_of_ble_eq_true rfl) dX9_shift_38 ⟨Nat.zero_le _, Nat.zero_le _⟩ (fun H locs G => ?_)
          exact q_iret E G (by unfold f_X9_shift; simp only [if_pos h1, if_pos h3, if_neg h5, if_neg h6, pr_eta]) dX9_shift_41
    · refine q_cSp E G [] (k_X9_isWithin_f l D cy sz ad n S x4 4 h3) tb_117 tb_118 tb_1 tb_119 (nn := 2) (by decide +kernel) ⟨Nat.le_of_ble_eq_true rfl, Nat.le_of_ble_eq_true rfl⟩ rfl hl.1 rfl (Nat.le_of_ble_eq_true rfl) dX9_shift_12 ⟨Nat.zero_le _, Nat.zero_le _⟩ (fun H locs G => ?_)
      refine lv_if_ne (tgt := 25) hx hb dX9_shift_15 (by decide) (fun h => absurd h (by decide)) (fun _ => ?_)
      refine lv_aload_n hx hb dX9_shift_18 rfl (lv_at hl 0 rfl) ?_
      refine lv_bipush (v := (-2)) hx hb dX9_shift_19 (by decide) ?_
      refine q_cV (rest := []) E G 0 0 c0 sg_0 (C := RX9) (T := TX9) (N := 10) rfl (k_X9_refuse l D cy sz ad n S (-2)) tb_120 tb_122 tp_0 tb_1 tb_123 (nn := 1) (by decide +kernel) ⟨Nat.le_of_ble_eq_true rfl, Nat.le_of_ble_eq_true rfl⟩ rfl hl.1 rfl (Nat.le_of_ble_eq_true rfl) dX9_shift_21 ⟨Nat.zero_le _, Nat.zero_le _⟩ (fun H locs G => ?_)
      exact q_iret E G (by unfold f_X9_shift; simp only [if_pos h1, if_neg h3, pr_eta]) dX9_shift_24
  · refine q_cSp E G [] (k_X9_isWithin_f l D cy sz ad n S x1 10 h1) tb_117 tb_118 tb_1 tb_119 (nn := 2) (by decide +kernel) ⟨Nat.le_of_ble_eq_true rfl, Nat.le_of_ble_eq_true rfl⟩ rfl hl.1 rfl (Nat.le_of_ble_eq_true rfl) dX9_shift_3 ⟨Nat.zero_le _, Nat.zero_le _⟩ (fun H locs G => ?_)
    refine lv_if_eq (tgt := 18) hx hb dX9_shift_6 (by decide) (fun _ => ?_) (fun h => absurd h (by decide))
    refine lv_aload_n hx hb dX9_shift_18 rfl (lv_at hl 0 rfl) ?_
    refine lv_bipush (v := (-2)) hx hb dX9_shift_19 (by decide) ?_
    refine q_cV (rest := []) E G 0 0 c0 sg_0 (C := RX9) (T := TX9) (N := 10) rfl (k_X9_refuse l D cy sz ad n S (-2)) tb_120 tb_122 tp_0 tb_1 tb_123 (nn := 1) (by decide +kernel) ⟨Nat.le_of_ble_eq_true rfl, Nat.le_of_ble_eq_true rfl⟩ rfl hl.1 rfl (Nat.le_of_ble_eq_true rfl) dX9_shift_21 ⟨Nat.zero_le _, Nat.zero_le _⟩ (fun H locs G => ?_)
    exact q_iret E G (by unfold f_X9_shift; simp only [if_neg h1, pr_eta]) dX9_shift_24
