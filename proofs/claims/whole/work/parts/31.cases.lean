section LA
variable {p : Program} {l : Launch} {e : Env} {R : Room} {s : State} {m : MethodId} {args : Array Value} {below : List Frame} {meth : Method} {c : Code} {H : Heap} {locs : List Loc} {cells slots : Nat} {Q : State → Prop}
variable {cc : ByteArray} {pc : Nat} {ls : Array Slot} {rest : List Value} {b L i o1 o2 : Nat} {xs : Nat → Int32} {A : Nat → Prop}
/-- an int of the script is read -/
theorem l_arg (hx : p.tables.exec = Jvm.exec) (hb : c.code = cc) (hX : va_X b L xs s s.heap) (hbl : b < s.heap.size) (hS : va_S (fun q => s.heap.size ≤ q) s.heap H locs) (hi : i + 5 ≤ L) (hL : L ≤ 2560) (hl : lv_has ls 4 [(3, .int (nI i)), (2, .ref o2), (1, .ref o1), (0, .ref b)]) (j : Nat) (hj : j < 5) {kv : Int} (hv : Int32.ofInt kv = nI j)
    (d0 : decode cc pc = .ok (.aload_n 0, 1)) (d1 : decode cc (pc + 1) = .ok (.iload_n 3, 1)) (d2 : decode cc (pc + 1 + 1) = .ok (.iconst kv, 1)) (d3 : decode cc (pc + 1 + 1 + 1) = .ok (.iadd, 1)) (d4 : decode cc (pc + 1 + 1 + 1 + 1) = .ok (.iaload, 1))
    (kk : W p l e R s m args below meth c H locs cells slots Q (F0 m (pc + 5) ls (.int (xs (i + j)) :: rest))) : W p l e R s m args below meth c H locs cells slots Q (F0 m pc ls rest) := by
  refine lv_aload_n hx hb d0 rfl (lv_at hl 3 rfl) ?_
  refine lv_iload_n hx hb d1 rfl (lv_at hl 0 rfl) ?_
  refine lv_iconst (v := nI j) hx hb d2 hv ?_
  refine lv_iadd hx hb d3 ?_
  rw [nI_add]
  refine va_sld hx hb hX hbl (Nat.not_le.mpr hbl) hS (vp_in_nI (n := i + j) (by omega) (by omega)) d4 ?_
  rw [nI_clamp (by omega)]
  exact kk
end LA
/-- what stands behind a case of the switch -/
def LK (p : Program) (l : Launch) (e : Env) (s : State) (m : MethodId) (below : List Frame) (meth : Method) (c : Code) (Q : State → Prop) (D : va_G) (cy : Nat → ClassId) (b i : Nat) : Prop :=
  ∀ (ad : Nat → Nat → Nat) (n : Nat) (S : SS) (H : Heap) (locs : List Loc) (ls : Array Slot), Rel n S → 5 * n ≤ i + 5 → Gd D cy s.heap.size ad n S s.heap H locs → lv_has ls 4 [(3, .int (nI i)), (2, .ref (ad 17 0)), (1, .ref (ad 0 0)), (0, .ref b)] → W p l e room_1 s m #[Value.ref b] below meth c H locs (78 + i + 1) (3689 + 4 * i + 4) Q (F0 m 1114 ls [])
/-- what holds at a case of the switch -/
def LH (p : Program) (s : State) (m : MethodId) (meth : Method) (c : Code) (D : va_G) (cy : Nat → ClassId) (b L i : Nat) (xs : Nat → Int32) : Prop :=
  En p s m #[Value.ref b] meth c cL_law 4 ret RL D cy s.heap.size ∧ va_X b L xs s s.heap ∧ b < s.heap.size ∧ i + 5 ≤ L ∧ L ≤ 2560
section LC
variable {p : Program} {l : Launch} {e : Env} {s : State} {m : MethodId} {below : List Frame} {meth : Method} {c : Code} {H : Heap} {locs : List Loc} {cells slots : Nat} {Q : State → Prop}
variable {ls : Array Slot} {D : va_G} {cy : Nat → ClassId} {ad : Nat → Nat → Nat} {n : Nat} {S : SS} {b L i : Nat} {xs : Nat → Int32}

theorem lm_tool (C : LH p s m meth c D cy b L i xs) (G : Gd D cy s.heap.size ad n S s.heap H locs) (ok : okM S) {v : Int32} (hv : v = (f_X10_tool S (xs (i + 1)) (xs (i + 2))).1) (hR : Rel n (f_X10_tool S (xs (i + 1)) (xs (i + 2))).2) (hn : 5 * n ≤ i + 5) (hl : lv_has ls 4 [(3, .int (nI i)), (2, .ref (ad 17 0)), (1, .ref (ad 0 0)), (0, .ref b)]) (hc1 : cells ≤ 78 + i + 1) (hc2 : slots ≤ 3689 + 4 * i + 4) (kk : LK p l e s m below meth c Q D cy b i) : W p l e room_1 s m #[Value.ref b] below meth c H locs cells slots Q (F0 m 174 ls [.int v]) := by
  obtain ⟨E, hX, hbl, hi, hL⟩ := id C
  obtain ⟨hx, hb, hr, hml, hown, hw, hlk, hK, hF, hsz⟩ := id E
  refine lv_aload_n hx hb dL_law_174 rfl (lv_at hl 1 rfl) ?_
  refine l_arg hx hb hX hbl G.2.2 hi hL hl 1 (by decide) (by decide +kernel) dL_law_175 dL_law_176 dL_law_177 dL_law_178 dL_law_179 ?_
  refine l_arg hx hb hX hbl G.2.2 hi hL hl 2 (by decide) (by decide +kernel) dL_law_180 dL_law_181 dL_law_182 dL_law_183 dL_law_184 ?_
  refine q_cV (rest := [.int v]) E G 17 0 c17 sg_17 (C := RX10) (T := TX10) (N := 21) rfl (k_X10_tool l D cy s.heap.size ad n S ok (xs (i + 1)) (xs (i + 2))) tb_485 tb_486 tb_487 tb_6 tb_488 (nn := 2) (by decide +kernel) ⟨by decide, by decide⟩ rfl hl.1 rfl (Nat.le_of_ble_eq_true rfl) dL_law_185 ⟨by show cells ≤ 600000; omega, by show slots ≤ 7302250; omega⟩ (fun H locs G => ?_)
  refine lv_icmp_eq (tgt := 1114) hx hb dL_law_188 (by decide) (fun _ => ?_) (fun h => absurd hv h)
  exact W.widen hc1 hc2 (kk ad n _ H locs ls hR hn G hl)
theorem lc_tool (C : LH p s m meth c D cy b L i xs) (hn : 5 * n ≤ i) (h : Rel n S) (G : Gd D cy s.heap.size ad n S s.heap H locs) (hl : lv_has ls 4 [(3, .int (nI i)), (2, .ref (ad 17 0)), (1, .ref (ad 0 0)), (0, .ref b)]) (kk : LK p l e s m below meth c Q D cy b i) : W p l e room_1 s m #[Value.ref b] below meth c H locs (78 + i) (3689 + 4 * i) Q (F0 m 160 ls []) := by
  obtain ⟨E, hX, hbl, hi, hL⟩ := id C
  obtain ⟨hx, hb, hr, hml, hown, hw, hlk, hK, hF, hsz⟩ := id E
  have hn6 : n < 600 := by omega
  refine lv_aload_n hx hb dL_law_160 rfl (lv_at hl 2 rfl) ?_
  refine l_arg hx hb hX hbl G.2.2 hi hL hl 1 (by decide) (by decide +kernel) dL_law_161 dL_law_162 dL_law_163 dL_law_164 dL_law_165 ?_
  refine l_arg hx hb hX hbl G.2.2 hi hL hl 2 (by decide) (by decide +kernel) dL_law_166 dL_law_167 dL_law_168 dL_law_169 dL_law_170 ?_
  by_cases h1 : wi (xs (i + 1)) 10 = true
  · by_cases h2 : wi (xs (i + 2)) 4 = true
    · refine va_calli (va_runV (As := [.int (xs (i + 1)), .int (xs (i + 2))]) (rest := []) ⟨hx, hb, hml, hown, hw⟩ (k_X9_tool l D cy s.heap.size ad n S (rel_okC h.2) (xs (i + 1)) (xs (i + 2)) h1 h2) (cwV 2 hw (gX tb_116 (fun w hw => by simp only [List.mem_cons, List.not_mem_nil, or_false] at hw; rcases hw with rfl | rfl | rfl | rfl <;> first | exact tb_113 | exact tb_114 | exact tb_115 | exact tb_1)) rfl rfl rfl (by decide +kernel) ⟨by decide, by decide⟩) ⟨Pre.blind, q_recv E G 0 0 c0 sg_0 (q := (RX9, TX9, 10)) rfl, q_pre E G _⟩ rfl rfl hl.1 rfl (lv_room (Nat.le_of_ble_eq_true rfl)) dL_law_171 ⟨by show 78 + i + 1 ≤ 600000; omega, by show 3689 + 4 * i + 4 ≤ 7302250; omega⟩) G.2.2 (fun q _ h => h) (fun q h => h) (fun r q t H1 locs1 ht hvm hp hB hz hk hS => ?_)
      subst hp
      have hl2 : lv_has ls 4 [(3, .int (nI i)), (2, .ref (adU ad n q 17 0)), (1, .ref (adU ad n q 0 0)), (0, .ref b)] := by
        rw [adU_f (by decide), adU_f (by decide)]; exact hl
      exact lm_tool C (ad := adU ad n q) (n := n + 1) ⟨ht ▸ hB.1, hB.2, hS⟩ (Kp.toM (kp_tool S n (xs (i + 1)) (xs (i + 2))) (rel_okM h.2 hn6)) (sm_tool hn6 h (xs (i + 1)) (xs (i + 2)) h1 h2).1 (sm_tool hn6 h (xs (i + 1)) (xs (i + 2)) h1 h2).2 (by omega) hl2 (by omega) (by omega) kk
    · refine q_cV (rest := []) E G 0 0 c0 sg_0 (C := RX9) (T := TX9) (N := 10) rfl (k_X9_tool_b l D cy s.heap.size ad n S (xs (i + 1)) (xs (i + 2)) h1 h2) tb_113 tb_114 tb_115 tb_1 tb_116 (nn := 2) (by decide +kernel) ⟨by decide, by decide⟩ rfl hl.1 rfl (Nat.le_of_ble_eq_true rfl) dL_law_171 ⟨by show 78 + i ≤ 600000; omega, by show 3689 + 4 * i ≤ 7302250; omega⟩ (fun H locs G => ?_)
      exact lm_tool C G (Kp.toM (kp_refuse S (-3)) (rel_okM h.2 hn6)) (sm_tool_b h (xs (i + 1)) (xs (i + 2)) h1 h2).1 (sm_tool_b h (xs (i + 1)) (xs (i + 2)) h1 h2).2 (by omega) hl (by omega) (by omega) kk
  · refine q_cV (rest := []) E G 0 0 c0 sg_0 (C := RX9) (T := TX9) (N := 10) rfl (k_X9_tool_a l D cy s.heap.size ad n S (xs (i + 1)) (xs (i + 2)) h1) tb_113 tb_114 tb_115 tb_1 tb_116 (nn := 2) (by decide +kernel) ⟨by decide, by decide⟩ rfl hl.1 rfl (Nat.le_of_ble_eq_true rfl) dL_law_171 ⟨by show 78 + i ≤ 600000; omega, by show 3689 + 4 * i ≤ 7302250; omega⟩ (fun H locs G => ?_)
    exact lm_tool C G (Kp.toM (kp_refuse S (-2)) (rel_okM h.2 hn6)) (sm_tool_a h (xs (i + 1)) (xs (i + 2)) h1).1 (sm_tool_a h (xs (i + 1)) (xs (i + 2)) h1).2 (by omega) hl (by omega) (by omega) kk
theorem lm_hang (C : LH p s m meth c D cy b L i xs) (G : Gd D cy s.heap.size ad n S s.heap H locs) (ok : okM S) {v : Int32} (hv : v = (f_X10_hang S (xs (i + 1)) (xs (i + 2))).1) (hR : Rel n (f_X10_hang S (xs (i + 1)) (xs (i + 2))).2) (hn : 5 * n ≤ i + 5) (hl : lv_has ls 4 [(3, .int (nI i)), (2, .ref (ad 17 0)), (1, .ref (ad 0 0)), (0, .ref b)]) (hc1 : cells ≤ 78 + i + 1) (hc2 : slots ≤ 3689 + 4 * i + 4) (kk : LK p l e s m below meth c Q D cy b i) : W p l e room_1 s m #[Value.ref b] below meth c H locs cells slots Q (F0 m 207 ls [.int v]) := by
  obtain ⟨E, hX, hbl, hi, hL⟩ := id C
  obtain ⟨hx, hb, hr, hml, hown, hw, hlk, hK, hF, hsz⟩ := id E
  refine lv_aload_n hx hb dL_law_207 rfl (lv_at hl 1 rfl) ?_
  refine l_arg hx hb hX hbl G.2.2 hi hL hl 1 (by decide) (by decide +kernel) dL_law_208 dL_law_209 dL_law_210 dL_law_211 dL_law_212 ?_
  refine l_arg hx hb hX hbl G.2.2 hi hL hl 2 (by decide) (by decide +kernel) dL_law_213 dL_law_214 dL_law_215 dL_law_216 dL_law_217 ?_
  refine q_cV (rest := [.int v]) E G 17 0 c17 sg_17 (C := RX10) (T := TX10) (N := 21) rfl (k_X10_hang l D cy s.heap.size ad n S ok (xs (i + 1)) (xs (i + 2))) tb_500 tb_501 tb_502 tb_6 tb_503 (nn := 2) (by decide +kernel) ⟨by decide, by decide⟩ rfl hl.1 rfl (Nat.le_of_ble_eq_true rfl) dL_law_218 ⟨by show cells ≤ 600000; omega, by show slots ≤ 7302250; omega⟩ (fun H locs G => ?_)
  refine lv_icmp_eq (tgt := 1114) hx hb dL_law_221 (by decide) (fun _ => ?_) (fun h => absurd hv h)
  exact W.widen hc1 hc2 (kk ad n _ H locs ls hR hn G hl)
theorem lc_hang (C : LH p s m meth c D cy b L i xs) (hn : 5 * n ≤ i) (h : Rel n S) (G : Gd D cy s.heap.size ad n S s.heap H locs) (hl : lv_has ls 4 [(3, .int (nI i)), (2, .ref (ad 17 0)), (1, .ref (ad 0 0)), (0, .ref b)]) (kk : LK p l e s m below meth c Q D cy b i) : W p l e room_1 s m #[Value.ref b] below meth c H locs (78 + i) (3689 + 4 * i) Q (F0 m 193 ls []) := by
  obtain ⟨E, hX, hbl, hi, hL⟩ := id C
  obtain ⟨hx, hb, hr, hml, hown, hw, hlk, hK, hF, hsz⟩ := id E
  have hn6 : n < 600 := by omega
  refine lv_aload_n hx hb dL_law_193 rfl (lv_at hl 2 rfl) ?_
  refine l_arg hx hb hX hbl G.2.2 hi hL hl 1 (by decide) (by decide +kernel) dL_law_194 dL_law_195 dL_law_196 dL_law_197 dL_law_198 ?_
  refine l_arg hx hb hX hbl G.2.2 hi hL hl 2 (by decide) (by decide +kernel) dL_law_199 dL_law_200 dL_law_201 dL_law_202 dL_law_203 ?_
  refine q_cV (rest := []) E G 0 0 c0 sg_0 (C := RX9) (T := TX9) (N := 10) rfl (k_X9_hang l D cy s.heap.size ad n S (rel_okC h.2) (xs (i + 1)) (xs (i + 2))) tb_196 tb_197 tb_198 tb_1 tb_199 (nn := 2) (by decide +kernel) ⟨by decide, by decide⟩ rfl hl.1 rfl (Nat.le_of_ble_eq_true rfl) dL_law_204 ⟨by show 78 + i ≤ 600000; omega, by show 3689 + 4 * i ≤ 7302250; omega⟩ (fun H locs G => ?_)
  exact lm_hang C G (Kp.toM (kq_hang S (xs (i + 1)) (xs (i + 2))) (rel_okM h.2 hn6)) (sm_hang hn6 h (xs (i + 1)) (xs (i + 2))).1 (sm_hang hn6 h (xs (i + 1)) (xs (i + 2))).2 (by omega) hl (by omega) (by omega) kk
theorem lm_unhang (C : LH p s m meth c D cy b L i xs) (G : Gd D cy s.heap.size ad n S s.heap H locs) (ok : okM S) {v : Int32} (hv : v = (f_X10_unhang S (xs (i + 1))).1) (hR : Rel n (f_X10_unhang S (xs (i + 1))).2) (hn : 5 * n ≤ i + 5) (hl : lv_has ls 4 [(3, .int (nI i)), (2, .ref (ad 17 0)), (1, .ref (ad 0 0)), (0, .ref b)]) (hc1 : cells ≤ 78 + i + 1) (hc2 : slots ≤ 3689 + 4 * i + 4) (kk : LK p l e s m below meth c Q D cy b i) : W p l e room_1 s m #[Value.ref b] below meth c H locs cells slots Q (F0 m 235 ls [.int v]) := by
  obtain ⟨E, hX, hbl, hi, hL⟩ := id C
  obtain ⟨hx, hb, hr, hml, hown, hw, hlk, hK, hF, hsz⟩ := id E
  refine lv_aload_n hx hb dL_law_235 rfl (lv_at hl 1 rfl) ?_
  refine l_arg hx hb hX hbl G.2.2 hi hL hl 1 (by decide) (by decide +kernel) dL_law_236 dL_law_237 dL_law_238 dL_law_239 dL_law_240 ?_
  refine q_cV (rest := [.int v]) E G 17 0 c17 sg_17 (C := RX10) (T := TX10) (N := 21) rfl (k_X10_unhang l D cy s.heap.size ad n S ok (xs (i + 1))) tb_504 tb_505 tb_506 tb_6 tb_507 (nn := 1) (by decide +kernel) ⟨by decide, by decide⟩ rfl hl.1 rfl (Nat.le_of_ble_eq_true rfl) dL_law_241 ⟨by show cells ≤ 600000; omega, by show slots ≤ 7302250; omega⟩ (fun H locs G => ?_)
  refine lv_icmp_eq (tgt := 1114) hx hb dL_law_244 (by decide) (fun _ => ?_) (fun h => absurd hv h)
  exact W.widen hc1 hc2 (kk ad n _ H locs ls hR hn G hl)
theorem lc_unhang (C : LH p s m meth c D cy b L i xs) (hn : 5 * n ≤ i) (h : Rel n S) (G : Gd D cy s.heap.size ad n S s.heap H locs) (hl : lv_has ls 4 [(3, .int (nI i)), (2, .ref (ad 17 0)), (1, .ref (ad 0 0)), (0, .ref b)]) (kk : LK p l e s m below meth c Q D cy b i) : W p l e room_1 s m #[Value.ref b] below meth c H locs (78 + i) (3689 + 4 * i) Q (F0 m 226 ls []) := by
  obtain ⟨E, hX, hbl, hi, hL⟩ := id C
  obtain ⟨hx, hb, hr, hml, hown, hw, hlk, hK, hF, hsz⟩ := id E
  have hn6 : n < 600 := by omega
  refine lv_aload_n hx hb dL_law_226 rfl (lv_at hl 2 rfl) ?_
  refine l_arg hx hb hX hbl G.2.2 hi hL hl 1 (by decide) (by decide +kernel) dL_law_227 dL_law_228 dL_law_229 dL_law_230 dL_law_231 ?_
  refine q_cV (rest := []) E G 0 0 c0 sg_0 (C := RX9) (T := TX9) (N := 10) rfl (k_X9_unhang l D cy s.heap.size ad n S (rel_okC h.2) (xs (i + 1))) tb_200 tb_201 tb_202 tb_1 tb_203 (nn := 1) (by decide +kernel) ⟨by decide, by decide⟩ rfl hl.1 rfl (Nat.le_of_ble_eq_true rfl) dL_law_232 ⟨by show 78 + i ≤ 600000; omega, by show 3689 + 4 * i ≤ 7302250; omega⟩ (fun H locs G => ?_)
  exact lm_unhang C G (Kp.toM (kq_unhang S (xs (i + 1))) (rel_okM h.2 hn6)) (sm_unhang hn6 h (xs (i + 1))).1 (sm_unhang hn6 h (xs (i + 1))).2 (by omega) hl (by omega) (by omega) kk
theorem lm_kind (C : LH p s m meth c D cy b L i xs) (G : Gd D cy s.heap.size ad n S s.heap H locs) (ok : okM S) {v : Int32} (hv : v = (f_X10_kind S (xs (i + 1))).1) (hR : Rel n (f_X10_kind S (xs (i + 1))).2) (hn : 5 * n ≤ i + 5) (hl : lv_has ls 4 [(3, .int (nI i)), (2, .ref (ad 17 0)), (1, .ref (ad 0 0)), (0, .ref b)]) (hc1 : cells ≤ 78 + i + 1) (hc2 : slots ≤ 3689 + 4 * i + 4) (kk : LK p l e s m below meth c Q D cy b i) : W p l e room_1 s m #[Value.ref b] below meth c H locs cells slots Q (F0 m 258 ls [.int v]) := by
  obtain ⟨E, hX, hbl, hi, hL⟩ := id C
  obtain ⟨hx, hb, hr, hml, hown, hw, hlk, hK, hF, hsz⟩ := id E
  refine lv_aload_n hx hb dL_law_258 rfl (lv_at hl 1 rfl) ?_
  refine l_arg hx hb hX hbl G.2.2 hi hL hl 1 (by decide) (by decide +kernel) dL_law_259 dL_law_260 dL_law_261 dL_law_262 dL_law_263 ?_
  refine q_cV (rest := [.int v]) E G 17 0 c17 sg_17 (C := RX10) (T := TX10) (N := 21) rfl (k_X10_kind l D cy s.heap.size ad n S ok (xs (i + 1))) tb_508 tb_509 tb_510 tb_6 tb_511 (nn := 1) (by decide +kernel) ⟨by decide, by decide⟩ rfl hl.1 rfl (Nat.le_of_ble_eq_true rfl) dL_law_264 ⟨by show cells ≤ 600000; omega, by show slots ≤ 7302250; omega⟩ (fun H locs G => ?_)
  refine lv_icmp_eq (tgt := 1114) hx hb dL_law_267 (by decide) (fun _ => ?_) (fun h => absurd hv h)
  exact W.widen hc1 hc2 (kk ad n _ H locs ls hR hn G hl)
theorem lc_kind (C : LH p s m meth c D cy b L i xs) (hn : 5 * n ≤ i) (h : Rel n S) (G : Gd D cy s.heap.size ad n S s.heap H locs) (hl : lv_has ls 4 [(3, .int (nI i)), (2, .ref (ad 17 0)), (1, .ref (ad 0 0)), (0, .ref b)]) (kk : LK p l e s m below meth c Q D cy b i) : W p l e room_1 s m #[Value.ref b] below meth c H locs (78 + i) (3689 + 4 * i) Q (F0 m 249 ls []) := by
  obtain ⟨E, hX, hbl, hi, hL⟩ := id C
  obtain ⟨hx, hb, hr, hml, hown, hw, hlk, hK, hF, hsz⟩ := id E
  have hn6 : n < 600 := by omega
  refine lv_aload_n hx hb dL_law_249 rfl (lv_at hl 2 rfl) ?_
  refine l_arg hx hb hX hbl G.2.2 hi hL hl 1 (by decide) (by decide +kernel) dL_law_250 dL_law_251 dL_law_252 dL_law_253 dL_law_254 ?_
  refine q_cV (rest := []) E G 0 0 c0 sg_0 (C := RX9) (T := TX9) (N := 10) rfl (k_X9_kind l D cy s.heap.size ad n S (rel_okC h.2) (xs (i + 1))) tb_204 tb_205 tb_206 tb_1 tb_207 (nn := 1) (by decide +kernel) ⟨by decide, by decide⟩ rfl hl.1 rfl (Nat.le_of_ble_eq_true rfl) dL_law_255 ⟨by show 78 + i ≤ 600000; omega, by show 3689 + 4 * i ≤ 7302250; omega⟩ (fun H locs G => ?_)
  exact lm_kind C G (Kp.toM (kq_kind S (xs (i + 1))) (rel_okM h.2 hn6)) (sm_kind hn6 h (xs (i + 1))).1 (sm_kind hn6 h (xs (i + 1))).2 (by omega) hl (by omega) (by omega) kk
theorem lm_card (C : LH p s m meth c D cy b L i xs) (G : Gd D cy s.heap.size ad n S s.heap H locs) (ok : okM S) {v : Int32} (hv : v = (f_X10_card S (xs (i + 1)) (xs (i + 2))).1) (hR : Rel n (f_X10_card S (xs (i + 1)) (xs (i + 2))).2) (hn : 5 * n ≤ i + 5) (hl : lv_has ls 4 [(3, .int (nI i)), (2, .ref (ad 17 0)), (1, .ref (ad 0 0)), (0, .ref b)]) (hc1 : cells ≤ 78 + i + 1) (hc2 : slots ≤ 3689 + 4 * i + 4) (kk : LK p l e s m below meth c Q D cy b i) : W p l e room_1 s m #[Value.ref b] below meth c H locs cells slots Q (F0 m 286 ls [.int v]) := by
  obtain ⟨E, hX, hbl, hi, hL⟩ := id C
  obtain ⟨hx, hb, hr, hml, hown, hw, hlk, hK, hF, hsz⟩ := id E
  refine lv_aload_n hx hb dL_law_286 rfl (lv_at hl 1 rfl) ?_
  refine l_arg hx hb hX hbl G.2.2 hi hL hl 1 (by decide) (by decide +kernel) dL_law_287 dL_law_288 dL_law_289 dL_law_290 dL_law_291 ?_
  refine l_arg hx hb hX hbl G.2.2 hi hL hl 2 (by decide) (by decide +kernel) dL_law_292 dL_law_293 dL_law_294 dL_law_295 dL_law_296 ?_
  refine q_cV (rest := [.int v]) E G 17 0 c17 sg_17 (C := RX10) (T := TX10) (N := 21) rfl (k_X10_card l D cy s.heap.size ad n S ok (xs (i + 1)) (xs (i + 2))) tb_512 tb_513 tb_514 tb_6 tb_515 (nn := 2) (by decide +kernel) ⟨by decide, by decide⟩ rfl hl.1 rfl (Nat.le_of_ble_eq_true rfl) dL_law_297 ⟨by show cells ≤ 600000; omega, by show slots ≤ 7302250; omega⟩ (fun H locs G => ?_)
  refine lv_icmp_eq (tgt := 1114) hx hb dL_law_300 (by decide) (fun _ => ?_) (fun h => absurd hv h)
  exact W.widen hc1 hc2 (kk ad n _ H locs ls hR hn G hl)
theorem lc_card (C : LH p s m meth c D cy b L i xs) (hn : 5 * n ≤ i) (h : Rel n S) (G : Gd D cy s.heap.size ad n S s.heap H locs) (hl : lv_has ls 4 [(3, .int (nI i)), (2, .ref (ad 17 0)), (1, .ref (ad 0 0)), (0, .ref b)]) (kk : LK p l e s m below meth c Q D cy b i) : W p l e room_1 s m #[Value.ref b] below meth c H locs (78 + i) (3689 + 4 * i) Q (F0 m 272 ls []) := by
  obtain ⟨E, hX, hbl, hi, hL⟩ := id C
  obtain ⟨hx, hb, hr, hml, hown, hw, hlk, hK, hF, hsz⟩ := id E
  have hn6 : n < 600 := by omega
  refine lv_aload_n hx hb dL_law_272 rfl (lv_at hl 2 rfl) ?_
  refine l_arg hx hb hX hbl G.2.2 hi hL hl 1 (by decide) (by decide +kernel) dL_law_273 dL_law_274 dL_law_275 dL_law_276 dL_law_277 ?_
  refine l_arg hx hb hX hbl G.2.2 hi hL hl 2 (by decide) (by decide +kernel) dL_law_278 dL_law_279 dL_law_280 dL_law_281 dL_law_282 ?_
  refine q_cV (rest := []) E G 0 0 c0 sg_0 (C := RX9) (T := TX9) (N := 10) rfl (k_X9_card l D cy s.heap.size ad n S (rel_okC h.2) (xs (i + 1)) (xs (i + 2))) tb_223 tb_224 tb_225 tb_1 tb_226 (nn := 2) (by decide +kernel) ⟨by decide, by decide⟩ rfl hl.1 rfl (Nat.le_of_ble_eq_true rfl) dL_law_283 ⟨by show 78 + i ≤ 600000; omega, by show 3689 + 4 * i ≤ 7302250; omega⟩ (fun H locs G => ?_)
  exact lm_card C G (Kp.toM (kq_card S (xs (i + 1)) (xs (i + 2))) (rel_okM h.2 hn6)) (sm_card hn6 h (xs (i + 1)) (xs (i + 2))).1 (sm_card hn6 h (xs (i + 1)) (xs (i + 2))).2 (by omega) hl (by omega) (by omega) kk
theorem lm_uncard (C : LH p s m meth c D cy b L i xs) (G : Gd D cy s.heap.size ad n S s.heap H locs) (ok : okM S) {v : Int32} (hv : v = (f_X10_uncard S (xs (i + 1))).1) (hR : Rel n (f_X10_uncard S (xs (i + 1))).2) (hn : 5 * n ≤ i + 5) (hl : lv_has ls 4 [(3, .int (nI i)), (2, .ref (ad 17 0)), (1, .ref (ad 0 0)), (0, .ref b)]) (hc1 : cells ≤ 78 + i + 1) (hc2 : slots ≤ 3689 + 4 * i + 4) (kk : LK p l e s m below meth c Q D cy b i) : W p l e room_1 s m #[Value.ref b] below meth c H locs cells slots Q (F0 m 314 ls [.int v]) := by
  obtain ⟨E, hX, hbl, hi, hL⟩ := id C
  obtain ⟨hx, hb, hr, hml, hown, hw, hlk, hK, hF, hsz⟩ := id E
  refine lv_aload_n hx hb dL_law_314 rfl (lv_at hl 1 rfl) ?_
  refine l_arg hx hb hX hbl G.2.2 hi hL hl 1 (by decide) (by decide +kernel) dL_law_315 dL_law_316 dL_law_317 dL_law_318 dL_law_319 ?_
  refine q_cV (rest := [.int v]) E G 17 0 c17 sg_17 (C := RX10) (T := TX10) (N := 21) rfl (k_X10_uncard l D cy s.heap.size ad n S ok (xs (i + 1))) tb_520 tb_521 tb_522 tb_6 tb_523 (nn := 1) (by decide +kernel) ⟨by decide, by decide⟩ rfl hl.1 rfl (Nat.le_of_ble_eq_true rfl) dL_law_320 ⟨by show cells ≤ 600000; omega, by show slots ≤ 7302250; omega⟩ (fun H locs G => ?_)
  refine lv_icmp_eq (tgt := 1114) hx hb dL_law_323 (by decide) (fun _ => ?_) (fun h => absurd hv h)
  exact W.widen hc1 hc2 (kk ad n _ H locs ls hR hn G hl)
theorem lc_uncard (C : LH p s m meth c D cy b L i xs) (hn : 5 * n ≤ i) (h : Rel n S) (G : Gd D cy s.heap.size ad n S s.heap H locs) (hl : lv_has ls 4 [(3, .int (nI i)), (2, .ref (ad 17 0)), (1, .ref (ad 0 0)), (0, .ref b)]) (kk : LK p l e s m below meth c Q D cy b i) : W p l e room_1 s m #[Value.ref b] below meth c H locs (78 + i) (3689 + 4 * i) Q (F0 m 305 ls []) := by
  obtain ⟨E, hX, hbl, hi, hL⟩ := id C
  obtain ⟨hx, hb, hr, hml, hown, hw, hlk, hK, hF, hsz⟩ := id E
  have hn6 : n < 600 := by omega
  refine lv_aload_n hx hb dL_law_305 rfl (lv_at hl 2 rfl) ?_
  refine l_arg hx hb hX hbl G.2.2 hi hL hl 1 (by decide) (by decide +kernel) dL_law_306 dL_law_307 dL_law_308 dL_law_309 dL_law_310 ?_
  refine q_cV (rest := []) E G 0 0 c0 sg_0 (C := RX9) (T := TX9) (N := 10) rfl (k_X9_uncard l D cy s.heap.size ad n S (rel_okC h.2) (xs (i + 1))) tb_231 tb_232 tb_233 tb_1 tb_234 (nn := 1) (by decide +kernel) ⟨by decide, by decide⟩ rfl hl.1 rfl (Nat.le_of_ble_eq_true rfl) dL_law_311 ⟨by show 78 + i ≤ 600000; omega, by show 3689 + 4 * i ≤ 7302250; omega⟩ (fun H locs G => ?_)
  exact lm_uncard C G (Kp.toM (kq_uncard S (xs (i + 1))) (rel_okM h.2 hn6)) (sm_uncard hn6 h (xs (i + 1))).1 (sm_uncard hn6 h (xs (i + 1))).2 (by omega) hl (by omega) (by omega) kk
theorem lm_rename (C : LH p s m meth c D cy b L i xs) (G : Gd D cy s.heap.size ad n S s.heap H locs) (ok : okM S) {v : Int32} (hv : v = (f_X10_rename S (xs (i + 1)) (xs (i + 2))).1) (hR : Rel n (f_X10_rename S (xs (i + 1)) (xs (i + 2))).2) (hn : 5 * n ≤ i + 5) (hl : lv_has ls 4 [(3, .int (nI i)), (2, .ref (ad 17 0)), (1, .ref (ad 0 0)), (0, .ref b)]) (hc1 : cells ≤ 78 + i + 1) (hc2 : slots ≤ 3689 + 4 * i + 4) (kk : LK p l e s m below meth c Q D cy b i) : W p l e room_1 s m #[Value.ref b] below meth c H locs cells slots Q (F0 m 342 ls [.int v]) := by
  obtain ⟨E, hX, hbl, hi, hL⟩ := id C
  obtain ⟨hx, hb, hr, hml, hown, hw, hlk, hK, hF, hsz⟩ := id E
  refine lv_aload_n hx hb dL_law_342 rfl (lv_at hl 1 rfl) ?_
  refine l_arg hx hb hX hbl G.2.2 hi hL hl 1 (by decide) (by decide +kernel) dL_law_343 dL_law_344 dL_law_345 dL_law_346 dL_law_347 ?_
  refine l_arg hx hb hX hbl G.2.2 hi hL hl 2 (by decide) (by decide +kernel) dL_law_348 dL_law_349 dL_law_350 dL_law_351 dL_law_352 ?_
  refine q_cV (rest := [.int v]) E G 17 0 c17 sg_17 (C := RX10) (T := TX10) (N := 21) rfl (k_X10_rename l D cy s.heap.size ad n S ok (xs (i + 1)) (xs (i + 2))) tb_524 tb_525 tb_526 tb_6 tb_527 (nn := 2) (by decide +kernel) ⟨by decide, by decide⟩ rfl hl.1 rfl (Nat.le_of_ble_eq_true rfl) dL_law_353 ⟨by show cells ≤ 600000; omega, by show slots ≤ 7302250; omega⟩ (fun H locs G => ?_)
  refine lv_icmp_eq (tgt := 1114) hx hb dL_law_356 (by decide) (fun _ => ?_) (fun h => absurd hv h)
  exact W.widen hc1 hc2 (kk ad n _ H locs ls hR hn G hl)
theorem lc_rename (C : LH p s m meth c D cy b L i xs) (hn : 5 * n ≤ i) (h : Rel n S) (G : Gd D cy s.heap.size ad n S s.heap H locs) (hl : lv_has ls 4 [(3, .int (nI i)), (2, .ref (ad 17 0)), (1, .ref (ad 0 0)), (0, .ref b)]) (kk : LK p l e s m below meth c Q D cy b i) : W p l e room_1 s m #[Value.ref b] below meth c H locs (78 + i) (3689 + 4 * i) Q (F0 m 328 ls []) := by
  obtain ⟨E, hX, hbl, hi, hL⟩ := id C
  obtain ⟨hx, hb, hr, hml, hown, hw, hlk, hK, hF, hsz⟩ := id E
  have hn6 : n < 600 := by omega
  refine lv_aload_n hx hb dL_law_328 rfl (lv_at hl 2 rfl) ?_
  refine l_arg hx hb hX hbl G.2.2 hi hL hl 1 (by decide) (by decide +kernel) dL_law_329 dL_law_330 dL_law_331 dL_law_332 dL_law_333 ?_
  refine l_arg hx hb hX hbl G.2.2 hi hL hl 2 (by decide) (by decide +kernel) dL_law_334 dL_law_335 dL_law_336 dL_law_337 dL_law_338 ?_
  refine q_cV (rest := []) E G 0 0 c0 sg_0 (C := RX9) (T := TX9) (N := 10) rfl (k_X9_rename l D cy s.heap.size ad n S (rel_okC h.2) (xs (i + 1)) (xs (i + 2))) tb_235 tb_236 tb_237 tb_1 tb_238 (nn := 2) (by decide +kernel) ⟨by decide, by decide⟩ rfl hl.1 rfl (Nat.le_of_ble_eq_true rfl) dL_law_339 ⟨by show 78 + i ≤ 600000; omega, by show 3689 + 4 * i ≤ 7302250; omega⟩ (fun H locs G => ?_)
  exact lm_rename C G (Kp.toM (kq_rename S (xs (i + 1)) (xs (i + 2))) (rel_okM h.2 hn6)) (sm_rename hn6 h (xs (i + 1)) (xs (i + 2))).1 (sm_rename hn6 h (xs (i + 1)) (xs (i + 2))).2 (by omega) hl (by omega) (by omega) kk
theorem lm_of (C : LH p s m meth c D cy b L i xs) (G : Gd D cy s.heap.size ad n S s.heap H locs) (ok : okM S) {v : Int32} (hv : v = (f_X10_of S (xs (i + 1)) (xs (i + 2))).1) (hR : Rel n (f_X10_of S (xs (i + 1)) (xs (i + 2))).2) (hn : 5 * n ≤ i + 5) (hl : lv_has ls 4 [(3, .int (nI i)), (2, .ref (ad 17 0)), (1, .ref (ad 0 0)), (0, .ref b)]) (hc1 : cells ≤ 78 + i + 1) (hc2 : slots ≤ 3689 + 4 * i + 4) (kk : LK p l e s m below meth c Q D cy b i) : W p l e room_1 s m #[Value.ref b] below meth c H locs cells slots Q (F0 m 375 ls [.int v]) := by
  obtain ⟨E, hX, hbl, hi, hL⟩ := id C
  obtain ⟨hx, hb, hr, hml, hown, hw, hlk, hK, hF, hsz⟩ := id E
  refine lv_aload_n hx hb dL_law_375 rfl (lv_at hl 1 rfl) ?_
  refine l_arg hx hb hX hbl G.2.2 hi hL hl 1 (by decide) (by decide +kernel) dL_law_376 dL_law_377 dL_law_378 dL_law_379 dL_law_380 ?_
  refine l_arg hx hb hX hbl G.2.2 hi hL hl 2 (by decide) (by decide +kernel) dL_law_381 dL_law_382 dL_law_383 dL_law_384 dL_law_385 ?_
  refine q_cV (rest := [.int v]) E G 17 0 c17 sg_17 (C := RX10) (T := TX10) (N := 21) rfl (k_X10_of l D cy s.heap.size ad n S ok (xs (i + 1)) (xs (i + 2))) tb_528 tb_529 tb_530 tb_6 tb_531 (nn := 2) (by decide +kernel) ⟨by decide, by decide⟩ rfl hl.1 rfl (Nat.le_of_ble_eq_true rfl) dL_law_386 ⟨by show cells ≤ 600000; omega, by show slots ≤ 7302250; omega⟩ (fun H locs G => ?_)
  refine lv_icmp_eq (tgt := 1114) hx hb dL_law_389 (by decide) (fun _ => ?_) (fun h => absurd hv h)
  exact W.widen hc1 hc2 (kk ad n _ H locs ls hR hn G hl)
theorem lc_of (C : LH p s m meth c D cy b L i xs) (hn : 5 * n ≤ i) (h : Rel n S) (G : Gd D cy s.heap.size ad n S s.heap H locs) (hl : lv_has ls 4 [(3, .int (nI i)), (2, .ref (ad 17 0)), (1, .ref (ad 0 0)), (0, .ref b)]) (kk : LK p l e s m below meth c Q D cy b i) : W p l e room_1 s m #[Value.ref b] below meth c H locs (78 + i) (3689 + 4 * i) Q (F0 m 361 ls []) := by
  obtain ⟨E, hX, hbl, hi, hL⟩ := id C
  obtain ⟨hx, hb, hr, hml, hown, hw, hlk, hK, hF, hsz⟩ := id E
  have hn6 : n < 600 := by omega
  refine lv_aload_n hx hb dL_law_361 rfl (lv_at hl 2 rfl) ?_
  refine l_arg hx hb hX hbl G.2.2 hi hL hl 1 (by decide) (by decide +kernel) dL_law_362 dL_law_363 dL_law_364 dL_law_365 dL_law_366 ?_
  refine l_arg hx hb hX hbl G.2.2 hi hL hl 2 (by decide) (by decide +kernel) dL_law_367 dL_law_368 dL_law_369 dL_law_370 dL_law_371 ?_
  refine q_cV (rest := []) E G 0 0 c0 sg_0 (C := RX9) (T := TX9) (N := 10) rfl (k_X9_of l D cy s.heap.size ad n S (rel_okC h.2) (xs (i + 1)) (xs (i + 2))) tb_239 tb_240 tb_241 tb_1 tb_242 (nn := 2) (by decide +kernel) ⟨by decide, by decide⟩ rfl hl.1 rfl (Nat.le_of_ble_eq_true rfl) dL_law_372 ⟨by show 78 + i ≤ 600000; omega, by show 3689 + 4 * i ≤ 7302250; omega⟩ (fun H locs G => ?_)
  exact lm_of C G (Kp.toM (kq_of S (xs (i + 1)) (xs (i + 2))) (rel_okM h.2 hn6)) (sm_of hn6 h (xs (i + 1)) (xs (i + 2))).1 (sm_of hn6 h (xs (i + 1)) (xs (i + 2))).2 (by omega) hl (by omega) (by omega) kk
theorem lm_hone (C : LH p s m meth c D cy b L i xs) (G : Gd D cy s.heap.size ad n S s.heap H locs) (ok : okM S) {v : Int32} (hv : v = (f_X10_hone S (xs (i + 1)) (xs (i + 2))).1) (hR : Rel n (f_X10_hone S (xs (i + 1)) (xs (i + 2))).2) (hn : 5 * n ≤ i + 5) (hl : lv_has ls 4 [(3, .int (nI i)), (2, .ref (ad 17 0)), (1, .ref (ad 0 0)), (0, .ref b)]) (hc1 : cells ≤ 78 + i + 1) (hc2 : slots ≤ 3689 + 4 * i + 4) (kk : LK p l e s m below meth c Q D cy b i) : W p l e room_1 s m #[Value.ref b] below meth c H locs cells slots Q (F0 m 408 ls [.int v]) := by
  obtain ⟨E, hX, hbl, hi, hL⟩ := id C
  obtain ⟨hx, hb, hr, hml, hown, hw, hlk, hK, hF, hsz⟩ := id E
  refine lv_aload_n hx hb dL_law_408 rfl (lv_at hl 1 rfl) ?_
  refine l_arg hx hb hX hbl G.2.2 hi hL hl 1 (by decide) (by decide +kernel) dL_law_409 dL_law_410 dL_law_411 dL_law_412 dL_law_413 ?_
  refine l_arg hx hb hX hbl G.2.2 hi hL hl 2 (by decide) (by decide +kernel) dL_law_414 dL_law_415 dL_law_416 dL_law_417 dL_law_418 ?_
  refine q_cV (rest := [.int v]) E G 17 0 c17 sg_17 (C := RX10) (T := TX10) (N := 21) rfl (k_X10_hone l D cy s.heap.size ad n S ok (xs (i + 1)) (xs (i + 2))) tb_539 tb_540 tb_541 tb_6 tb_542 (nn := 2) (by decide +kernel) ⟨by decide, by decide⟩ rfl hl.1 rfl (Nat.le_of_ble_eq_true rfl) dL_law_419 ⟨by show cells ≤ 600000; omega, by show slots ≤ 7302250; omega⟩ (fun H locs G => ?_)
  refine lv_icmp_eq (tgt := 1114) hx hb dL_law_422 (by decide) (fun _ => ?_) (fun h => absurd hv h)
  exact W.widen hc1 hc2 (kk ad n _ H locs ls hR hn G hl)
theorem lc_hone (C : LH p s m meth c D cy b L i xs) (hn : 5 * n ≤ i) (h : Rel n S) (G : Gd D cy s.heap.size ad n S s.heap H locs) (hl : lv_has ls 4 [(3, .int (nI i)), (2, .ref (ad 17 0)), (1, .ref (ad 0 0)), (0, .ref b)]) (kk : LK p l e s m below meth c Q D cy b i) : W p l e room_1 s m #[Value.ref b] below meth c H locs (78 + i) (3689 + 4 * i) Q (F0 m 394 ls []) := by
  obtain ⟨E, hX, hbl, hi, hL⟩ := id C
  obtain ⟨hx, hb, hr, hml, hown, hw, hlk, hK, hF, hsz⟩ := id E
  have hn6 : n < 600 := by omega
  refine lv_aload_n hx hb dL_law_394 rfl (lv_at hl 2 rfl) ?_
  refine l_arg hx hb hX hbl G.2.2 hi hL hl 1 (by decide) (by decide +kernel) dL_law_395 dL_law_396 dL_law_397 dL_law_398 dL_law_399 ?_
  refine l_arg hx hb hX hbl G.2.2 hi hL hl 2 (by decide) (by decide +kernel) dL_law_400 dL_law_401 dL_law_402 dL_law_403 dL_law_404 ?_
  refine q_cV (rest := []) E G 0 0 c0 sg_0 (C := RX9) (T := TX9) (N := 10) rfl (k_X9_hone l D cy s.heap.size ad n S (rel_okC h.2) (xs (i + 1)) (xs (i + 2))) tb_270 tb_271 tb_272 tb_1 tb_273 (nn := 2) (by decide +kernel) ⟨by decide, by decide⟩ rfl hl.1 rfl (Nat.le_of_ble_eq_true rfl) dL_law_405 ⟨by show 78 + i ≤ 600000; omega, by show 3689 + 4 * i ≤ 7302250; omega⟩ (fun H locs G => ?_)
  exact lm_hone C G (Kp.toM (kq_hone S (xs (i + 1)) (xs (i + 2))) (rel_okM h.2 hn6)) (sm_hone hn6 h (xs (i + 1)) (xs (i + 2))).1 (sm_hone hn6 h (xs (i + 1)) (xs (i + 2))).2 (by omega) hl (by omega) (by omega) kk
theorem lm_use (C : LH p s m meth c D cy b L i xs) (G : Gd D cy s.heap.size ad n S s.heap H locs) (ok : okM S) {v : Int32} (hv : v = (f_X10_use S (xs (i + 1)) (xs (i + 2))).1) (hR : Rel n (f_X10_use S (xs (i + 1)) (xs (i + 2))).2) (hn : 5 * n ≤ i + 5) (hl : lv_has ls 4 [(3, .int (nI i)), (2, .ref (ad 17 0)), (1, .ref (ad 0 0)), (0, .ref b)]) (hc1 : cells ≤ 78 + i + 1) (hc2 : slots ≤ 3689 + 4 * i + 4) (kk : LK p l e s m below meth c Q D cy b i) : W p l e room_1 s m #[Value.ref b] below meth c H locs cells slots Q (F0 m 441 ls [.int v]) := by
  obtain ⟨E, hX, hbl, hi, hL⟩ := id C
  obtain ⟨hx, hb, hr, hml, hown, hw, hlk, hK, hF, hsz⟩ := id E
  refine lv_aload_n hx hb dL_law_441 rfl (lv_at hl 1 rfl) ?_
  refine l_arg hx hb hX hbl G.2.2 hi hL hl 1 (by decide) (by decide +kernel) dL_law_442 dL_law_443 dL_law_444 dL_law_445 dL_law_446 ?_
  refine l_arg hx hb hX hbl G.2.2 hi hL hl 2 (by decide) (by decide +kernel) dL_law_447 dL_law_448 dL_law_449 dL_law_450 dL_law_451 ?_
  refine q_cV (rest := [.int v]) E G 17 0 c17 sg_17 (C := RX10) (T := TX10) (N := 21) rfl (k_X10_use l D cy s.heap.size ad n S ok (xs (i + 1)) (xs (i + 2))) tb_543 tb_544 tb_545 tb_6 tb_546 (nn := 2) (by decide +kernel) ⟨by decide, by decide⟩ rfl hl.1 rfl (Nat.le_of_ble_eq_true rfl) dL_law_452 ⟨by show cells ≤ 600000; omega, by show slots ≤ 7302250; omega⟩ (fun H locs G => ?_)
  refine lv_icmp_eq (tgt := 1114) hx hb dL_law_455 (by decide) (fun _ => ?_) (fun h => absurd hv h)
  exact W.widen hc1 hc2 (kk ad n _ H locs ls hR hn G hl)
theorem lc_use (C : LH p s m meth c D cy b L i xs) (hn : 5 * n ≤ i) (h : Rel n S) (G : Gd D cy s.heap.size ad n S s.heap H locs) (hl : lv_has ls 4 [(3, .int (nI i)), (2, .ref (ad 17 0)), (1, .ref (ad 0 0)), (0, .ref b)]) (kk : LK p l e s m below meth c Q D cy b i) : W p l e room_1 s m #[Value.ref b] below meth c H locs (78 + i) (3689 + 4 * i) Q (F0 m 427 ls []) := by
  obtain ⟨E, hX, hbl, hi, hL⟩ := id C
  obtain ⟨hx, hb, hr, hml, hown, hw, hlk, hK, hF, hsz⟩ := id E
  have hn6 : n < 600 := by omega
  refine lv_aload_n hx hb dL_law_427 rfl (lv_at hl 2 rfl) ?_
  refine l_arg hx hb hX hbl G.2.2 hi hL hl 1 (by decide) (by decide +kernel) dL_law_428 dL_law_429 dL_law_430 dL_law_431 dL_law_432 ?_
  refine l_arg hx hb hX hbl G.2.2 hi hL hl 2 (by decide) (by decide +kernel) dL_law_433 dL_law_434 dL_law_435 dL_law_436 dL_law_437 ?_
  refine q_cV (rest := []) E G 0 0 c0 sg_0 (C := RX9) (T := TX9) (N := 10) rfl (k_X9_use l D cy s.heap.size ad n S (rel_okC h.2) (xs (i + 1)) (xs (i + 2))) tb_274 tb_275 tb_276 tb_1 tb_277 (nn := 2) (by decide +kernel) ⟨by decide, by decide⟩ rfl hl.1 rfl (Nat.le_of_ble_eq_true rfl) dL_law_438 ⟨by show 78 + i ≤ 600000; omega, by show 3689 + 4 * i ≤ 7302250; omega⟩ (fun H locs G => ?_)
  exact lm_use C G (Kp.toM (kq_use S (xs (i + 1)) (xs (i + 2))) (rel_okM h.2 hn6)) (sm_use hn6 h (xs (i + 1)) (xs (i + 2))).1 (sm_use hn6 h (xs (i + 1)) (xs (i + 2))).2 (by omega) hl (by omega) (by omega) kk
theorem lm_shift (C : LH p s m meth c D cy b L i xs) (G : Gd D cy s.heap.size ad n S s.heap H locs) (ok : okM S) {v : Int32} (hv : v = (f_X10_shift S (xs (i + 1)) (xs (i + 2)) (xs (i + 3)) (xs (i + 4))).1) (hR : Rel n (f_X10_shift S (xs (i + 1)) (xs (i + 2)) (xs (i + 3)) (xs (i + 4))).2) (hn : 5 * n ≤ i + 5) (hl : lv_has ls 4 [(3, .int (nI i)), (2, .ref (ad 17 0)), (1, .ref (ad 0 0)), (0, .ref b)]) (hc1 : cells ≤ 78 + i + 1) (hc2 : slots ≤ 3689 + 4 * i + 4) (kk : LK p l e s m below meth c Q D cy b i) : W p l e room_1 s m #[Value.ref b] below meth c H locs cells slots Q (F0 m 484 ls [.int v]) := by
  obtain ⟨E, hX, hbl, hi, hL⟩ := id C
  obtain ⟨hx, hb, hr, hml, hown, hw, hlk, hK, hF, hsz⟩ := id E
  refine lv_aload_n hx hb dL_law_484 rfl (lv_at hl 1 rfl) ?_
  refine l_arg hx hb hX hbl G.2.2 hi hL hl 1 (by decide) (by decide +kernel) dL_law_485 dL_law_486 dL_law_487 dL_law_488 dL_law_489 ?_
  refine l_arg hx hb hX hbl G.2.2 hi hL hl 2 (by decide) (by decide +kernel) dL_law_490 dL_law_491 dL_law_492 dL_law_493 dL_law_494 ?_
  refine l_arg hx hb hX hbl G.2.2 hi hL hl 3 (by decide) (by decide +kernel) dL_law_495 dL_law_496 dL_law_497 dL_law_498 dL_law_499 ?_
  refine l_arg hx hb hX hbl G.2.2 hi hL hl 4 (by decide) (by decide +kernel) dL_law_500 dL_law_501 dL_law_502 dL_law_503 dL_law_504 ?_
  refine q_cV (rest := [.int v]) E G 17 0 c17 sg_17 (C := RX10) (T := TX10) (N := 21) rfl (k_X10_shift l D cy s.heap.size ad n S ok (xs (i + 1)) (xs (i + 2)) (xs (i + 3)) (xs (i + 4))) tb_551 tb_552 tb_553 tb_6 tb_554 (nn := 4) (by decide +kernel) ⟨by decide, by decide⟩ rfl hl.1 rfl (Nat.le_of_ble_eq_true rfl) dL_law_505 ⟨by show cells ≤ 600000; omega, by show slots ≤ 7302250; omega⟩ (fun H locs G => ?_)
  refine lv_icmp_eq (tgt := 1114) hx hb dL_law_508 (by decide) (fun _ => ?_) (fun h => absurd hv h)
  exact W.widen hc1 hc2 (kk ad n _ H locs ls hR hn G hl)
theorem lc_shift (C : LH p s m meth c D cy b L i xs) (hn : 5 * n ≤ i) (h : Rel n S) (G : Gd D cy s.heap.size ad n S s.heap H locs) (hl : lv_has ls 4 [(3, .int (nI i)), (2, .ref (ad 17 0)), (1, .ref (ad 0 0)), (0, .ref b)]) (kk : LK p l e s m below meth c Q D cy b i) : W p l e room_1 s m #[Value.ref b] below meth c H locs (78 + i) (3689 + 4 * i) Q (F0 m 460 ls []) := by
  obtain ⟨E, hX, hbl, hi, hL⟩ := id C
  obtain ⟨hx, hb, hr, hml, hown, hw, hlk, hK, hF, hsz⟩ := id E
  have hn6 : n < 600 := by omega
  refine lv_aload_n hx hb dL_law_460 rfl (lv_at hl 2 rfl) ?_
  refine l_arg hx hb hX hbl G.2.2 hi hL hl 1 (by decide) (by decide +kernel) dL_law_461 dL_law_462 dL_law_463 dL_law_464 dL_law_465 ?_
  refine l_arg hx hb hX hbl G.2.2 hi hL hl 2 (by decide) (by decide +kernel) dL_law_466 dL_law_467 dL_law_468 dL_law_469 dL_law_470 ?_
  refine l_arg hx hb hX hbl G.2.2 hi hL hl 3 (by decide) (by decide +kernel) dL_law_471 dL_law_472 dL_law_473 dL_law_474 dL_law_475 ?_
  refine l_arg hx hb hX hbl G.2.2 hi hL hl 4 (by decide) (by decide +kernel) dL_law_476 dL_law_477 dL_law_478 dL_law_479 dL_law_480 ?_
  refine q_cV (rest := []) E G 0 0 c0 sg_0 (C := RX9) (T := TX9) (N := 10) rfl (k_X9_shift l D cy s.heap.size ad n S (rel_okC h.2) (xs (i + 1)) (xs (i + 2)) (xs (i + 3)) (xs (i + 4))) tb_294 tb_295 tb_296 tb_1 tb_297 (nn := 4) (by decide +kernel) ⟨by decide, by decide⟩ rfl hl.1 rfl (Nat.le_of_ble_eq_true rfl) dL_law_481 ⟨by show 78 + i ≤ 600000; omega, by show 3689 + 4 * i ≤ 7302250; omega⟩ (fun H locs G => ?_)
  exact lm_shift C G (Kp.toM (kq_shift S (xs (i + 1)) (xs (i + 2)) (xs (i + 3)) (xs (i + 4))) (rel_okM h.2 hn6)) (sm_shift hn6 h (xs (i + 1)) (xs (i + 2)) (xs (i + 3)) (xs (i + 4))).1 (sm_shift hn6 h (xs (i + 1)) (xs (i + 2)) (xs (i + 3)) (xs (i + 4))).2 (by omega) hl (by omega) (by omega) kk
theorem lm_tray (C : LH p s m meth c D cy b L i xs) (G : Gd D cy s.heap.size ad n S s.heap H locs) (ok : okM S) {v : Int32} (hv : v = (f_X10_tray S (xs (i + 1)) (xs (i + 2))).1) (hR : Rel n (f_X10_tray S (xs (i + 1)) (xs (i + 2))).2) (hn : 5 * n ≤ i + 5) (hl : lv_has ls 4 [(3, .int (nI i)), (2, .ref (ad 17 0)), (1, .ref (ad 0 0)), (0, .ref b)]) (hc1 : cells ≤ 78 + i + 1) (hc2 : slots ≤ 3689 + 4 * i + 4) (kk : LK p l e s m below meth c Q D cy b i) : W p l e room_1 s m #[Value.ref b] below meth c H locs cells slots Q (F0 m 527 ls [.int v]) := by
  obtain ⟨E, hX, hbl, hi, hL⟩ := id C
  obtain ⟨hx, hb, hr, hml, hown, hw, hlk, hK, hF, hsz⟩ := id E
  refine lv_aload_n hx hb dL_law_527 rfl (lv_at hl 1 rfl) ?_
  refine l_arg hx hb hX hbl G.2.2 hi hL hl 1 (by decide) (by decide +kernel) dL_law_528 dL_law_529 dL_law_530 dL_law_531 dL_law_532 ?_
  refine l_arg hx hb hX hbl G.2.2 hi hL hl 2 (by decide) (by decide +kernel) dL_law_533 dL_law_534 dL_law_535 dL_law_536 dL_law_537 ?_
  refine q_cV (rest := [.int v]) E G 17 0 c17 sg_17 (C := RX10) (T := TX10) (N := 21) rfl (k_X10_tray l D cy s.heap.size ad n S ok (xs (i + 1)) (xs (i + 2))) tb_555 tb_556 tb_557 tb_6 tb_558 (nn := 2) (by decide +kernel) ⟨by decide, by decide⟩ rfl hl.1 rfl (Nat.le_of_ble_eq_true rfl) dL_law_538 ⟨by show cells ≤ 600000; omega, by show slots ≤ 7302250; omega⟩ (fun H locs G => ?_)
  refine lv_icmp_eq (tgt := 1114) hx hb dL_law_541 (by decide) (fun _ => ?_) (fun h => absurd hv h)
  exact W.widen hc1 hc2 (kk ad n _ H locs ls hR hn G hl)
theorem lc_tray (C : LH p s m meth c D cy b L i xs) (hn : 5 * n ≤ i) (h : Rel n S) (G : Gd D cy s.heap.size ad n S s.heap H locs) (hl : lv_has ls 4 [(3, .int (nI i)), (2, .ref (ad 17 0)), (1, .ref (ad 0 0)), (0, .ref b)]) (kk : LK p l e s m below meth c Q D cy b i) : W p l e room_1 s m #[Value.ref b] below meth c H locs (78 + i) (3689 + 4 * i) Q (F0 m 513 ls []) := by
  obtain ⟨E, hX, hbl, hi, hL⟩ := id C
  obtain ⟨hx, hb, hr, hml, hown, hw, hlk, hK, hF, hsz⟩ := id E
  have hn6 : n < 600 := by omega
  refine lv_aload_n hx hb dL_law_513 rfl (lv_at hl 2 rfl) ?_
  refine l_arg hx hb hX hbl G.2.2 hi hL hl 1 (by decide) (by decide +kernel) dL_law_514 dL_law_515 dL_law_516 dL_law_517 dL_law_518 ?_
  refine l_arg hx hb hX hbl G.2.2 hi hL hl 2 (by decide) (by decide +kernel) dL_law_519 dL_law_520 dL_law_521 dL_law_522 dL_law_523 ?_
  refine q_cV (rest := []) E G 0 0 c0 sg_0 (C := RX9) (T := TX9) (N := 10) rfl (k_X9_tray l D cy s.heap.size ad n S (rel_okC h.2) (xs (i + 1)) (xs (i + 2))) tb_312 tb_313 tb_314 tb_1 tb_315 (nn := 2) (by decide +kernel) ⟨by decide, by decide⟩ rfl hl.1 rfl (Nat.le_of_ble_eq_true rfl) dL_law_524 ⟨by show 78 + i ≤ 600000; omega, by show 3689 + 4 * i ≤ 7302250; omega⟩ (fun H locs G => ?_)
  exact lm_tray C G (Kp.toM (kq_tray S (xs (i + 1)) (xs (i + 2))) (rel_okM h.2 hn6)) (sm_tray hn6 h (xs (i + 1)) (xs (i + 2))).1 (sm_tray hn6 h (xs (i + 1)) (xs (i + 2))).2 (by omega) hl (by omega) (by omega) kk
theorem lm_lose (C : LH p s m meth c D cy b L i xs) (G : Gd D cy s.heap.size ad n S s.heap H locs) (ok : okM S) {v : Int32} (hv : v = (f_X10_lose S (xs (i + 1)) (xs (i + 2))).1) (hR : Rel n (f_X10_lose S (xs (i + 1)) (xs (i + 2))).2) (hn : 5 * n ≤ i + 5) (hl : lv_has ls 4 [(3, .int (nI i)), (2, .ref (ad 17 0)), (1, .ref (ad 0 0)), (0, .ref b)]) (hc1 : cells ≤ 78 + i + 1) (hc2 : slots ≤ 3689 + 4 * i + 4) (kk : LK p l e s m below meth c Q D cy b i) : W p l e room_1 s m #[Value.ref b] below meth c H locs cells slots Q (F0 m 560 ls [.int v]) := by
  obtain ⟨E, hX, hbl, hi, hL⟩ := id C
  obtain ⟨hx, hb, hr, hml, hown, hw, hlk, hK, hF, hsz⟩ := id E
  refine lv_aload_n hx hb dL_law_560 rfl (lv_at hl 1 rfl) ?_
  refine l_arg hx hb hX hbl G.2.2 hi hL hl 1 (by decide) (by decide +kernel) dL_law_561 dL_law_562 dL_law_563 dL_law_564 dL_law_565 ?_
  refine l_arg hx hb hX hbl G.2.2 hi hL hl 2 (by decide) (by decide +kernel) dL_law_566 dL_law_567 dL_law_568 dL_law_569 dL_law_570 ?_
  refine q_cV (rest := [.int v]) E G 17 0 c17 sg_17 (C := RX10) (T := TX10) (N := 21) rfl (k_X10_lose l D cy s.heap.size ad n S ok (xs (i + 1)) (xs (i + 2))) tb_559 tb_560 tb_561 tb_6 tb_562 (nn := 2) (by decide +kernel) ⟨by decide, by decide⟩ rfl hl.1 rfl (Nat.le_of_ble_eq_true rfl) dL_law_571 ⟨by show cells ≤ 600000; omega, by show slots ≤ 7302250; omega⟩ (fun H locs G => ?_)
  refine lv_icmp_eq (tgt := 1114) hx hb dL_law_574 (by decide) (fun _ => ?_) (fun h => absurd hv h)
  exact W.widen hc1 hc2 (kk ad n _ H locs ls hR hn G hl)
theorem lc_lose (C : LH p s m meth c D cy b L i xs) (hn : 5 * n ≤ i) (h : Rel n S) (G : Gd D cy s.heap.size ad n S s.heap H locs) (hl : lv_has ls 4 [(3, .int (nI i)), (2, .ref (ad 17 0)), (1, .ref (ad 0 0)), (0, .ref b)]) (kk : LK p l e s m below meth c Q D cy b i) : W p l e room_1 s m #[Value.ref b] below meth c H locs (78 + i) (3689 + 4 * i) Q (F0 m 546 ls []) := by
  obtain ⟨E, hX, hbl, hi, hL⟩ := id C
  obtain ⟨hx, hb, hr, hml, hown, hw, hlk, hK, hF, hsz⟩ := id E
  have hn6 : n < 600 := by omega
  refine lv_aload_n hx hb dL_law_546 rfl (lv_at hl 2 rfl) ?_
  refine l_arg hx hb hX hbl G.2.2 hi hL hl 1 (by decide) (by decide +kernel) dL_law_547 dL_law_548 dL_law_549 dL_law_550 dL_law_551 ?_
  refine l_arg hx hb hX hbl G.2.2 hi hL hl 2 (by decide) (by decide +kernel) dL_law_552 dL_law_553 dL_law_554 dL_law_555 dL_law_556 ?_
  refine q_cV (rest := []) E G 0 0 c0 sg_0 (C := RX9) (T := TX9) (N := 10) rfl (k_X9_lose l D cy s.heap.size ad n S (rel_okC h.2) (xs (i + 1)) (xs (i + 2))) tb_320 tb_321 tb_322 tb_1 tb_323 (nn := 2) (by decide +kernel) ⟨by decide, by decide⟩ rfl hl.1 rfl (Nat.le_of_ble_eq_true rfl) dL_law_557 ⟨by show 78 + i ≤ 600000; omega, by show 3689 + 4 * i ≤ 7302250; omega⟩ (fun H locs G => ?_)
  exact lm_lose C G (Kp.toM (kq_lose S (xs (i + 1)) (xs (i + 2))) (rel_okM h.2 hn6)) (sm_lose hn6 h (xs (i + 1)) (xs (i + 2))).1 (sm_lose hn6 h (xs (i + 1)) (xs (i + 2))).2 (by omega) hl (by omega) (by omega) kk
theorem lm_put (C : LH p s m meth c D cy b L i xs) (G : Gd D cy s.heap.size ad n S s.heap H locs) (ok : okM S) {v : Int32} (hv : v = (f_X10_put S (xs (i + 1)) (xs (i + 2)) (xs (i + 3))).1) (hR : Rel n (f_X10_put S (xs (i + 1)) (xs (i + 2)) (xs (i + 3))).2) (hn : 5 * n ≤ i + 5) (hl : lv_has ls 4 [(3, .int (nI i)), (2, .ref (ad 17 0)), (1, .ref (ad 0 0)), (0, .ref b)]) (hc1 : cells ≤ 78 + i + 1) (hc2 : slots ≤ 3689 + 4 * i + 4) (kk : LK p l e s m below meth c Q D cy b i) : W p l e room_1 s m #[Value.ref b] below meth c H locs cells slots Q (F0 m 598 ls [.int v]) := by
  obtain ⟨E, hX, hbl, hi, hL⟩ := id C
  obtain ⟨hx, hb, hr, hml, hown, hw, hlk, hK, hF, hsz⟩ := id E
  refine lv_aload_n hx hb dL_law_598 rfl (lv_at hl 1 rfl) ?_
  refine l_arg hx hb hX hbl G.2.2 hi hL hl 1 (by decide) (by decide +kernel) dL_law_599 dL_law_600 dL_law_601 dL_law_602 dL_law_603 ?_
  refine l_arg hx hb hX hbl G.2.2 hi hL hl 2 (by decide) (by decide +kernel) dL_law_604 dL_law_605 dL_law_606 dL_law_607 dL_law_608 ?_
  refine l_arg hx hb hX hbl G.2.2 hi hL hl 3 (by decide) (by decide +kernel) dL_law_609 dL_law_610 dL_law_611 dL_law_612 dL_law_613 ?_
  refine q_cV (rest := [.int v]) E G 17 0 c17 sg_17 (C := RX10) (T := TX10) (N := 21) rfl (k_X10_put l D cy s.heap.size ad n S ok (xs (i + 1)) (xs (i + 2)) (xs (i + 3))) tb_570 tb_571 tb_572 tb_6 tb_573 (nn := 3) (by decide +kernel) ⟨by decide, by decide⟩ rfl hl.1 rfl (Nat.le_of_ble_eq_true rfl) dL_law_614 ⟨by show cells ≤ 600000; omega, by show slots ≤ 7302250; omega⟩ (fun H locs G => ?_)
  refine lv_icmp_eq (tgt := 1114) hx hb dL_law_617 (by decide) (fun _ => ?_) (fun h => absurd hv h)
  exact W.widen hc1 hc2 (kk ad n _ H locs ls hR hn G hl)
theorem lc_put (C : LH p s m meth c D cy b L i xs) (hn : 5 * n ≤ i) (h : Rel n S) (G : Gd D cy s.heap.size ad n S s.heap H locs) (hl : lv_has ls 4 [(3, .int (nI i)), (2, .ref (ad 17 0)), (1, .ref (ad 0 0)), (0, .ref b)]) (kk : LK p l e s m below meth c Q D cy b i) : W p l e room_1 s m #[Value.ref b] below meth c H locs (78 + i) (3689 + 4 * i) Q (F0 m 579 ls []) := by
  obtain ⟨E, hX, hbl, hi, hL⟩ := id C
  obtain ⟨hx, hb, hr, hml, hown, hw, hlk, hK, hF, hsz⟩ := id E
  have hn6 : n < 600 := by omega
  refine lv_aload_n hx hb dL_law_579 rfl (lv_at hl 2 rfl) ?_
  refine l_arg hx hb hX hbl G.2.2 hi hL hl 1 (by decide) (by decide +kernel) dL_law_580 dL_law_581 dL_law_582 dL_law_583 dL_law_584 ?_
  refine l_arg hx hb hX hbl G.2.2 hi hL hl 2 (by decide) (by decide +kernel) dL_law_585 dL_law_586 dL_law_587 dL_law_588 dL_law_589 ?_
  refine l_arg hx hb hX hbl G.2.2 hi hL hl 3 (by decide) (by decide +kernel) dL_law_590 dL_law_591 dL_law_592 dL_law_593 dL_law_594 ?_
  refine q_cV (rest := []) E G 0 0 c0 sg_0 (C := RX9) (T := TX9) (N := 10) rfl (k_X9_put l D cy s.heap.size ad n S (rel_okC h.2) (xs (i + 1)) (xs (i + 2)) (xs (i + 3))) tb_336 tb_337 tb_338 tb_1 tb_339 (nn := 3) (by decide +kernel) ⟨by decide, by decide⟩ rfl hl.1 rfl (Nat.le_of_ble_eq_true rfl) dL_law_595 ⟨by show 78 + i ≤ 600000; omega, by show 3689 + 4 * i ≤ 7302250; omega⟩ (fun H locs G => ?_)
  exact lm_put C G (Kp.toM (kq_put S (xs (i + 1)) (xs (i + 2)) (xs (i + 3))) (rel_okM h.2 hn6)) (sm_put hn6 h (xs (i + 1)) (xs (i + 2)) (xs (i + 3))).1 (sm_put hn6 h (xs (i + 1)) (xs (i + 2)) (xs (i + 3))).2 (by omega) hl (by omega) (by omega) kk
theorem lm_get (C : LH p s m meth c D cy b L i xs) (G : Gd D cy s.heap.size ad n S s.heap H locs) (ok : okM S) {v : Int32} (hv : v = (f_X10_get S (xs (i + 1)) (xs (i + 2))).1) (hR : Rel n (f_X10_get S (xs (i + 1)) (xs (i + 2))).2) (hn : 5 * n ≤ i + 5) (hl : lv_has ls 4 [(3, .int (nI i)), (2, .ref (ad 17 0)), (1, .ref (ad 0 0)), (0, .ref b)]) (hc1 : cells ≤ 78 + i + 1) (hc2 : slots ≤ 3689 + 4 * i + 4) (kk : LK p l e s m below meth c Q D cy b i) : W p l e room_1 s m #[Value.ref b] below meth c H locs cells slots Q (F0 m 636 ls [.int v]) := by
  obtain ⟨E, hX, hbl, hi, hL⟩ := id C
  obtain ⟨hx, hb, hr, hml, hown, hw, hlk, hK, hF, hsz⟩ := id E
  refine lv_aload_n hx hb dL_law_636 rfl (lv_at hl 1 rfl) ?_
  refine l_arg hx hb hX hbl G.2.2 hi hL hl 1 (by decide) (by decide +kernel) dL_law_637 dL_law_638 dL_law_639 dL_law_640 dL_law_641 ?_
  refine l_arg hx hb hX hbl G.2.2 hi hL hl 2 (by decide) (by decide +kernel) dL_law_642 dL_law_643 dL_law_644 dL_law_645 dL_law_646 ?_
  refine q_cV (rest := [.int v]) E G 17 0 c17 sg_17 (C := RX10) (T := TX10) (N := 21) rfl (k_X10_get l D cy s.heap.size ad n S ok (xs (i + 1)) (xs (i + 2))) tb_577 tb_578 tb_579 tb_6 tb_580 (nn := 2) (by decide +kernel) ⟨by decide, by decide⟩ rfl hl.1 rfl (Nat.le_of_ble_eq_true rfl) dL_law_647 ⟨by show cells ≤ 600000; omega, by show slots ≤ 7302250; omega⟩ (fun H locs G => ?_)
  refine lv_icmp_eq (tgt := 1114) hx hb dL_law_650 (by decide) (fun _ => ?_) (fun h => absurd hv h)
  exact W.widen hc1 hc2 (kk ad n _ H locs ls hR hn G hl)
theorem lc_get (C : LH p s m meth c D cy b L i xs) (hn : 5 * n ≤ i) (h : Rel n S) (G : Gd D cy s.heap.size ad n S s.heap H locs) (hl : lv_has ls 4 [(3, .int (nI i)), (2, .ref (ad 17 0)), (1, .ref (ad 0 0)), (0, .ref b)]) (kk : LK p l e s m below meth c Q D cy b i) : W p l e room_1 s m #[Value.ref b] below meth c H locs (78 + i) (3689 + 4 * i) Q (F0 m 622 ls []) := by
  obtain ⟨E, hX, hbl, hi, hL⟩ := id C
  obtain ⟨hx, hb, hr, hml, hown, hw, hlk, hK, hF, hsz⟩ := id E
  have hn6 : n < 600 := by omega
  refine lv_aload_n hx hb dL_law_622 rfl (lv_at hl 2 rfl) ?_
  refine l_arg hx hb hX hbl G.2.2 hi hL hl 1 (by decide) (by decide +kernel) dL_law_623 dL_law_624 dL_law_625 dL_law_626 dL_law_627 ?_
  refine l_arg hx hb hX hbl G.2.2 hi hL hl 2 (by decide) (by decide +kernel) dL_law_628 dL_law_629 dL_law_630 dL_law_631 dL_law_632 ?_
  refine q_cV (rest := []) E G 0 0 c0 sg_0 (C := RX9) (T := TX9) (N := 10) rfl (k_X9_get l D cy s.heap.size ad n S (rel_okC h.2) (xs (i + 1)) (xs (i + 2))) tb_340 tb_341 tb_342 tb_1 tb_343 (nn := 2) (by decide +kernel) ⟨by decide, by decide⟩ rfl hl.1 rfl (Nat.le_of_ble_eq_true rfl) dL_law_633 ⟨by show 78 + i ≤ 600000; omega, by show 3689 + 4 * i ≤ 7302250; omega⟩ (fun H locs G => ?_)
  exact lm_get C G (Kp.toM (kq_get S (xs (i + 1)) (xs (i + 2))) (rel_okM h.2 hn6)) (sm_get hn6 h (xs (i + 1)) (xs (i + 2))).1 (sm_get hn6 h (xs (i + 1)) (xs (i + 2))).2 (by omega) hl (by omega) (by omega) kk
theorem lm_length (C : LH p s m meth c D cy b L i xs) (G : Gd D cy s.heap.size ad n S s.heap H locs) (ok : okM S) {v : Int32} (hv : v = (f_X10_length S (xs (i + 1)) (xs (i + 2))).1) (hR : Rel n (f_X10_length S (xs (i + 1)) (xs (i + 2))).2) (hn : 5 * n ≤ i + 5) (hl : lv_has ls 4 [(3, .int (nI i)), (2, .ref (ad 17 0)), (1, .ref (ad 0 0)), (0, .ref b)]) (hc1 : cells ≤ 78 + i + 1) (hc2 : slots ≤ 3689 + 4 * i + 4) (kk : LK p l e s m below meth c Q D cy b i) : W p l e room_1 s m #[Value.ref b] below meth c H locs cells slots Q (F0 m 669 ls [.int v]) := by
  obtain ⟨E, hX, hbl, hi, hL⟩ := id C
  obtain ⟨hx, hb, hr, hml, hown, hw, hlk, hK, hF, hsz⟩ := id E
  refine lv_aload_n hx hb dL_law_669 rfl (lv_at hl 1 rfl) ?_
  refine l_arg hx hb hX hbl G.2.2 hi hL hl 1 (by decide) (by decide +kernel) dL_law_670 dL_law_671 dL_law_672 dL_law_673 dL_law_674 ?_
  refine l_arg hx hb hX hbl G.2.2 hi hL hl 2 (by decide) (by decide +kernel) dL_law_675 dL_law_676 dL_law_677 dL_law_678 dL_law_679 ?_
  refine q_cV (rest := [.int v]) E G 17 0 c17 sg_17 (C := RX10) (T := TX10) (N := 21) rfl (k_X10_length l D cy s.heap.size ad n S ok (xs (i + 1)) (xs (i + 2))) tb_581 tb_582 tb_583 tb_6 tb_584 (nn := 2) (by decide +kernel) ⟨by decide, by decide⟩ rfl hl.1 rfl (Nat.le_of_ble_eq_true rfl) dL_law_680 ⟨by show cells ≤ 600000; omega, by show slots ≤ 7302250; omega⟩ (fun H locs G => ?_)
  refine lv_icmp_eq (tgt := 1114) hx hb dL_law_683 (by decide) (fun _ => ?_) (fun h => absurd hv h)
  exact W.widen hc1 hc2 (kk ad n _ H locs ls hR hn G hl)
theorem lc_length (C : LH p s m meth c D cy b L i xs) (hn : 5 * n ≤ i) (h : Rel n S) (G : Gd D cy s.heap.size ad n S s.heap H locs) (hl : lv_has ls 4 [(3, .int (nI i)), (2, .ref (ad 17 0)), (1, .ref (ad 0 0)), (0, .ref b)]) (kk : LK p l e s m below meth c Q D cy b i) : W p l e room_1 s m #[Value.ref b] below meth c H locs (78 + i) (3689 + 4 * i) Q (F0 m 655 ls []) := by
  obtain ⟨E, hX, hbl, hi, hL⟩ := id C
  obtain ⟨hx, hb, hr, hml, hown, hw, hlk, hK, hF, hsz⟩ := id E
  have hn6 : n < 600 := by omega
  refine lv_aload_n hx hb dL_law_655 rfl (lv_at hl 2 rfl) ?_
  refine l_arg hx hb hX hbl G.2.2 hi hL hl 1 (by decide) (by decide +kernel) dL_law_656 dL_law_657 dL_law_658 dL_law_659 dL_law_660 ?_
  refine l_arg hx hb hX hbl G.2.2 hi hL hl 2 (by decide) (by decide +kernel) dL_law_661 dL_law_662 dL_law_663 dL_law_664 dL_law_665 ?_
  refine q_cV (rest := []) E G 0 0 c0 sg_0 (C := RX9) (T := TX9) (N := 10) rfl (k_X9_length l D cy s.heap.size ad n S (rel_okC h.2) (xs (i + 1)) (xs (i + 2))) tb_344 tb_345 tb_346 tb_1 tb_347 (nn := 2) (by decide +kernel) ⟨by decide, by decide⟩ rfl hl.1 rfl (Nat.le_of_ble_eq_true rfl) dL_law_666 ⟨by show 78 + i ≤ 600000; omega, by show 3689 + 4 * i ≤ 7302250; omega⟩ (fun H locs G => ?_)
  exact lm_length C G (Kp.toM (kq_length S (xs (i + 1)) (xs (i + 2))) (rel_okM h.2 hn6)) (sm_length hn6 h (xs (i + 1)) (xs (i + 2))).1 (sm_length hn6 h (xs (i + 1)) (xs (i + 2))).2 (by omega) hl (by omega) (by omega) kk
theorem lm_rack (C : LH p s m meth c D cy b L i xs) (G : Gd D cy s.heap.size ad n S s.heap H locs) (ok : okM S) {v : Int32} (hv : v = (f_X10_rack S (xs (i + 1)) (xs (i + 2)) (xs (i + 3))).1) (hR : Rel n (f_X10_rack S (xs (i + 1)) (xs (i + 2)) (xs (i + 3))).2) (hn : 5 * n ≤ i + 5) (hl : lv_has ls 4 [(3, .int (nI i)), (2, .ref (ad 17 0)), (1, .ref (ad 0 0)), (0, .ref b)]) (hc1 : cells ≤ 78 + i + 1) (hc2 : slots ≤ 3689 + 4 * i + 4) (kk : LK p l e s m below meth c Q D cy b i) : W p l e room_1 s m #[Value.ref b] below meth c H locs cells slots Q (F0 m 707 ls [.int v]) := by
  obtain ⟨E, hX, hbl, hi, hL⟩ := id C
  obtain ⟨hx, hb, hr, hml, hown, hw, hlk, hK, hF, hsz⟩ := id E
  refine lv_aload_n hx hb dL_law_707 rfl (lv_at hl 1 rfl) ?_
  refine l_arg hx hb hX hbl G.2.2 hi hL hl 1 (by decide) (by decide +kernel) dL_law_708 dL_law_709 dL_law_710 dL_law_711 dL_law_712 ?_
  refine l_arg hx hb hX hbl G.2.2 hi hL hl 2 (by decide) (by decide +kernel) dL_law_713 dL_law_714 dL_law_715 dL_law_716 dL_law_717 ?_
  refine l_arg hx hb hX hbl G.2.2 hi hL hl 3 (by decide) (by decide +kernel) dL_law_718 dL_law_719 dL_law_720 dL_law_721 dL_law_722 ?_
  refine q_cV (rest := [.int v]) E G 17 0 c17 sg_17 (C := RX10) (T := TX10) (N := 21) rfl (k_X10_rack l D cy s.heap.size ad n S ok (xs (i + 1)) (xs (i + 2)) (xs (i + 3))) tb_585 tb_586 tb_587 tb_6 tb_588 (nn := 3) (by decide +kernel) ⟨by decide, by decide⟩ rfl hl.1 rfl (Nat.le_of_ble_eq_true rfl) dL_law_723 ⟨by show cells ≤ 600000; omega, by show slots ≤ 7302250; omega⟩ (fun H locs G => ?_)
  refine lv_icmp_eq (tgt := 1114) hx hb dL_law_726 (by decide) (fun _ => ?_) (fun h => absurd hv h)
  exact W.widen hc1 hc2 (kk ad n _ H locs ls hR hn G hl)
theorem lc_rack (C : LH p s m meth c D cy b L i xs) (hn : 5 * n ≤ i) (h : Rel n S) (G : Gd D cy s.heap.size ad n S s.heap H locs) (hl : lv_has ls 4 [(3, .int (nI i)), (2, .ref (ad 17 0)), (1, .ref (ad 0 0)), (0, .ref b)]) (kk : LK p l e s m below meth c Q D cy b i) : W p l e room_1 s m #[Value.ref b] below meth c H locs (78 + i) (3689 + 4 * i) Q (F0 m 688 ls []) := by
  obtain ⟨E, hX, hbl, hi, hL⟩ := id C
  obtain ⟨hx, hb, hr, hml, hown, hw, hlk, hK, hF, hsz⟩ := id E
  have hn6 : n < 600 := by omega
  refine lv_aload_n hx hb dL_law_688 rfl (lv_at hl 2 rfl) ?_
  refine l_arg hx hb hX hbl G.2.2 hi hL hl 1 (by decide) (by decide +kernel) dL_law_689 dL_law_690 dL_law_691 dL_law_692 dL_law_693 ?_
  refine l_arg hx hb hX hbl G.2.2 hi hL hl 2 (by decide) (by decide +kernel) dL_law_694 dL_law_695 dL_law_696 dL_law_697 dL_law_698 ?_
  refine l_arg hx hb hX hbl G.2.2 hi hL hl 3 (by decide) (by decide +kernel) dL_law_699 dL_law_700 dL_law_701 dL_law_702 dL_law_703 ?_
  refine q_cV (rest := []) E G 0 0 c0 sg_0 (C := RX9) (T := TX9) (N := 10) rfl (k_X9_rack l D cy s.heap.size ad n S (rel_okC h.2) (xs (i + 1)) (xs (i + 2)) (xs (i + 3))) tb_348 tb_349 tb_350 tb_1 tb_351 (nn := 3) (by decide +kernel) ⟨by decide, by decide⟩ rfl hl.1 rfl (Nat.le_of_ble_eq_true rfl) dL_law_704 ⟨by show 78 + i ≤ 600000; omega, by show 3689 + 4 * i ≤ 7302250; omega⟩ (fun H locs G => ?_)
  exact lm_rack C G (Kp.toM (kq_rack S (xs (i + 1)) (xs (i + 2)) (xs (i + 3))) (rel_okM h.2 hn6)) (sm_rack hn6 h (xs (i + 1)) (xs (i + 2)) (xs (i + 3))).1 (sm_rack hn6 h (xs (i + 1)) (xs (i + 2)) (xs (i + 3))).2 (by omega) hl (by omega) (by omega) kk
theorem lm_lay (C : LH p s m meth c D cy b L i xs) (G : Gd D cy s.heap.size ad n S s.heap H locs) (ok : okM S) {v : Int32} (hv : v = (f_X10_lay S (xs (i + 1)) (xs (i + 2)) (xs (i + 3))).1) (hR : Rel n (f_X10_lay S (xs (i + 1)) (xs (i + 2)) (xs (i + 3))).2) (hn : 5 * n ≤ i + 5) (hl : lv_has ls 4 [(3, .int (nI i)), (2, .ref (ad 17 0)), (1, .ref (ad 0 0)), (0, .ref b)]) (hc1 : cells ≤ 78 + i + 1) (hc2 : slots ≤ 3689 + 4 * i + 4) (kk : LK p l e s m below meth c Q D cy b i) : W p l e room_1 s m #[Value.ref b] below meth c H locs cells slots Q (F0 m 750 ls [.int v]) := by
  obtain ⟨E, hX, hbl, hi, hL⟩ := id C
  obtain ⟨hx, hb, hr, hml, hown, hw, hlk, hK, hF, hsz⟩ := id E
  refine lv_aload_n hx hb dL_law_750 rfl (lv_at hl 1 rfl) ?_
  refine l_arg hx hb hX hbl G.2.2 hi hL hl 1 (by decide) (by decide +kernel) dL_law_751 dL_law_752 dL_law_753 dL_law_754 dL_law_755 ?_
  refine l_arg hx hb hX hbl G.2.2 hi hL hl 2 (by decide) (by decide +kernel) dL_law_756 dL_law_757 dL_law_758 dL_law_759 dL_law_760 ?_
  refine l_arg hx hb hX hbl G.2.2 hi hL hl 3 (by decide) (by decide +kernel) dL_law_761 dL_law_762 dL_law_763 dL_law_764 dL_law_765 ?_
  refine q_cV (rest := [.int v]) E G 17 0 c17 sg_17 (C := RX10) (T := TX10) (N := 21) rfl (k_X10_lay l D cy s.heap.size ad n S ok (xs (i + 1)) (xs (i + 2)) (xs (i + 3))) tb_589 tb_590 tb_591 tb_6 tb_592 (nn := 3) (by decide +kernel) ⟨by decide, by decide⟩ rfl hl.1 rfl (Nat.le_of_ble_eq_true rfl) dL_law_766 ⟨by show cells ≤ 600000; omega, by show slots ≤ 7302250; omega⟩ (fun H locs G => ?_)
  refine lv_icmp_eq (tgt := 1114) hx hb dL_law_769 (by decide) (fun _ => ?_) (fun h => absurd hv h)
  exact W.widen hc1 hc2 (kk ad n _ H locs ls hR hn G hl)
theorem lc_lay (C : LH p s m meth c D cy b L i xs) (hn : 5 * n ≤ i) (h : Rel n S) (G : Gd D cy s.heap.size ad n S s.heap H locs) (hl : lv_has ls 4 [(3, .int (nI i)), (2, .ref (ad 17 0)), (1, .ref (ad 0 0)), (0, .ref b)]) (kk : LK p l e s m below meth c Q D cy b i) : W p l e room_1 s m #[Value.ref b] below meth c H locs (78 + i) (3689 + 4 * i) Q (F0 m 731 ls []) := by
  obtain ⟨E, hX, hbl, hi, hL⟩ := id C
  obtain ⟨hx, hb, hr, hml, hown, hw, hlk, hK, hF, hsz⟩ := id E
  have hn6 : n < 600 := by omega
  refine lv_aload_n hx hb dL_law_731 rfl (lv_at hl 2 rfl) ?_
  refine l_arg hx hb hX hbl G.2.2 hi hL hl 1 (by decide) (by decide +kernel) dL_law_732 dL_law_733 dL_law_734 dL_law_735 dL_law_736 ?_
  refine l_arg hx hb hX hbl G.2.2 hi hL hl 2 (by decide) (by decide +kernel) dL_law_737 dL_law_738 dL_law_739 dL_law_740 dL_law_741 ?_
  refine l_arg hx hb hX hbl G.2.2 hi hL hl 3 (by decide) (by decide +kernel) dL_law_742 dL_law_743 dL_law_744 dL_law_745 dL_law_746 ?_
  refine q_cV (rest := []) E G 0 0 c0 sg_0 (C := RX9) (T := TX9) (N := 10) rfl (k_X9_lay l D cy s.heap.size ad n S (rel_okC h.2) (xs (i + 1)) (xs (i + 2)) (xs (i + 3))) tb_356 tb_357 tb_358 tb_1 tb_359 (nn := 3) (by decide +kernel) ⟨by decide, by decide⟩ rfl hl.1 rfl (Nat.le_of_ble_eq_true rfl) dL_law_747 ⟨by show 78 + i ≤ 600000; omega, by show 3689 + 4 * i ≤ 7302250; omega⟩ (fun H locs G => ?_)
  exact lm_lay C G (Kp.toM (kq_lay S (xs (i + 1)) (xs (i + 2)) (xs (i + 3))) (rel_okM h.2 hn6)) (sm_lay hn6 h (xs (i + 1)) (xs (i + 2)) (xs (i + 3))).1 (sm_lay hn6 h (xs (i + 1)) (xs (i + 2)) (xs (i + 3))).2 (by omega) hl (by omega) (by omega) kk
theorem lm_fetch (C : LH p s m meth c D cy b L i xs) (G : Gd D cy s.heap.size ad n S s.heap H locs) (ok : okM S) {v : Int32} (hv : v = (f_X10_fetch S (xs (i + 1)) (xs (i + 2)) (xs (i + 3)) (xs (i + 4))).1) (hR : Rel n (f_X10_fetch S (xs (i + 1)) (xs (i + 2)) (xs (i + 3)) (xs (i + 4))).2) (hn : 5 * n ≤ i + 5) (hl : lv_has ls 4 [(3, .int (nI i)), (2, .ref (ad 17 0)), (1, .ref (ad 0 0)), (0, .ref b)]) (hc1 : cells ≤ 78 + i + 1) (hc2 : slots ≤ 3689 + 4 * i + 4) (kk : LK p l e s m below meth c Q D cy b i) : W p l e room_1 s m #[Value.ref b] below meth c H locs cells slots Q (F0 m 798 ls [.int v]) := by
  obtain ⟨E, hX, hbl, hi, hL⟩ := id C
  obtain ⟨hx, hb, hr, hml, hown, hw, hlk, hK, hF, hsz⟩ := id E
  refine lv_aload_n hx hb dL_law_798 rfl (lv_at hl 1 rfl) ?_
  refine l_arg hx hb hX hbl G.2.2 hi hL hl 1 (by decide) (by decide +kernel) dL_law_799 dL_law_800 dL_law_801 dL_law_802 dL_law_803 ?_
  refine l_arg hx hb hX hbl G.2.2 hi hL hl 2 (by decide) (by decide +kernel) dL_law_804 dL_law_805 dL_law_806 dL_law_807 dL_law_808 ?_
  refine l_arg hx hb hX hbl G.2.2 hi hL hl 3 (by decide) (by decide +kernel) dL_law_809 dL_law_810 dL_law_811 dL_law_812 dL_law_813 ?_
  refine l_arg hx hb hX hbl G.2.2 hi hL hl 4 (by decide) (by decide +kernel) dL_law_814 dL_law_815 dL_law_816 dL_law_817 dL_law_818 ?_
  refine q_cV (rest := [.int v]) E G 17 0 c17 sg_17 (C := RX10) (T := TX10) (N := 21) rfl (k_X10_fetch l D cy s.heap.size ad n S ok (xs (i + 1)) (xs (i + 2)) (xs (i + 3)) (xs (i + 4))) tb_597 tb_598 tb_599 tb_6 tb_600 (nn := 4) (by decide +kernel) ⟨by decide, by decide⟩ rfl hl.1 rfl (Nat.le_of_ble_eq_true rfl) dL_law_819 ⟨by show cells ≤ 600000; omega, by show slots ≤ 7302250; omega⟩ (fun H locs G => ?_)
  refine lv_icmp_eq (tgt := 1114) hx hb dL_law_822 (by decide) (fun _ => ?_) (fun h => absurd hv h)
  exact W.widen hc1 hc2 (kk ad n _ H locs ls hR hn G hl)
theorem lc_fetch (C : LH p s m meth c D cy b L i xs) (hn : 5 * n ≤ i) (h : Rel n S) (G : Gd D cy s.heap.size ad n S s.heap H locs) (hl : lv_has ls 4 [(3, .int (nI i)), (2, .ref (ad 17 0)), (1, .ref (ad 0 0)), (0, .ref b)]) (kk : LK p l e s m below meth c Q D cy b i) : W p l e room_1 s m #[Value.ref b] below meth c H locs (78 + i) (3689 + 4 * i) Q (F0 m 774 ls []) := by
  obtain ⟨E, hX, hbl, hi, hL⟩ := id C
  obtain ⟨hx, hb, hr, hml, hown, hw, hlk, hK, hF, hsz⟩ := id E
  have hn6 : n < 600 := by omega
  refine lv_aload_n hx hb dL_law_774 rfl (lv_at hl 2 rfl) ?_
  refine l_arg hx hb hX hbl G.2.2 hi hL hl 1 (by decide) (by decide +kernel) dL_law_775 dL_law_776 dL_law_777 dL_law_778 dL_law_779 ?_
  refine l_arg hx hb hX hbl G.2.2 hi hL hl 2 (by decide) (by decide +kernel) dL_law_780 dL_law_781 dL_law_782 dL_law_783 dL_law_784 ?_
  refine l_arg hx hb hX hbl G.2.2 hi hL hl 3 (by decide) (by decide +kernel) dL_law_785 dL_law_786 dL_law_787 dL_law_788 dL_law_789 ?_
  refine l_arg hx hb hX hbl G.2.2 hi hL hl 4 (by decide) (by decide +kernel) dL_law_790 dL_law_791 dL_law_792 dL_law_793 dL_law_794 ?_
  refine q_cV (rest := []) E G 0 0 c0 sg_0 (C := RX9) (T := TX9) (N := 10) rfl (k_X9_fetch l D cy s.heap.size ad n S (rel_okC h.2) (xs (i + 1)) (xs (i + 2)) (xs (i + 3)) (xs (i + 4))) tb_363 tb_364 tb_365 tb_1 tb_366 (nn := 4) (by decide +kernel) ⟨by decide, by decide⟩ rfl hl.1 rfl (Nat.le_of_ble_eq_true rfl) dL_law_795 ⟨by show 78 + i ≤ 600000; omega, by show 3689 + 4 * i ≤ 7302250; omega⟩ (fun H locs G => ?_)
  exact lm_fetch C G (Kp.toM (kq_fetch S (xs (i + 1)) (xs (i + 2)) (xs (i + 3)) (xs (i + 4))) (rel_okM h.2 hn6)) (sm_fetch hn6 h (xs (i + 1)) (xs (i + 2)) (xs (i + 3)) (xs (i + 4))).1 (sm_fetch hn6 h (xs (i + 1)) (xs (i + 2)) (xs (i + 3)) (xs (i + 4))).2 (by omega) hl (by omega) (by omega) kk
theorem lm_grid (C : LH p s m meth c D cy b L i xs) (G : Gd D cy s.heap.size ad n S s.heap H locs) (ok : okM S) {v : Int32} (hv : v = (f_X10_grid S (xs (i + 1)) (xs (i + 2)) (xs (i + 3))).1) (hR : Rel n (f_X10_grid S (xs (i + 1)) (xs (i + 2)) (xs (i + 3))).2) (hn : 5 * n ≤ i + 5) (hl : lv_has ls 4 [(3, .int (nI i)), (2, .ref (ad 17 0)), (1, .ref (ad 0 0)), (0, .ref b)]) (hc1 : cells ≤ 78 + i + 1) (hc2 : slots ≤ 3689 + 4 * i + 4) (kk : LK p l e s m below meth c Q D cy b i) : W p l e room_1 s m #[Value.ref b] below meth c H locs cells slots Q (F0 m 846 ls [.int v]) := by
  obtain ⟨E, hX, hbl, hi, hL⟩ := id C
  obtain ⟨hx, hb, hr, hml, hown, hw, hlk, hK, hF, hsz⟩ := id E
  refine lv_aload_n hx hb dL_law_846 rfl (lv_at hl 1 rfl) ?_
  refine l_arg hx hb hX hbl G.2.2 hi hL hl 1 (by decide) (by decide +kernel) dL_law_847 dL_law_848 dL_law_849 dL_law_850 dL_law_851 ?_
  refine l_arg hx hb hX hbl G.2.2 hi hL hl 2 (by decide) (by decide +kernel) dL_law_852 dL_law_853 dL_law_854 dL_law_855 dL_law_856 ?_
  refine l_arg hx hb hX hbl G.2.2 hi hL hl 3 (by decide) (by decide +kernel) dL_law_857 dL_law_858 dL_law_859 dL_law_860 dL_law_861 ?_
  refine q_cV (rest := [.int v]) E G 17 0 c17 sg_17 (C := RX10) (T := TX10) (N := 21) rfl (k_X10_grid l D cy s.heap.size ad n S ok (xs (i + 1)) (xs (i + 2)) (xs (i + 3))) tb_601 tb_602 tb_603 tb_6 tb_604 (nn := 3) (by decide +kernel) ⟨by decide, by decide⟩ rfl hl.1 rfl (Nat.le_of_ble_eq_true rfl) dL_law_862 ⟨by show cells ≤ 600000; omega, by show slots ≤ 7302250; omega⟩ (fun H locs G => ?_)
  refine lv_icmp_eq (tgt := 1114) hx hb dL_law_865 (by decide) (fun _ => ?_) (fun h => absurd hv h)
  exact W.widen hc1 hc2 (kk ad n _ H locs ls hR hn G hl)
theorem lc_grid (C : LH p s m meth c D cy b L i xs) (hn : 5 * n ≤ i) (h : Rel n S) (G : Gd D cy s.heap.size ad n S s.heap H locs) (hl : lv_has ls 4 [(3, .int (nI i)), (2, .ref (ad 17 0)), (1, .ref (ad 0 0)), (0, .ref b)]) (kk : LK p l e s m below meth c Q D cy b i) : W p l e room_1 s m #[Value.ref b] below meth c H locs (78 + i) (3689 + 4 * i) Q (F0 m 827 ls []) := by
  obtain ⟨E, hX, hbl, hi, hL⟩ := id C
  obtain ⟨hx, hb, hr, hml, hown, hw, hlk, hK, hF, hsz⟩ := id E
  have hn6 : n < 600 := by omega
  refine lv_aload_n hx hb dL_law_827 rfl (lv_at hl 2 rfl) ?_
  refine l_arg hx hb hX hbl G.2.2 hi hL hl 1 (by decide) (by decide +kernel) dL_law_828 dL_law_829 dL_law_830 dL_law_831 dL_law_832 ?_
  refine l_arg hx hb hX hbl G.2.2 hi hL hl 2 (by decide) (by decide +kernel) dL_law_833 dL_law_834 dL_law_835 dL_law_836 dL_law_837 ?_
  refine l_arg hx hb hX hbl G.2.2 hi hL hl 3 (by decide) (by decide +kernel) dL_law_838 dL_law_839 dL_law_840 dL_law_841 dL_law_842 ?_
  refine q_cV (rest := []) E G 0 0 c0 sg_0 (C := RX9) (T := TX9) (N := 10) rfl (k_X9_grid l D cy s.heap.size ad n S (rel_okC h.2) (xs (i + 1)) (xs (i + 2)) (xs (i + 3))) tb_367 tb_368 tb_369 tb_1 tb_370 (nn := 3) (by decide +kernel) ⟨by decide, by decide⟩ rfl hl.1 rfl (Nat.le_of_ble_eq_true rfl) dL_law_843 ⟨by show 78 + i ≤ 600000; omega, by show 3689 + 4 * i ≤ 7302250; omega⟩ (fun H locs G => ?_)
  exact lm_grid C G (Kp.toM (kq_grid S (xs (i + 1)) (xs (i + 2)) (xs (i + 3))) (rel_okM h.2 hn6)) (sm_grid hn6 h (xs (i + 1)) (xs (i + 2)) (xs (i + 3))).1 (sm_grid hn6 h (xs (i + 1)) (xs (i + 2)) (xs (i + 3))).2 (by omega) hl (by omega) (by omega) kk
theorem lm_strike (C : LH p s m meth c D cy b L i xs) (G : Gd D cy s.heap.size ad n S s.heap H locs) (ok : okM S) {v : Int32} (hv : v = (f_X10_strike S (xs (i + 1)) (xs (i + 2))).1) (hR : Rel n (f_X10_strike S (xs (i + 1)) (xs (i + 2))).2) (hn : 5 * n ≤ i + 5) (hl : lv_has ls 4 [(3, .int (nI i)), (2, .ref (ad 17 0)), (1, .ref (ad 0 0)), (0, .ref b)]) (hc1 : cells ≤ 78 + i + 1) (hc2 : slots ≤ 3689 + 4 * i + 4) (kk : LK p l e s m below meth c Q D cy b i) : W p l e room_1 s m #[Value.ref b] below meth c H locs cells slots Q (F0 m 884 ls [.int v]) := by
  obtain ⟨E, hX, hbl, hi, hL⟩ := id C
  obtain ⟨hx, hb, hr, hml, hown, hw, hlk, hK, hF, hsz⟩ := id E
  refine lv_aload_n hx hb dL_law_884 rfl (lv_at hl 1 rfl) ?_
  refine l_arg hx hb hX hbl G.2.2 hi hL hl 1 (by decide) (by decide +kernel) dL_law_885 dL_law_886 dL_law_887 dL_law_888 dL_law_889 ?_
  refine l_arg hx hb hX hbl G.2.2 hi hL hl 2 (by decide) (by decide +kernel) dL_law_890 dL_law_891 dL_law_892 dL_law_893 dL_law_894 ?_
  refine q_cV (rest := [.int v]) E G 17 0 c17 sg_17 (C := RX10) (T := TX10) (N := 21) rfl (k_X10_strike l D cy s.heap.size ad n S ok (xs (i + 1)) (xs (i + 2))) tb_605 tb_606 tb_607 tb_6 tb_608 (nn := 2) (by decide +kernel) ⟨by decide, by decide⟩ rfl hl.1 rfl (Nat.le_of_ble_eq_true rfl) dL_law_895 ⟨by show cells ≤ 600000; omega, by show slots ≤ 7302250; omega⟩ (fun H locs G => ?_)
  refine lv_icmp_eq (tgt := 1114) hx hb dL_law_898 (by decide) (fun _ => ?_) (fun h => absurd hv h)
  exact W.widen hc1 hc2 (kk ad n _ H locs ls hR hn G hl)
theorem lc_strike (C : LH p s m meth c D cy b L i xs) (hn : 5 * n ≤ i) (h : Rel n S) (G : Gd D cy s.heap.size ad n S s.heap H locs) (hl : lv_has ls 4 [(3, .int (nI i)), (2, .ref (ad 17 0)), (1, .ref (ad 0 0)), (0, .ref b)]) (kk : LK p l e s m below meth c Q D cy b i) : W p l e room_1 s m #[Value.ref b] below meth c H locs (78 + i) (3689 + 4 * i) Q (F0 m 870 ls []) := by
  obtain ⟨E, hX, hbl, hi, hL⟩ := id C
  obtain ⟨hx, hb, hr, hml, hown, hw, hlk, hK, hF, hsz⟩ := id E
  have hn6 : n < 600 := by omega
  refine lv_aload_n hx hb dL_law_870 rfl (lv_at hl 2 rfl) ?_
  refine l_arg hx hb hX hbl G.2.2 hi hL hl 1 (by decide) (by decide +kernel) dL_law_871 dL_law_872 dL_law_873 dL_law_874 dL_law_875 ?_
  refine l_arg hx hb hX hbl G.2.2 hi hL hl 2 (by decide) (by decide +kernel) dL_law_876 dL_law_877 dL_law_878 dL_law_879 dL_law_880 ?_
  refine q_cV (rest := []) E G 0 0 c0 sg_0 (C := RX9) (T := TX9) (N := 10) rfl (k_X9_strike l D cy s.heap.size ad n S (rel_okC h.2) (xs (i + 1)) (xs (i + 2))) tb_376 tb_377 tb_378 tb_1 tb_379 (nn := 2) (by decide +kernel) ⟨by decide, by decide⟩ rfl hl.1 rfl (Nat.le_of_ble_eq_true rfl) dL_law_881 ⟨by show 78 + i ≤ 600000; omega, by show 3689 + 4 * i ≤ 7302250; omega⟩ (fun H locs G => ?_)
  exact lm_strike C G (Kp.toM (kq_strike S (xs (i + 1)) (xs (i + 2))) (rel_okM h.2 hn6)) (sm_strike hn6 h (xs (i + 1)) (xs (i + 2))).1 (sm_strike hn6 h (xs (i + 1)) (xs (i + 2))).2 (by omega) hl (by omega) (by omega) kk
theorem lm_mark (C : LH p s m meth c D cy b L i xs) (G : Gd D cy s.heap.size ad n S s.heap H locs) (ok : okM S) {v : Int32} (hv : v = (f_X10_mark S (xs (i + 1)) (xs (i + 2)) (xs (i + 3)) (xs (i + 4))).1) (hR : Rel n (f_X10_mark S (xs (i + 1)) (xs (i + 2)) (xs (i + 3)) (xs (i + 4))).2) (hn : 5 * n ≤ i + 5) (hl : lv_has ls 4 [(3, .int (nI i)), (2, .ref (ad 17 0)), (1, .ref (ad 0 0)), (0, .ref b)]) (hc1 : cells ≤ 78 + i + 1) (hc2 : slots ≤ 3689 + 4 * i + 4) (kk : LK p l e s m below meth c Q D cy b i) : W p l e room_1 s m #[Value.ref b] below meth c H locs cells slots Q (F0 m 927 ls [.int v]) := by
  obtain ⟨E, hX, hbl, hi, hL⟩ := id C
  obtain ⟨hx, hb, hr, hml, hown, hw, hlk, hK, hF, hsz⟩ := id E
  refine lv_aload_n hx hb dL_law_927 rfl (lv_at hl 1 rfl) ?_
  refine l_arg hx hb hX hbl G.2.2 hi hL hl 1 (by decide) (by decide +kernel) dL_law_928 dL_law_929 dL_law_930 dL_law_931 dL_law_932 ?_
  refine l_arg hx hb hX hbl G.2.2 hi hL hl 2 (by decide) (by decide +kernel) dL_law_933 dL_law_934 dL_law_935 dL_law_936 dL_law_937 ?_
  refine l_arg hx hb hX hbl G.2.2 hi hL hl 3 (by decide) (by decide +kernel) dL_law_938 dL_law_939 dL_law_940 dL_law_941 dL_law_942 ?_
  refine l_arg hx hb hX hbl G.2.2 hi hL hl 4 (by decide) (by decide +kernel) dL_law_943 dL_law_944 dL_law_945 dL_law_946 dL_law_947 ?_
  refine q_cV (rest := [.int v]) E G 17 0 c17 sg_17 (C := RX10) (T := TX10) (N := 21) rfl (k_X10_mark l D cy s.heap.size ad n S ok (xs (i + 1)) (xs (i + 2)) (xs (i + 3)) (xs (i + 4))) tb_609 tb_610 tb_611 tb_6 tb_612 (nn := 4) (by decide +kernel) ⟨by decide, by decide⟩ rfl hl.1 rfl (Nat.le_of_ble_eq_true rfl) dL_law_948 ⟨by show cells ≤ 600000; omega, by show slots ≤ 7302250; omega⟩ (fun H locs G => ?_)
  refine lv_icmp_eq (tgt := 1114) hx hb dL_law_951 (by decide) (fun _ => ?_) (fun h => absurd hv h)
  exact W.widen hc1 hc2 (kk ad n _ H locs ls hR hn G hl)
theorem lc_mark (C : LH p s m meth c D cy b L i xs) (hn : 5 * n ≤ i) (h : Rel n S) (G : Gd D cy s.heap.size ad n S s.heap H locs) (hl : lv_has ls 4 [(3, .int (nI i)), (2, .ref (ad 17 0)), (1, .ref (ad 0 0)), (0, .ref b)]) (kk : LK p l e s m below meth c Q D cy b i) : W p l e room_1 s m #[Value.ref b] below meth c H locs (78 + i) (3689 + 4 * i) Q (F0 m 903 ls []) := by
  obtain ⟨E, hX, hbl, hi, hL⟩ := id C
  obtain ⟨hx, hb, hr, hml, hown, hw, hlk, hK, hF, hsz⟩ := id E
  have hn6 : n < 600 := by omega
  refine lv_aload_n hx hb dL_law_903 rfl (lv_at hl 2 rfl) ?_
  refine l_arg hx hb hX hbl G.2.2 hi hL hl 1 (by decide) (by decide +kernel) dL_law_904 dL_law_905 dL_law_906 dL_law_907 dL_law_908 ?_
  refine l_arg hx hb hX hbl G.2.2 hi hL hl 2 (by decide) (by decide +kernel) dL_law_909 dL_law_910 dL_law_911 dL_law_912 dL_law_913 ?_
  refine l_arg hx hb hX hbl G.2.2 hi hL hl 3 (by decide) (by decide +kernel) dL_law_914 dL_law_915 dL_law_916 dL_law_917 dL_law_918 ?_
  refine l_arg hx hb hX hbl G.2.2 hi hL hl 4 (by decide) (by decide +kernel) dL_law_919 dL_law_920 dL_law_921 dL_law_922 dL_law_923 ?_
  refine q_cV (rest := []) E G 0 0 c0 sg_0 (C := RX9) (T := TX9) (N := 10) rfl (k_X9_mark l D cy s.heap.size ad n S (rel_okC h.2) (xs (i + 1)) (xs (i + 2)) (xs (i + 3)) (xs (i + 4))) tb_384 tb_385 tb_386 tb_1 tb_387 (nn := 4) (by decide +kernel) ⟨by decide, by decide⟩ rfl hl.1 rfl (Nat.le_of_ble_eq_true rfl) dL_law_924 ⟨by show 78 + i ≤ 600000; omega, by show 3689 + 4 * i ≤ 7302250; omega⟩ (fun H locs G => ?_)
  exact lm_mark C G (Kp.toM (kq_mark S (xs (i + 1)) (xs (i + 2)) (xs (i + 3)) (xs (i + 4))) (rel_okM h.2 hn6)) (sm_mark hn6 h (xs (i + 1)) (xs (i + 2)) (xs (i + 3)) (xs (i + 4))).1 (sm_mark hn6 h (xs (i + 1)) (xs (i + 2)) (xs (i + 3)) (xs (i + 4))).2 (by omega) hl (by omega) (by omega) kk
theorem lm_cell (C : LH p s m meth c D cy b L i xs) (G : Gd D cy s.heap.size ad n S s.heap H locs) (ok : okM S) {v : Int32} (hv : v = (f_X10_cell S (xs (i + 1)) (xs (i + 2)) (xs (i + 3))).1) (hR : Rel n (f_X10_cell S (xs (i + 1)) (xs (i + 2)) (xs (i + 3))).2) (hn : 5 * n ≤ i + 5) (hl : lv_has ls 4 [(3, .int (nI i)), (2, .ref (ad 17 0)), (1, .ref (ad 0 0)), (0, .ref b)]) (hc1 : cells ≤ 78 + i + 1) (hc2 : slots ≤ 3689 + 4 * i + 4) (kk : LK p l e s m below meth c Q D cy b i) : W p l e room_1 s m #[Value.ref b] below meth c H locs cells slots Q (F0 m 975 ls [.int v]) := by
  obtain ⟨E, hX, hbl, hi, hL⟩ := id C
  obtain ⟨hx, hb, hr, hml, hown, hw, hlk, hK, hF, hsz⟩ := id E
  refine lv_aload_n hx hb dL_law_975 rfl (lv_at hl 1 rfl) ?_
  refine l_arg hx hb hX hbl G.2.2 hi hL hl 1 (by decide) (by decide +kernel) dL_law_976 dL_law_977 dL_law_978 dL_law_979 dL_law_980 ?_
  refine l_arg hx hb hX hbl G.2.2 hi hL hl 2 (by decide) (by decide +kernel) dL_law_981 dL_law_982 dL_law_983 dL_law_984 dL_law_985 ?_
  refine l_arg hx hb hX hbl G.2.2 hi hL hl 3 (by decide) (by decide +kernel) dL_law_986 dL_law_987 dL_law_988 dL_law_989 dL_law_990 ?_
  refine q_cV (rest := [.int v]) E G 17 0 c17 sg_17 (C := RX10) (T := TX10) (N := 21) rfl (k_X10_cell l D cy s.heap.size ad n S ok (xs (i + 1)) (xs (i + 2)) (xs (i + 3))) tb_617 tb_618 tb_619 tb_6 tb_620 (nn := 3) (by decide +kernel) ⟨by decide, by decide⟩ rfl hl.1 rfl (Nat.le_of_ble_eq_true rfl) dL_law_991 ⟨by show cells ≤ 600000; omega, by show slots ≤ 7302250; omega⟩ (fun H locs G => ?_)
  refine lv_icmp_eq (tgt := 1114) hx hb dL_law_994 (by decide) (fun _ => ?_) (fun h => absurd hv h)
  exact W.widen hc1 hc2 (kk ad n _ H locs ls hR hn G hl)
theorem lc_cell (C : LH p s m meth c D cy b L i xs) (hn : 5 * n ≤ i) (h : Rel n S) (G : Gd D cy s.heap.size ad n S s.heap H locs) (hl : lv_has ls 4 [(3, .int (nI i)), (2, .ref (ad 17 0)), (1, .ref (ad 0 0)), (0, .ref b)]) (kk : LK p l e s m below meth c Q D cy b i) : W p l e room_1 s m #[Value.ref b] below meth c H locs (78 + i) (3689 + 4 * i) Q (F0 m 956 ls []) := by
  obtain ⟨E, hX, hbl, hi, hL⟩ := id C
  obtain ⟨hx, hb, hr, hml, hown, hw, hlk, hK, hF, hsz⟩ := id E
  have hn6 : n < 600 := by omega
  refine lv_aload_n hx hb dL_law_956 rfl (lv_at hl 2 rfl) ?_
  refine l_arg hx hb hX hbl G.2.2 hi hL hl 1 (by decide) (by decide +kernel) dL_law_957 dL_law_958 dL_law_959 dL_law_960 dL_law_961 ?_
  refine l_arg hx hb hX hbl G.2.2 hi hL hl 2 (by decide) (by decide +kernel) dL_law_962 dL_law_963 dL_law_964 dL_law_965 dL_law_966 ?_
  refine l_arg hx hb hX hbl G.2.2 hi hL hl 3 (by decide) (by decide +kernel) dL_law_967 dL_law_968 dL_law_969 dL_law_970 dL_law_971 ?_
  refine q_cV (rest := []) E G 0 0 c0 sg_0 (C := RX9) (T := TX9) (N := 10) rfl (k_X9_cell l D cy s.heap.size ad n S (rel_okC h.2) (xs (i + 1)) (xs (i + 2)) (xs (i + 3))) tb_391 tb_392 tb_393 tb_1 tb_394 (nn := 3) (by decide +kernel) ⟨by decide, by decide⟩ rfl hl.1 rfl (Nat.le_of_ble_eq_true rfl) dL_law_972 ⟨by show 78 + i ≤ 600000; omega, by show 3689 + 4 * i ≤ 7302250; omega⟩ (fun H locs G => ?_)
  exact lm_cell C G (Kp.toM (kq_cell S (xs (i + 1)) (xs (i + 2)) (xs (i + 3))) (rel_okM h.2 hn6)) (sm_cell hn6 h (xs (i + 1)) (xs (i + 2)) (xs (i + 3))).1 (sm_cell hn6 h (xs (i + 1)) (xs (i + 2)) (xs (i + 3))).2 (by omega) hl (by omega) (by omega) kk
theorem lm_alarm (C : LH p s m meth c D cy b L i xs) (G : Gd D cy s.heap.size ad n S s.heap H locs) (ok : okM S) {v : Int32} (hv : v = (f_X10_alarm S (xs (i + 1)) (xs (i + 2))).1) (hR : Rel n (f_X10_alarm S (xs (i + 1)) (xs (i + 2))).2) (hn : 5 * n ≤ i + 5) (hl : lv_has ls 4 [(3, .int (nI i)), (2, .ref (ad 17 0)), (1, .ref (ad 0 0)), (0, .ref b)]) (hc1 : cells ≤ 78 + i + 1) (hc2 : slots ≤ 3689 + 4 * i + 4) (kk : LK p l e s m below meth c Q D cy b i) : W p l e room_1 s m #[Value.ref b] below meth c H locs cells slots Q (F0 m 1013 ls [.int v]) := by
  obtain ⟨E, hX, hbl, hi, hL⟩ := id C
  obtain ⟨hx, hb, hr, hml, hown, hw, hlk, hK, hF, hsz⟩ := id E
  refine lv_aload_n hx hb dL_law_1013 rfl (lv_at hl 1 rfl) ?_
  refine l_arg hx hb hX hbl G.2.2 hi hL hl 1 (by decide) (by decide +kernel) dL_law_1014 dL_law_1015 dL_law_1016 dL_law_1017 dL_law_1018 ?_
  refine l_arg hx hb hX hbl G.2.2 hi hL hl 2 (by decide) (by decide +kernel) dL_law_1019 dL_law_1020 dL_law_1021 dL_law_1022 dL_law_1023 ?_
  refine q_cV (rest := [.int v]) E G 17 0 c17 sg_17 (C := RX10) (T := TX10) (N := 21) rfl (k_X10_alarm l D cy s.heap.size ad n S ok (xs (i + 1)) (xs (i + 2))) tb_621 tb_622 tb_623 tb_6 tb_624 (nn := 2) (by decide +kernel) ⟨by decide, by decide⟩ rfl hl.1 rfl (Nat.le_of_ble_eq_true rfl) dL_law_1024 ⟨by show cells ≤ 600000; omega, by show slots ≤ 7302250; omega⟩ (fun H locs G => ?_)
  refine lv_icmp_eq (tgt := 1114) hx hb dL_law_1027 (by decide) (fun _ => ?_) (fun h => absurd hv h)
  exact W.widen hc1 hc2 (kk ad n _ H locs ls hR hn G hl)
theorem lc_alarm (C : LH p s m meth c D cy b L i xs) (hn : 5 * n ≤ i) (h : Rel n S) (G : Gd D cy s.heap.size ad n S s.heap H locs) (hl : lv_has ls 4 [(3, .int (nI i)), (2, .ref (ad 17 0)), (1, .ref (ad 0 0)), (0, .ref b)]) (kk : LK p l e s m below meth c Q D cy b i) : W p l e room_1 s m #[Value.ref b] below meth c H locs (78 + i) (3689 + 4 * i) Q (F0 m 999 ls []) := by
  obtain ⟨E, hX, hbl, hi, hL⟩ := id C
  obtain ⟨hx, hb, hr, hml, hown, hw, hlk, hK, hF, hsz⟩ := id E
  have hn6 : n < 600 := by omega
  refine lv_aload_n hx hb dL_law_999 rfl (lv_at hl 2 rfl) ?_
  refine l_arg hx hb hX hbl G.2.2 hi hL hl 1 (by decide) (by decide +kernel) dL_law_1000 dL_law_1001 dL_law_1002 dL_law_1003 dL_law_1004 ?_
  refine l_arg hx hb hX hbl G.2.2 hi hL hl 2 (by decide) (by decide +kernel) dL_law_1005 dL_law_1006 dL_law_1007 dL_law_1008 dL_law_1009 ?_
  refine q_cV (rest := []) E G 0 0 c0 sg_0 (C := RX9) (T := TX9) (N := 10) rfl (k_X9_alarm l D cy s.heap.size ad n S (rel_okC h.2) (xs (i + 1)) (xs (i + 2))) tb_395 tb_396 tb_397 tb_1 tb_398 (nn := 2) (by decide +kernel) ⟨by decide, by decide⟩ rfl hl.1 rfl (Nat.le_of_ble_eq_true rfl) dL_law_1010 ⟨by show 78 + i ≤ 600000; omega, by show 3689 + 4 * i ≤ 7302250; omega⟩ (fun H locs G => ?_)
  exact lm_alarm C G (Kp.toM (kq_alarm S (xs (i + 1)) (xs (i + 2))) (rel_okM h.2 hn6)) (sm_alarm hn6 h (xs (i + 1)) (xs (i + 2))).1 (sm_alarm hn6 h (xs (i + 1)) (xs (i + 2))).2 (by omega) hl (by omega) (by omega) kk
theorem lm_calm (C : LH p s m meth c D cy b L i xs) (G : Gd D cy s.heap.size ad n S s.heap H locs) (ok : okM S) {v : Int32} (hv : v = (f_X10_calm S (xs (i + 1))).1) (hR : Rel n (f_X10_calm S (xs (i + 1))).2) (hn : 5 * n ≤ i + 5) (hl : lv_has ls 4 [(3, .int (nI i)), (2, .ref (ad 17 0)), (1, .ref (ad 0 0)), (0, .ref b)]) (hc1 : cells ≤ 78 + i + 1) (hc2 : slots ≤ 3689 + 4 * i + 4) (kk : LK p l e s m below meth c Q D cy b i) : W p l e room_1 s m #[Value.ref b] below meth c H locs cells slots Q (F0 m 1041 ls [.int v]) := by
  obtain ⟨E, hX, hbl, hi, hL⟩ := id C
  obtain ⟨hx, hb, hr, hml, hown, hw, hlk, hK, hF, hsz⟩ := id E
  refine lv_aload_n hx hb dL_law_1041 rfl (lv_at hl 1 rfl) ?_
  refine l_arg hx hb hX hbl G.2.2 hi hL hl 1 (by decide) (by decide +kernel) dL_law_1042 dL_law_1043 dL_law_1044 dL_law_1045 dL_law_1046 ?_
  refine q_cV (rest := [.int v]) E G 17 0 c17 sg_17 (C := RX10) (T := TX10) (N := 21) rfl (k_X10_calm l D cy s.heap.size ad n S ok (xs (i + 1))) tb_625 tb_626 tb_627 tb_6 tb_628 (nn := 1) (by decide +kernel) ⟨by decide, by decide⟩ rfl hl.1 rfl (Nat.le_of_ble_eq_true rfl) dL_law_1047 ⟨by show cells ≤ 600000; omega, by show slots ≤ 7302250; omega⟩ (fun H locs G => ?_)
  refine lv_icmp_eq (tgt := 1114) hx hb dL_law_1050 (by decide) (fun _ => ?_) (fun h => absurd hv h)
  exact W.widen hc1 hc2 (kk ad n _ H locs ls hR hn G hl)
theorem lc_calm (C : LH p s m meth c D cy b L i xs) (hn : 5 * n ≤ i) (h : Rel n S) (G : Gd D cy s.heap.size ad n S s.heap H locs) (hl : lv_has ls 4 [(3, .int (nI i)), (2, .ref (ad 17 0)), (1, .ref (ad 0 0)), (0, .ref b)]) (kk : LK p l e s m below meth c Q D cy b i) : W p l e room_1 s m #[Value.ref b] below meth c H locs (78 + i) (3689 + 4 * i) Q (F0 m 1032 ls []) := by
  obtain ⟨E, hX, hbl, hi, hL⟩ := id C
  obtain ⟨hx, hb, hr, hml, hown, hw, hlk, hK, hF, hsz⟩ := id E
  have hn6 : n < 600 := by omega
  refine lv_aload_n hx hb dL_law_1032 rfl (lv_at hl 2 rfl) ?_
  refine l_arg hx hb hX hbl G.2.2 hi hL hl 1 (by decide) (by decide +kernel) dL_law_1033 dL_law_1034 dL_law_1035 dL_law_1036 dL_law_1037 ?_
  refine q_cV (rest := []) E G 0 0 c0 sg_0 (C := RX9) (T := TX9) (N := 10) rfl (k_X9_calm l D cy s.heap.size ad n S (rel_okC h.2) (xs (i + 1))) tb_399 tb_400 tb_401 tb_1 tb_402 (nn := 1) (by decide +kernel) ⟨by decide, by decide⟩ rfl hl.1 rfl (Nat.le_of_ble_eq_true rfl) dL_law_1038 ⟨by show 78 + i ≤ 600000; omega, by show 3689 + 4 * i ≤ 7302250; omega⟩ (fun H locs G => ?_)
  exact lm_calm C G (Kp.toM (kq_calm S (xs (i + 1))) (rel_okM h.2 hn6)) (sm_calm hn6 h (xs (i + 1))).1 (sm_calm hn6 h (xs (i + 1))).2 (by omega) hl (by omega) (by omega) kk
theorem lm_let (C : LH p s m meth c D cy b L i xs) (G : Gd D cy s.heap.size ad n S s.heap H locs) (ok : okM S) {v : Int32} (hv : v = (f_X10_let S (xs (i + 1))).1) (hR : Rel n (f_X10_let S (xs (i + 1))).2) (hn : 5 * n ≤ i + 5) (hl : lv_has ls 4 [(3, .int (nI i)), (2, .ref (ad 17 0)), (1, .ref (ad 0 0)), (0, .ref b)]) (hc1 : cells ≤ 78 + i + 1) (hc2 : slots ≤ 3689 + 4 * i + 4) (kk : LK p l e s m below meth c Q D cy b i) : W p l e room_1 s m #[Value.ref b] below meth c H locs cells slots Q (F0 m 1064 ls [.int v]) := by
  obtain ⟨E, hX, hbl, hi, hL⟩ := id C
  obtain ⟨hx, hb, hr, hml, hown, hw, hlk, hK, hF, hsz⟩ := id E
  refine lv_aload_n hx hb dL_law_1064 rfl (lv_at hl 1 rfl) ?_
  refine l_arg hx hb hX hbl G.2.2 hi hL hl 1 (by decide) (by decide +kernel) dL_law_1065 dL_law_1066 dL_law_1067 dL_law_1068 dL_law_1069 ?_
  refine q_cV (rest := [.int v]) E G 17 0 c17 sg_17 (C := RX10) (T := TX10) (N := 21) rfl (k_X10_let l D cy s.heap.size ad n S ok (xs (i + 1))) tb_629 tb_630 tb_631 tb_6 tb_632 (nn := 1) (by decide +kernel) ⟨by decide, by decide⟩ rfl hl.1 rfl (Nat.le_of_ble_eq_true rfl) dL_law_1070 ⟨by show cells ≤ 600000; omega, by show slots ≤ 7302250; omega⟩ (fun H locs G => ?_)
  refine lv_icmp_eq (tgt := 1114) hx hb dL_law_1073 (by decide) (fun _ => ?_) (fun h => absurd hv h)
  exact W.widen hc1 hc2 (kk ad n _ H locs ls hR hn G hl)
theorem lc_let (C : LH p s m meth c D cy b L i xs) (hn : 5 * n ≤ i) (h : Rel n S) (G : Gd D cy s.heap.size ad n S s.heap H locs) (hl : lv_has ls 4 [(3, .int (nI i)), (2, .ref (ad 17 0)), (1, .ref (ad 0 0)), (0, .ref b)]) (kk : LK p l e s m below meth c Q D cy b i) : W p l e room_1 s m #[Value.ref b] below meth c H locs (78 + i) (3689 + 4 * i) Q (F0 m 1055 ls []) := by
  obtain ⟨E, hX, hbl, hi, hL⟩ := id C
  obtain ⟨hx, hb, hr, hml, hown, hw, hlk, hK, hF, hsz⟩ := id E
  have hn6 : n < 600 := by omega
  refine lv_aload_n hx hb dL_law_1055 rfl (lv_at hl 2 rfl) ?_
  refine l_arg hx hb hX hbl G.2.2 hi hL hl 1 (by decide) (by decide +kernel) dL_law_1056 dL_law_1057 dL_law_1058 dL_law_1059 dL_law_1060 ?_
  refine q_cV (rest := []) E G 0 0 c0 sg_0 (C := RX9) (T := TX9) (N := 10) rfl (k_X9_let l D cy s.heap.size ad n S (rel_okC h.2) (xs (i + 1))) tb_403 tb_404 tb_405 tb_1 tb_406 (nn := 1) (by decide +kernel) ⟨by decide, by decide⟩ rfl hl.1 rfl (Nat.le_of_ble_eq_true rfl) dL_law_1061 ⟨by show 78 + i ≤ 600000; omega, by show 3689 + 4 * i ≤ 7302250; omega⟩ (fun H locs G => ?_)
  exact lm_let C G (Kp.toM (kq_let S (xs (i + 1))) (rel_okM h.2 hn6)) (sm_let hn6 h (xs (i + 1))).1 (sm_let hn6 h (xs (i + 1))).2 (by omega) hl (by omega) (by omega) kk
theorem lm_why (C : LH p s m meth c D cy b L i xs) (G : Gd D cy s.heap.size ad n S s.heap H locs) (ok : okM S) {v : Int32} (hv : v = (f_X10_why S).1) (hR : Rel n (f_X10_why S).2) (hn : 5 * n ≤ i + 5) (hl : lv_has ls 4 [(3, .int (nI i)), (2, .ref (ad 17 0)), (1, .ref (ad 0 0)), (0, .ref b)]) (hc1 : cells ≤ 78 + i + 1) (hc2 : slots ≤ 3689 + 4 * i + 4) (kk : LK p l e s m below meth c Q D cy b i) : W p l e room_1 s m #[Value.ref b] below meth c H locs cells slots Q (F0 m 1082 ls [.int v]) := by
  obtain ⟨E, hX, hbl, hi, hL⟩ := id C
  obtain ⟨hx, hb, hr, hml, hown, hw, hlk, hK, hF, hsz⟩ := id E
  refine lv_aload_n hx hb dL_law_1082 rfl (lv_at hl 1 rfl) ?_
  refine q_cV (rest := [.int v]) E G 17 0 c17 sg_17 (C := RX10) (T := TX10) (N := 21) rfl (k_X10_why l D cy s.heap.size ad n S ok) tb_633 tb_634 tb_635 tb_6 tb_636 (nn := 0) (by decide +kernel) ⟨by decide, by decide⟩ rfl hl.1 rfl (Nat.le_of_ble_eq_true rfl) dL_law_1083 ⟨by show cells ≤ 600000; omega, by show slots ≤ 7302250; omega⟩ (fun H locs G => ?_)
  refine lv_icmp_eq (tgt := 1114) hx hb dL_law_1086 (by decide) (fun _ => ?_) (fun h => absurd hv h)
  exact W.widen hc1 hc2 (kk ad n _ H locs ls hR hn G hl)
theorem lc_why (C : LH p s m meth c D cy b L i xs) (hn : 5 * n ≤ i) (h : Rel n S) (G : Gd D cy s.heap.size ad n S s.heap H locs) (hl : lv_has ls 4 [(3, .int (nI i)), (2, .ref (ad 17 0)), (1, .ref (ad 0 0)), (0, .ref b)]) (kk : LK p l e s m below meth c Q D cy b i) : W p l e room_1 s m #[Value.ref b] below meth c H locs (78 + i) (3689 + 4 * i) Q (F0 m 1078 ls []) := by
  obtain ⟨E, hX, hbl, hi, hL⟩ := id C
  obtain ⟨hx, hb, hr, hml, hown, hw, hlk, hK, hF, hsz⟩ := id E
  have hn6 : n < 600 := by omega
  refine lv_aload_n hx hb dL_law_1078 rfl (lv_at hl 2 rfl) ?_
  refine q_cV (rest := []) E G 0 0 c0 sg_0 (C := RX9) (T := TX9) (N := 10) rfl (k_X9_why l D cy s.heap.size ad n S (rel_okC h.2)) tb_407 tb_408 tb_409 tb_1 tb_410 (nn := 0) (by decide +kernel) ⟨by decide, by decide⟩ rfl hl.1 rfl (Nat.le_of_ble_eq_true rfl) dL_law_1079 ⟨by show 78 + i ≤ 600000; omega, by show 3689 + 4 * i ≤ 7302250; omega⟩ (fun H locs G => ?_)
  exact lm_why C G (Kp.toM (kq_why S) (rel_okM h.2 hn6)) (sm_why hn6 h).1 (sm_why hn6 h).2 (by omega) hl (by omega) (by omega) kk
theorem lm_count (C : LH p s m meth c D cy b L i xs) (G : Gd D cy s.heap.size ad n S s.heap H locs) (ok : okM S) {v : Int32} (hv : v = (f_X10_count S (xs (i + 1))).1) (hR : Rel n (f_X10_count S (xs (i + 1))).2) (hn : 5 * n ≤ i + 5) (hl : lv_has ls 4 [(3, .int (nI i)), (2, .ref (ad 17 0)), (1, .ref (ad 0 0)), (0, .ref b)]) (hc1 : cells ≤ 78 + i + 1) (hc2 : slots ≤ 3689 + 4 * i + 4) (kk : LK p l e s m below meth c Q D cy b i) : W p l e room_1 s m #[Value.ref b] below meth c H locs cells slots Q (F0 m 1100 ls [.int v]) := by
  obtain ⟨E, hX, hbl, hi, hL⟩ := id C
  obtain ⟨hx, hb, hr, hml, hown, hw, hlk, hK, hF, hsz⟩ := id E
  refine lv_aload_n hx hb dL_law_1100 rfl (lv_at hl 1 rfl) ?_
  refine l_arg hx hb hX hbl G.2.2 hi hL hl 1 (by decide) (by decide +kernel) dL_law_1101 dL_law_1102 dL_law_1103 dL_law_1104 dL_law_1105 ?_
  refine q_cV (rest := [.int v]) E G 17 0 c17 sg_17 (C := RX10) (T := TX10) (N := 21) rfl (k_X10_count l D cy s.heap.size ad n S ok (xs (i + 1))) tb_637 tb_638 tb_639 tb_6 tb_640 (nn := 1) (by decide +kernel) ⟨by decide, by decide⟩ rfl hl.1 rfl (Nat.le_of_ble_eq_true rfl) dL_law_1106 ⟨by show cells ≤ 600000; omega, by show slots ≤ 7302250; omega⟩ (fun H locs G => ?_)
  refine lv_icmp_eq (tgt := 1114) hx hb dL_law_1109 (by decide) (fun _ => ?_) (fun h => absurd hv h)
  exact W.widen hc1 hc2 (kk ad n _ H locs ls hR hn G hl)
theorem lc_count (C : LH p s m meth c D cy b L i xs) (hn : 5 * n ≤ i) (h : Rel n S) (G : Gd D cy s.heap.size ad n S s.heap H locs) (hl : lv_has ls 4 [(3, .int (nI i)), (2, .ref (ad 17 0)), (1, .ref (ad 0 0)), (0, .ref b)]) (kk : LK p l e s m below meth c Q D cy b i) : W p l e room_1 s m #[Value.ref b] below meth c H locs (78 + i) (3689 + 4 * i) Q (F0 m 1091 ls []) := by
  obtain ⟨E, hX, hbl, hi, hL⟩ := id C
  obtain ⟨hx, hb, hr, hml, hown, hw, hlk, hK, hF, hsz⟩ := id E
  have hn6 : n < 600 := by omega
  refine lv_aload_n hx hb dL_law_1091 rfl (lv_at hl 2 rfl) ?_
  refine l_arg hx hb hX hbl G.2.2 hi hL hl 1 (by decide) (by decide +kernel) dL_law_1092 dL_law_1093 dL_law_1094 dL_law_1095 dL_law_1096 ?_
  refine q_cV (rest := []) E G 0 0 c0 sg_0 (C := RX9) (T := TX9) (N := 10) rfl (k_X9_count l D cy s.heap.size ad n S (rel_okC h.2) (xs (i + 1))) tb_411 tb_412 tb_413 tb_1 tb_414 (nn := 1) (by decide +kernel) ⟨by decide, by decide⟩ rfl hl.1 rfl (Nat.le_of_ble_eq_true rfl) dL_law_1097 ⟨by show 78 + i ≤ 600000; omega, by show 3689 + 4 * i ≤ 7302250; omega⟩ (fun H locs G => ?_)
  exact lm_count C G (Kp.toM (kq_count S (xs (i + 1))) (rel_okM h.2 hn6)) (sm_count hn6 h (xs (i + 1))).1 (sm_count hn6 h (xs (i + 1))).2 (by omega) hl (by omega) (by omega) kk
end LC
