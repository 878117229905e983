def vK (S : SS) (t : Nat) : Int32 := if S.1 16 t 4 = 0 then 0 else if S.1 16 t 4 = 1 then 1 else if S.1 16 t 4 = 2 then 2 else 3
def vW (S : SS) (t : Nat) : Int32 := if S.1 16 t 4 = 0 then 50 + S.1 16 t 0 else if S.1 16 t 4 = 1 then 10 else if S.1 16 t 4 = 2 then 12 else 5
def f_work (S : SS) (t : Nat) (force : Int32) : Int32 × SS := if S.1 16 t 4 = 0 then f_X4_work S t force else if S.1 16 t 4 = 1 then f_X0_work S t force else if S.1 16 t 4 = 2 then f_X1_work S t force else f_X2_work S t force
section TC
variable {p : Program} {l : Launch} {e : Env} {R : Room} {s : State} {m : MethodId} {args : Array Value} {below : List Frame} {meth : Method} {c : Code} {H : Heap} {locs : List Loc} {cells slots : Nat} {Q : State → Prop}
variable {cc : ByteArray} {mL : Nat} {rt : Option FieldType} {own : String} {pc : Nat} {ls : Array Slot} {st rest : List Value} {D : va_G} {cy : Nat → ClassId} {sz : Nat} {ad : Nat → Nat → Nat} {n : Nat} {S : SS}
variable {y : MethodName} {b : ByteArray} {k fr lo index nn : Nat} {r : Option FieldType} {As : List Value}
theorem q_t_kindNumber (E : En p s m args meth c cc mL rt RX9 D cy sz) (G : Gd D cy sz ad n S s.heap H locs) {t : Nat} (ht : t < n) (rest : List Value) (hR : 2 ≤ R.frames ∧ 43 ≤ R.locals) (hls : ls.size = mL) (hst : st = [.ref (ad 16 t)] ++ rest) (hrest : (rest.map fun v => v.category).sum ≤ 8) (hdg : decode cc pc = .ok (.invokevirtual 74, 3)) (hcs : cells ≤ R.cells ∧ slots ≤ R.slots)
    (kk : ∀ (H1 : Heap) (locs1 : List Loc), Gd D cy sz ad n S s.heap H1 locs1 → W p l e R s m args below meth c H1 locs1 cells slots Q (F0 m (pc + 3) ls (.int (vK S t) :: rest))) : W p l e R s m args below meth c H locs cells slots Q (F0 m pc ls st) := by
  rcases tE_cases (S.1 16 t) with ⟨h0, h⟩ | ⟨h0, h⟩ | ⟨h0, h⟩ | ⟨h0, h⟩
  · have e1 : vK S t = (f_X4_kindNumber S t).1 := by unfold vK; rw [if_pos h0]; rfl
    exact q_cA (F := f_X4_kindNumber S t) (x := ⟨"ToolRoom$Tool", "kindNumber", "()I"⟩) (owner := "ToolRoom$Tool") (rest := rest) E G 16 t (c16 ht) h (C := RX4) (T := TX4) (N := 3) rfl (k_X4_kindNumber l D cy sz ad n S t ht) tb_208 tb_210 tb_220 tb_221 tb_8 tb_222 (by decide) (nn := 0) (by decide +kernel) ⟨by show 0 + 1 ≤ _; omega, by show 8 + (1 + 11) + 0 ≤ _; omega⟩ rfl hls hst hrest hdg hcs (by rw [e1] at kk; exact kk)
  · have e1 : vK S t = (f_X0_kindNumber S t).1 := by unfold vK; rw [if_neg (by rw [h0]; decide), if_pos h0]; rfl
    exact q_cA (F := f_X0_kindNumber S t) (x := ⟨"ToolRoom$Tool", "kindNumber", "()I"⟩) (owner := "ToolRoom$Tool") (rest := rest) E G 16 t (c16 ht) h (C := RX0) (T := TX0) (N := 4) rfl (k_X0_kindNumber l D cy sz ad n S t ht) tb_208 tb_210 tb_211 tb_212 tb_9 tb_213 (by decide) (nn := 0) (by decide +kernel) ⟨by show 0 + 1 ≤ _; omega, by show 8 + (1 + 11) + 0 ≤ _; omega⟩ rfl hls hst hrest hdg hcs (by rw [e1] at kk; exact kk)
  · have e1 : vK S t = (f_X1_kindNumber S t).1 := by unfold vK; rw [if_neg (by rw [h0]; decide), if_neg (by rw [h0]; decide), if_pos h0]; rfl
    exact q_cA (F := f_X1_kindNumber S t) (x := ⟨"ToolRoom$Tool", "kindNumber", "()I"⟩) (owner := "ToolRoom$Tool") (rest := rest) E G 16 t (c16 ht) h (C := RX1) (T := TX1) (N := 4) rfl (k_X1_kindNumber l D cy sz ad n S t ht) tb_208 tb_210 tb_214 tb_215 tb_10 tb_216 (by decide) (nn := 0) (by decide +kernel) ⟨by show 0 + 1 ≤ _; omega, by show 8 + (1 + 11) + 0 ≤ _; omega⟩ rfl hls hst hrest hdg hcs (by rw [e1] at kk; exact kk)
  · have e1 : vK S t = (f_X2_kindNumber S t).1 := by unfold vK; rw [if_neg h0.1, if_neg h0.2.1, if_neg h0.2.2]; rfl
    exact q_cA (F := f_X2_kindNumber S t) (x := ⟨"ToolRoom$Tool", "kindNumber", "()I"⟩) (owner := "ToolRoom$Tool") (rest := rest) E G 16 t (c16 ht) h (C := RX2) (T := TX2) (N := 3) rfl (k_X2_kindNumber l D cy sz ad n S t ht) tb_208 tb_210 tb_217 tb_218 tb_11 tb_219 (by decide) (nn := 0) (by decide +kernel) ⟨by show 0 + 1 ≤ _; omega, by show 8 + (1 + 11) + 0 ≤ _; omega⟩ rfl hls hst hrest hdg hcs (by rw [e1] at kk; exact kk)
theorem q_t_weight (E : En p s m args meth c cc mL rt RX9 D cy sz) (G : Gd D cy sz ad n S s.heap H locs) {t : Nat} (ht : t < n) (rest : List Value) (hR : 2 ≤ R.frames ∧ 43 ≤ R.locals) (hls : ls.size = mL) (hst : st = [.ref (ad 16 t)] ++ rest) (hrest : (rest.map fun v => v.category).sum ≤ 8) (hdg : decode cc pc = .ok (.invokevirtual 97, 3)) (hcs : cells ≤ R.cells ∧ slots ≤ R.slots)
    (kk : ∀ (H1 : Heap) (locs1 : List Loc), Gd D cy sz ad n S s.heap H1 locs1 → W p l e R s m args below meth c H1 locs1 cells slots Q (F0 m (pc + 3) ls (.int (vW S t) :: rest))) : W p l e R s m args below meth c H locs cells slots Q (F0 m pc ls st) := by
  rcases tE_cases (S.1 16 t) with ⟨h0, h⟩ | ⟨h0, h⟩ | ⟨h0, h⟩ | ⟨h0, h⟩
  · have e1 : vW S t = (f_X4_weight S t).1 := by unfold vW; rw [if_pos h0]; rfl
    exact q_cA (F := f_X4_weight S t) (x := ⟨"ToolRoom$Tool", "weight", "()I"⟩) (owner := "ToolRoom$Tool") (rest := rest) E G 16 t (c16 ht) h (C := RX4) (T := TX4) (N := 3) rfl (k_X4_weight l D cy sz ad n S t ht) tb_251 tb_253 tb_263 tb_264 tb_8 tb_265 (by decide) (nn := 0) (by decide +kernel) ⟨by show 0 + 1 ≤ _; omega, by show 8 + (1 + 11) + 0 ≤ _; omega⟩ rfl hls hst hrest hdg hcs (by rw [e1] at kk; exact kk)
  · have e1 : vW S t = (f_X0_weight S t).1 := by unfold vW; rw [if_neg (by rw [h0]; decide), if_pos h0]; rfl
    exact q_cA (F := f_X0_weight S t) (x := ⟨"ToolRoom$Tool", "weight", "()I"⟩) (owner := "ToolRoom$Tool") (rest := rest) E G 16 t (c16 ht) h (C := RX0) (T := TX0) (N := 4) rfl (k_X0_weight l D cy sz ad n S t ht) tb_251 tb_253 tb_254 tb_255 tb_9 tb_256 (by decide) (nn := 0) (by decide +kernel) ⟨by show 0 + 1 ≤ _; omega, by show 8 + (1 + 11) + 0 ≤ _; omega⟩ rfl hls hst hrest hdg hcs (by rw [e1] at kk; exact kk)
  · have e1 : vW S t = (f_X1_weight S t).1 := by unfold vW; rw [if_neg (by rw [h0]; decide), if_neg (by rw [h0]; decide), if_pos h0]; rfl
    exact q_cA (F := f_X1_weight S t) (x := ⟨"ToolRoom$Tool", "weight", "()I"⟩) (owner := "ToolRoom$Tool") (rest := rest) E G 16 t (c16 ht) h (C := RX1) (T := TX1) (N := 4) rfl (k_X1_weight l D cy sz ad n S t ht) tb_251 tb_253 tb_257 tb_258 tb_10 tb_259 (by decide) (nn := 0) (by decide +kernel) ⟨by show 0 + 1 ≤ _; omega, by show 8 + (1 + 11) + 0 ≤ _; omega⟩ rfl hls hst hrest hdg hcs (by rw [e1] at kk; exact kk)
  · have e1 : vW S t = (f_X2_weight S t).1 := by unfold vW; rw [if_neg h0.1, if_neg h0.2.1, if_neg h0.2.2]; rfl
    exact q_cA (F := f_X2_weight S t) (x := ⟨"ToolRoom$Tool", "weight", "()I"⟩) (owner := "ToolRoom$Tool") (rest := rest) E G 16 t (c16 ht) h (C := RX2) (T := TX2) (N := 3) rfl (k_X2_weight l D cy sz ad n S t ht) tb_251 tb_253 tb_260 tb_261 tb_11 tb_262 (by decide) (nn := 0) (by decide +kernel) ⟨by show 0 + 1 ≤ _; omega, by show 8 + (1 + 11) + 0 ≤ _; omega⟩ rfl hls hst hrest hdg hcs (by rw [e1] at kk; exact kk)
theorem q_t_work (E : En p s m args meth c cc mL rt RX9 D cy sz) (G : Gd D cy sz ad n S s.heap H locs) {t : Nat} (ht : t < n) (rest : List Value) {force : Int32} (hR : 2 ≤ R.frames ∧ 43 ≤ R.locals) (hls : ls.size = mL) (hst : st = [.int force, .ref (ad 16 t)] ++ rest) (hrest : (rest.map fun v => v.category).sum ≤ 8) (hdg : decode cc pc = .ok (.invokevirtual 109, 3)) (hcs : cells ≤ R.cells ∧ slots ≤ R.slots)
    (kk : ∀ (H1 : Heap) (locs1 : List Loc), Gd D cy sz ad n (f_work S t force).2 s.heap H1 locs1 → W p l e R s m args below meth c H1 locs1 cells slots Q (F0 m (pc + 3) ls (.int (f_work S t force).1 :: rest))) : W p l e R s m args below meth c H locs cells slots Q (F0 m pc ls st) := by
  rcases tE_cases (S.1 16 t) with ⟨h0, h⟩ | ⟨h0, h⟩ | ⟨h0, h⟩ | ⟨h0, h⟩
  · have e1 : f_work S t force = f_X4_work S t force := by unfold f_work; rw [if_pos h0]
    exact q_cA (F := f_X4_work S t force) (x := ⟨"ToolRoom$Tool", "work", "(I)I"⟩) (owner := "ToolRoom$Tool") (rest := rest) E G 16 t (c16 ht) h (C := RX4) (T := TX4) (N := 3) rfl (k_X4_work l D cy sz ad n S t ht force) tb_278 tb_280 tb_291 tb_292 tb_8 tb_293 (by decide) (nn := 1) (by decide +kernel) ⟨by show 0 + 1 ≤ _; omega, by show 8 + (2 + 11) + 0 ≤ _; omega⟩ rfl hls hst hrest hdg hcs (by rw [e1] at kk; exact kk)
  · have e1 : f_work S t force = f_X0_work S t force := by unfold f_work; rw [if_neg (by rw [h0]; decide), if_pos h0]
    exact q_cA (F := f_X0_work S t force) (x := ⟨"ToolRoom$Tool", "work", "(I)I"⟩) (owner := "ToolRoom$Tool") (rest := rest) E G 16 t (c16 ht) h (C := RX0) (T := TX0) (N := 4) rfl (k_X0_work l D cy sz ad n S t ht (Or.inl h0) force) tb_278 tb_280 tb_281 tb_282 tb_9 tb_283 (by decide) (nn := 1) (by decide +kernel) ⟨by show 0 + 1 ≤ _; omega, by show 8 + (2 + 11) + 0 ≤ _; omega⟩ rfl hls hst hrest hdg hcs (by rw [e1] at kk; exact kk)
  · have e1 : f_work S t force = f_X1_work S t force := by unfold f_work; rw [if_neg (by rw [h0]; decide), if_neg (by rw [h0]; decide), if_pos h0]
    exact q_cA (F := f_X1_work S t force) (x := ⟨"ToolRoom$Tool", "work", "(I)I"⟩) (owner := "ToolRoom$Tool") (rest := rest) E G 16 t (c16 ht) h (C := RX1) (T := TX1) (N := 4) rfl (k_X1_work l D cy sz ad n S t ht h0 force) tb_278 tb_280 tb_284 tb_285 tb_10 tb_286 (by decide) (nn := 1) (by decide +kernel) ⟨by show 1 + 1 ≤ _; omega, by show 8 + (3 + 11) + 21 ≤ _; omega⟩ rfl hls hst hrest hdg hcs (by rw [e1] at kk; exact kk)
  · have e1 : f_work S t force = f_X2_work S t force := by unfold f_work; rw [if_neg h0.1, if_neg h0.2.1, if_neg h0.2.2]
    exact q_cA (F := f_X2_work S t force) (x := ⟨"ToolRoom$Tool", "work", "(I)I"⟩) (owner := "ToolRoom$Tool") (rest := rest) E G 16 t (c16 ht) h (C := RX2) (T := TX2) (N := 3) rfl (k_X2_work l D cy sz ad n S t ht force) tb_278 tb_280 tb_288 tb_289 tb_11 tb_290 (by decide) (nn := 1) (by decide +kernel) ⟨by show 0 + 1 ≤ _; omega, by show 8 + (3 + 11) + 0 ≤ _; omega⟩ rfl hls hst hrest hdg hcs (by rw [e1] at kk; exact kk)
end TC
def zf (r : Nat → Int32) (k : Nat) : Nat → Int32 := fun j => if j < k then 0 else r j
def zq (r : Nat → Option Nat) (k : Nat) : Nat → Option Nat := fun j => if j < k then none else r j
def zI (S : SS) (f i k : Nat) : SS := wI S f i (zf (S.1 f i) k)
def zR (S : SS) (f i k : Nat) : SS := wR S f i (zq (S.2 f i) k)
theorem wI_wI (S : SS) (f i : Nat) (a b : Nat → Int32) : wI (wI S f i a) f i b = wI S f i b := by
  unfold wI
  refine Prod.ext ?_ rfl
  funext g j
  by_cases h : g = f ∧ j = i <;> simp [h]
theorem wR_wR (S : SS) (f i : Nat) (a b : Nat → Option Nat) : wR (wR S f i a) f i b = wR S f i b := by
  unfold wR
  refine Prod.ext rfl ?_
  funext g j
  by_cases h : g = f ∧ j = i <;> simp [h]
theorem wI_same (S : SS) (f i : Nat) : wI S f i (S.1 f i) = S := by
  unfold wI
  refine Prod.ext ?_ rfl
  funext g j
  by_cases h : g = f ∧ j = i
  · obtain ⟨rfl, rfl⟩ := h; simp
  · simp [h]
theorem wR_same (S : SS) (f i : Nat) : wR S f i (S.2 f i) = S := by
  unfold wR
  refine Prod.ext rfl ?_
  funext g j
  by_cases h : g = f ∧ j = i
  · obtain ⟨rfl, rfl⟩ := h; simp
  · simp [h]
theorem zI_0 (S : SS) (f i : Nat) : zI S f i 0 = S := by
  have : zf (S.1 f i) 0 = S.1 f i := by funext j; simp [zf]
  rw [zI, this, wI_same]
theorem zR_0 (S : SS) (f i : Nat) : zR S f i 0 = S := by
  have : zq (S.2 f i) 0 = S.2 f i := by funext j; simp [zq]
  rw [zR, this, wR_same]
theorem zI_step (S : SS) (f i : Nat) {k : Nat} (hk : k < 2 ^ 31) : uI (zI S f i k) f i (nI k).toNatClampNeg 0 = zI S f i (k + 1) := by
  rw [nI_clamp hk, uI, zI, wI_eq, wI_wI, zI]
  congr 1
  funext j
  by_cases h : j = k
  · subst h; simp [upd, zf]
  · simp only [upd, zf, h, if_false]
    by_cases h2 : j < k
    · rw [if_pos h2, if_pos (by omega)]
    · rw [if_neg h2, if_neg (by omega)]
theorem zR_step (S : SS) (f i : Nat) {k : Nat} (hk : k < 2 ^ 31) : uR (zR S f i k) f i (nI k).toNatClampNeg none = zR S f i (k + 1) := by
  rw [nI_clamp hk, uR, zR, wR_eq, wR_wR, zR]
  congr 1
  funext j
  by_cases h : j = k
  · subst h; simp [va_up, zq]
  · simp only [va_up, zq, h, if_false]
    by_cases h2 : j < k
    · rw [if_pos h2, if_pos (by omega)]
    · rw [if_neg h2, if_neg (by omega)]
theorem ge_eq {i N : Nat} (hN : N < 2 ^ 31) (h1 : i ≤ N) (h : nI N ≤ nI i) : i = N := by
  have := (nI_leI hN (by omega)).mp h
  omega
theorem lt_of {i N : Nat} (hN : N < 2 ^ 31) (h1 : i ≤ N) (h : ¬ nI N ≤ nI i) : i < N := by
  rcases Nat.lt_or_ge i N with q | q
  · exact q
  · exact absurd (nI_le q (by omega)) h

set_option maxHeartbeats 4000000 in
set_option maxRecDepth 100000 in
theorem lp_X7_renew_8 {p : Program} {l : Launch} {e : Env} {R : Room} {s : State} {m : MethodId} {args : Array Value} {below : List Frame} {meth : Method} {c : Code} {Q : State → Prop} {D : va_G} {cy : Nat → ClassId} {sz : Nat} {ad : Nat → Nat → Nat} {n : Nat} {S : SS} {t : Nat} (ht : t < 4) (a : Int32) (E : En p s m args meth c cX7_renew 3 none RX7 D cy sz)
    (kx : ∀ (H : Heap) (locs : List Loc) (ls : Array Slot), Gd D cy sz ad n (zI S 9 t 20) s.heap H locs → lv_has ls 3 [(2, .int (nI 20)), (0, .ref (ad 8 t)), (1, .int a)] → W p l e R s m args below meth c H locs 0 0 Q (F0 m 24 ls [])) : ∀ (k i : Nat), i ≤ 20 → 20 + 1 ≤ i + k → ∀ (H : Heap) (locs : List Loc) (ls : Array Slot), Gd D cy sz ad n (zI S 9 t i) s.heap H locs → lv_has ls 3 [(2, .int (nI i)), (0, .ref (ad 8 t)), (1, .int a)] → W p l e R s m args below meth c H locs 0 0 Q (F0 m 2 ls []) := by
  obtain ⟨hx, hb, hrt, hml, hown, hw, hlk, hK, hF, hsz⟩ := id E
  intro k
  induction k with
  | zero => intro i g1 g2; exact absurd g2 (by omega)
  | succ k ih =>
    intro i g1 g2 H locs ls G hl
    refine lv_iload_n hx hb dX7_renew_2 rfl (lv_at hl 0 rfl) ?_
    refine lv_aload_n hx hb dX7_renew_3 rfl (lv_at hl 1 rfl) ?_
    refine q_get (index := 7) (ref := "ToolRoom$Row") E G inX7 8 t (c8 ht) sg_8 rfl 1 (by decide) tb_36 (Or.inl rfl) rfl dX7_renew_4 ?_
    refine q_alen (v := 20) E G 9 t (c9 ht) sa_9 rfl dX7_renew_7 ?_
    refine lv_icmp_ge (tgt := 24) hx hb dX7_renew_8 (by decide) (fun h1 => ?_) (fun h1 => ?_)
    · have e1 : i = 20 := ge_eq (N := 20) (by decide) g1 h1
      subst e1
      exact kx H locs ls G (lv_sub hl [0, 1, 2] rfl)
    · have hlt : i < 20 := lt_of (N := 20) (by decide) g1 h1
      refine lv_aload_n hx hb dX7_renew_11 rfl (lv_at hl 1 rfl) ?_
      refine q_get (index := 7) (ref := "ToolRoom$Row") E G inX7 8 t (c8 ht) sg_8 rfl 1 (by decide) tb_36 (Or.inl rfl) rfl dX7_renew_12 ?_
      refine lv_iload_n hx hb dX7_renew_15 rfl (lv_at hl 0 rfl) ?_
      refine lv_iconst (v := 0) hx hb dX7_renew_16 (by decide) ?_
      refine q_iast E G 9 t (c9 ht) (fun _ => sa_9) (vp_in_nI hlt (by decide)) dX7_renew_17 (fun H locs G => ?_)
      rw [zI_step S 9 t (by omega)] at G
      refine lv_iinc (v := (nI (i + 1))) (lv' := [(2, .int (nI (i + 1))), (0, .ref (ad 8 t)), (1, .int a)]) hx hb dX7_renew_18 hl (k := 0) rfl (nI_1 i) (by decide) rfl (fun ls hl => ?_)
      refine lv_goto (tgt := 2) hx hb dX7_renew_21 (by decide) ?_
      exact ih (i + 1) (by omega) (by omega) H locs ls G (lv_sub hl [0, 1, 2] rfl)

def f_row8 (S : SS) (t : Nat) (a : Int32) : SS := uI (zI S 9 t 20) 8 t 0 a
set_option maxHeartbeats 4000000 in
set_option maxRecDepth 100000 in
theorem k_X7_renew_8 (l : Launch) (D : va_G) (cy : Nat → ClassId) (sz : Nat) (ad : Nat → Nat → Nat) (n : Nat) (S : SS) (t : Nat) (ht : t < 4) (a : Int32) : CV l yX7_renew cX7_renew 3 0 0 [.ref (ad 8 t), .int a] D cy sz ad n S (f_row8 S t a) := by
  refine Met.enter (by decide) (Nat.le_of_ble_eq_true rfl) (fun p e s m args below meth c ls E G hl => ?_)
  have E : En p s m args meth c cX7_renew 3 none RX7 D cy sz := E
  obtain ⟨hx, hb, hrt, hml, hown, hw, hlk, hK, hF, hsz⟩ := id E
  have hl : lv_has ls 3 [(0, .ref (ad 8 t)), (1, .int a)] := hl
  refine lv_iconst (v := 0) hx hb dX7_renew_0 (by decide) ?_
  refine lv_istore_n (lv' := [(2, .int (nI 0)), (0, .ref (ad 8 t)), (1, .int a)]) hx hb dX7_renew_1 rfl hl (by decide) rfl (fun ls hl => ?_)
  refine lp_X7_renew_8 ht a E (fun H locs ls G hl => ?_) 21 0 (by omega) (by omega) s.heap [] ls (by rw [zI_0]; exact G) hl
  refine lv_aload_n hx hb dX7_renew_24 rfl (lv_at hl 1 rfl) ?_
  refine lv_iload_n hx hb dX7_renew_25 rfl (lv_at hl 2 rfl) ?_
  refine q_put (index := 13) (ref := "ToolRoom$Row") E G inX7 tyX7 tyX7_ok nmX7 8 t (c8 ht) 0 rfl rfl 0 (by decide) tb_41 (Or.inr tb_42) rfl (ty := .int) (by decide +kernel) rfl rfl (Nat.le_of_ble_eq_true rfl) rfl dX7_renew_26 (fun H locs G => ?_)
  exact q_vret E G rfl dX7_renew_29

set_option maxHeartbeats 4000000 in
set_option maxRecDepth 100000 in
theorem lp_X7_renew_14 {p : Program} {l : Launch} {e : Env} {R : Room} {s : State} {m : MethodId} {args : Array Value} {below : List Frame} {meth : Method} {c : Code} {Q : State → Prop} {D : va_G} {cy : Nat → ClassId} {sz : Nat} {ad : Nat → Nat → Nat} {n : Nat} {S : SS} {t : Nat} (ht : t < 16) (a : Int32) (E : En p s m args meth c cX7_renew 3 none RX7 D cy sz)
    (kx : ∀ (H : Heap) (locs : List Loc) (ls : Array Slot), Gd D cy sz ad n (zI S 15 t 8) s.heap H locs → lv_has ls 3 [(2, .int (nI 8)), (0, .ref (ad 14 t)), (1, .int a)] → W p l e R s m args below meth c H locs 0 0 Q (F0 m 24 ls [])) : ∀ (k i : Nat), i ≤ 8 → 8 + 1 ≤ i + k → ∀ (H : Heap) (locs : List Loc) (ls : Array Slot), Gd D cy sz ad n (zI S 15 t i) s.heap H locs → lv_has ls 3 [(2, .int (nI i)), (0, .ref (ad 14 t)), (1, .int a)] → W p l e R s m args below meth c H locs 0 0 Q (F0 m 2 ls []) := by
  obtain ⟨hx, hb, hrt, hml, hown, hw, hlk, hK, hF, hsz⟩ := id E
  intro k
  induction k with
  | zero => intro i g1 g2; exact absurd g2 (by omega)
  | succ k ih =>
    intro i g1 g2 H locs ls G hl
    refine lv_iload_n hx hb dX7_renew_2 rfl (lv_at hl 0 rfl) ?_
    refine lv_aload_n hx hb dX7_renew_3 rfl (lv_at hl 1 rfl) ?_
    refine q_get (index := 7) (ref := "ToolRoom$Row") E G inX7 14 t (c14 ht) sg_14 rfl 1 (by decide) tb_36 (Or.inl rfl) rfl dX7_renew_4 ?_
    refine q_alen (v := 8) E G 15 t (c15 ht) sa_15 rfl dX7_renew_7 ?_
    refine lv_icmp_ge (tgt := 24) hx hb dX7_renew_8 (by decide) (fun h1 => ?_) (fun h1 => ?_)
    · have e1 : i = 8 := ge_eq (N := 8) (by decide) g1 h1
      subst e1
      exact kx H locs ls G (lv_sub hl [0, 1, 2] rfl)
    · have hlt : i < 8 := lt_of (N := 8) (by decide) g1 h1
      refine lv_aload_n hx hb dX7_renew_11 rfl (lv_at hl 1 rfl) ?_
      refine q_get (index := 7) (ref := "ToolRoom$Row") E G inX7 14 t (c14 ht) sg_14 rfl 1 (by decide) tb_36 (Or.inl rfl) rfl dX7_renew_12 ?_
      refine lv_iload_n hx hb dX7_renew_15 rfl (lv_at hl 0 rfl) ?_
      refine lv_iconst (v := 0) hx hb dX7_renew_16 (by decide) ?_
      refine q_iast E G 15 t (c15 ht) (fun _ => sa_15) (vp_in_nI hlt (by decide)) dX7_renew_17 (fun H locs G => ?_)
      rw [zI_step S 15 t (by omega)] at G
      refine lv_iinc (v := (nI (i + 1))) (lv' := [(2, .int (nI (i + 1))), (0, .ref (ad 14 t)), (1, .int a)]) hx hb dX7_renew_18 hl (k := 0) rfl (nI_1 i) (by decide) rfl (fun ls hl => ?_)
      refine lv_goto (tgt := 2) hx hb dX7_renew_21 (by decide) ?_
      exact ih (i + 1) (by omega) (by omega) H locs ls G (lv_sub hl [0, 1, 2] rfl)

def f_row14 (S : SS) (t : Nat) (a : Int32) : SS := uI (zI S 15 t 8) 14 t 0 a
set_option maxHeartbeats 4000000 in
set_option maxRecDepth 100000 in
theorem k_X7_renew_14 (l : Launch) (D : va_G) (cy : Nat → ClassId) (sz : Nat) (ad : Nat → Nat → Nat) (n : Nat) (S : SS) (t : Nat) (ht : t < 16) (a : Int32) : CV l yX7_renew cX7_renew 3 0 0 [.ref (ad 14 t), .int a] D cy sz ad n S (f_row14 S t a) := by
  refine Met.enter (by decide) (Nat.le_of_ble_eq_true rfl) (fun p e s m args below meth c ls E G hl => ?_)
  have E : En p s m args meth c cX7_renew 3 none RX7 D cy sz := E
  obtain ⟨hx, hb, hrt, hml, hown, hw, hlk, hK, hF, hsz⟩ := id E
  have hl : lv_has ls 3 [(0, .ref (ad 14 t)), (1, .int a)] := hl
  refine lv_iconst (v := 0) hx hb dX7_renew_0 (by decide) ?_
  refine lv_istore_n (lv' := [(2, .int (nI 0)), (0, .ref (ad 14 t)), (1, .int a)]) hx hb dX7_renew_1 rfl hl (by decide) rfl (fun ls hl => ?_)
  refine lp_X7_renew_14 ht a E (fun H locs ls G hl => ?_) 9 0 (by omega) (by omega) s.heap [] ls (by rw [zI_0]; exact G) hl
  refine lv_aload_n hx hb dX7_renew_24 rfl (lv_at hl 1 rfl) ?_
  refine lv_iload_n hx hb dX7_renew_25 rfl (lv_at hl 2 rfl) ?_
  refine q_put (index := 13) (ref := "ToolRoom$Row") E G inX7 tyX7 tyX7_ok nmX7 14 t (c14 ht) 0 rfl rfl 0 (by decide) tb_41 (Or.inr tb_42) rfl (ty := .int) (by decide +kernel) rfl rfl (Nat.le_of_ble_eq_true rfl) rfl dX7_renew_26 (fun H locs G => ?_)
  exact q_vret E G rfl dX7_renew_29

set_option maxHeartbeats 4000000 in
set_option maxRecDepth 100000 in
theorem lp_X6_renew {p : Program} {l : Launch} {e : Env} {R : Room} {s : State} {m : MethodId} {args : Array Value} {below : List Frame} {meth : Method} {c : Code} {Q : State → Prop} {D : va_G} {cy : Nat → ClassId} {sz : Nat} {ad : Nat → Nat → Nat} {n : Nat} {S : SS} {t : Nat} (ht : t < 4) (so a : Int32) (E : En p s m args meth c cX6_renew 4 none RX6 D cy sz)
    (kx : ∀ (H : Heap) (locs : List Loc) (ls : Array Slot), Gd D cy sz ad n (zR S 11 t 10) s.heap H locs → lv_has ls 4 [(3, .int (nI 10)), (0, .ref (ad 10 t)), (1, .int so), (2, .int a)] → W p l e R s m args below meth c H locs 0 0 Q (F0 m 21 ls [])) : ∀ (k i : Nat), i ≤ 10 → 10 + 1 ≤ i + k → ∀ (H : Heap) (locs : List Loc) (ls : Array Slot), Gd D cy sz ad n (zR S 11 t i) s.heap H locs → lv_has ls 4 [(3, .int (nI i)), (0, .ref (ad 10 t)), (1, .int so), (2, .int a)] → W p l e R s m args below meth c H locs 0 0 Q (F0 m 2 ls []) := by
  obtain ⟨hx, hb, hrt, hml, hown, hw, hlk, hK, hF, hsz⟩ := id E
  intro k
  induction k with
  | zero => intro i g1 g2; exact absurd g2 (by omega)
  | succ k ih =>
    intro i g1 g2 H locs ls G hl
    refine lv_iload_n hx hb dX6_renew_2 rfl (lv_at hl 0 rfl) ?_
    refine lv_bipush (v := 10) hx hb dX6_renew_3 (by decide) ?_
    refine lv_icmp_ge (tgt := 21) hx hb dX6_renew_5 (by decide) (fun h1 => ?_) (fun h1 => ?_)
    · have e1 : i = 10 := ge_eq (N := 10) (by decide) g1 h1
      subst e1
      exact kx H locs ls G (lv_sub hl [0, 1, 2, 3] rfl)
    · have hlt : i < 10 := lt_of (N := 10) (by decide) g1 h1
      refine lv_aload_n hx hb dX6_renew_8 rfl (lv_at hl 1 rfl) ?_
      refine q_get (index := 11) (ref := "ToolRoom$Rack") E G inX6 10 t (c10 ht) sg_10 rfl 1 (by decide) tb_59 (Or.inl rfl) rfl dX6_renew_9 ?_
      refine lv_iload_n hx hb dX6_renew_12 rfl (lv_at hl 0 rfl) ?_
      refine lv_null hx hb dX6_renew_13 ?_
      refine q_aastN E G 11 t (c11 ht) (fun _ => sa_11) (vp_in_nI hlt (by decide)) dX6_renew_14 (fun H locs G => ?_)
      rw [zR_step S 11 t (by omega)] at G
      refine lv_iinc (v := (nI (i + 1))) (lv' := [(3, .int (nI (i + 1))), (0, .ref (ad 10 t)), (1, .int so), (2, .int a)]) hx hb dX6_renew_15 hl (k := 0) rfl (nI_1 i) (by decide) rfl (fun ls hl => ?_)
      refine lv_goto (tgt := 2) hx hb dX6_renew_18 (by decide) ?_
      exact ih (i + 1) (by omega) (by omega) H locs ls G (lv_sub hl [0, 1, 2, 3] rfl)

def f_rack (S : SS) (t : Nat) (so a : Int32) : SS := uI (uI (zR S 11 t 10) 10 t 2 so) 10 t 0 a
set_option maxHeartbeats 4000000 in
set_option maxRecDepth 100000 in
theorem k_X6_renew (l : Launch) (D : va_G) (cy : Nat → ClassId) (sz : Nat) (ad : Nat → Nat → Nat) (n : Nat) (S : SS) (t : Nat) (ht : t < 4) (so a : Int32) : CV l yX6_renew cX6_renew 4 0 0 [.ref (ad 10 t), .int so, .int a] D cy sz ad n S (f_rack S t so a) := by
  refine Met.enter (by decide) (Nat.le_of_ble_eq_true rfl) (fun p e s m args below meth c ls E G hl => ?_)
  have E : En p s m args meth c cX6_renew 4 none RX6 D cy sz := E
  obtain ⟨hx, hb, hrt, hml, hown, hw, hlk, hK, hF, hsz⟩ := id E
  have hl : lv_has ls 4 [(0, .ref (ad 10 t)), (1, .int so), (2, .int a)] := hl
  refine lv_iconst (v := 0) hx hb dX6_renew_0 (by decide) ?_
  refine lv_istore_n (lv' := [(3, .int (nI 0)), (0, .ref (ad 10 t)), (1, .int so), (2, .int a)]) hx hb dX6_renew_1 rfl hl (by decide) rfl (fun ls hl => ?_)
  refine lp_X6_renew ht so a E (fun H locs ls G hl => ?_) 11 0 (by omega) (by omega) s.heap [] ls (by rw [zR_0]; exact G) hl
  refine lv_aload_n hx hb dX6_renew_21 rfl (lv_at hl 1 rfl) ?_
  refine lv_iload_n hx hb dX6_renew_22 rfl (lv_at hl 2 rfl) ?_
  refine q_put (index := 17) (ref := "ToolRoom$Rack") E G inX6 tyX6 tyX6_ok nmX6 10 t (c10 ht) 2 rfl rfl 2 (by decide) tb_61 (Or.inl rfl) rfl (ty := .int) (by decide +kernel) rfl rfl (Nat.le_of_ble_eq_true rfl) rfl dX6_renew_23 (fun H locs G => ?_)
  refine lv_aload_n hx hb dX6_renew_26 rfl (lv_at hl 1 rfl) ?_
  refine lv_iload_n hx hb dX6_renew_27 rfl (lv_at hl 3 rfl) ?_
  refine q_put (index := 21) (ref := "ToolRoom$Rack") E G inX6 tyX6 tyX6_ok nmX6 10 t (c10 ht) 0 rfl rfl 0 (by decide) tb_43 (Or.inr tb_44) rfl (ty := .int) (by decide +kernel) rfl rfl (Nat.le_of_ble_eq_true rfl) rfl dX6_renew_28 (fun H locs G => ?_)
  exact q_vret E G rfl dX6_renew_31

def gz (S : SS) (g : Nat) (a : Int32) : Nat → SS
  | 0 => S
  | i + 1 => f_row14 (gz S g a i) (8 * g + i) a

set_option maxHeartbeats 4000000 in
set_option maxRecDepth 100000 in
theorem lp_X3_renew {p : Program} {l : Launch} {e : Env} {R : Room} {s : State} {m : MethodId} {args : Array Value} {below : List Frame} {meth : Method} {c : Code} {Q : State → Prop} {D : va_G} {cy : Nat → ClassId} {sz : Nat} {ad : Nat → Nat → Nat} {n : Nat} {S : SS} {t : Nat} (ht : t < 2) (a : Int32) {N : Nat} (hN : N ≤ 8) (E : En p s m args meth c cX3_renew 4 none RX3 D cy sz) (hR : 1 ≤ R.frames ∧ 22 ≤ R.locals)
    (kx : ∀ (H : Heap) (locs : List Loc) (ls : Array Slot), Gd D cy sz ad n (gz S t a N) s.heap H locs → lv_has ls 4 [(3, .int (nI N)), (0, .ref (ad 12 t)), (1, .int (nI N)), (2, .int a)] → W p l e R s m args below meth c H locs 0 0 Q (F0 m 23 ls [])) : ∀ (k i : Nat), i ≤ N → N + 1 ≤ i + k → ∀ (H : Heap) (locs : List Loc) (ls : Array Slot), Gd D cy sz ad n (gz S t a i) s.heap H locs → lv_has ls 4 [(3, .int (nI i)), (0, .ref (ad 12 t)), (1, .int (nI N)), (2, .int a)] → W p l e R s m args below meth c H locs 0 0 Q (F0 m 2 ls []) := by
  obtain ⟨hx, hb, hrt, hml, hown, hw, hlk, hK, hF, hsz⟩ := id E
  intro k
  induction k with
  | zero => intro i g1 g2; exact absurd g2 (by omega)
  | succ k ih =>
    intro i g1 g2 H locs ls G hl
    refine lv_iload_n hx hb dX3_renew_2 rfl (lv_at hl 0 rfl) ?_
    refine lv_iload_n hx hb dX3_renew_3 rfl (lv_at hl 2 rfl) ?_
    refine lv_icmp_ge (tgt := 23) hx hb dX3_renew_4 (by decide) (fun h1 => ?_) (fun h1 => ?_)
    · have e1 : i = N := ge_eq (N := N) (by omega) g1 h1
      subst e1
      exact kx H locs ls G (lv_sub hl [0, 1, 2, 3] rfl)
    · have hlt : i < N := lt_of (N := N) (by omega) g1 h1
      refine lv_aload_n hx hb dX3_renew_7 rfl (lv_at hl 1 rfl) ?_
      refine q_get (index := 11) (ref := "ToolRoom$Grid") E G inX3 12 t (c12 ht) sg_12 rfl 1 (by decide) tb_76 (Or.inl rfl) rfl dX3_renew_8 ?_
      refine lv_iload_n hx hb dX3_renew_11 rfl (lv_at hl 0 rfl) ?_
      refine q_aald (C := "ToolRoom$Row") E G 13 t (c13 ht) sa_13 3 rfl (vp_in_nI (show i < 8 by omega) (by decide)) dX3_renew_12 ?_
      refine lv_iload_n hx hb dX3_renew_13 rfl (lv_at hl 3 rfl) ?_
      refine q_cVv (rest := []) E G 14 (8 * t + (nI i).toNatClampNeg) (c14 (show 8 * t + (nI i).toNatClampNeg < 16 by rw [nI_clamp (by omega)]; omega)) sg_14 (C := RX7) (T := TX7) (N := 2) rfl (k_X7_renew_14 l D cy sz ad n (gz S t a i) (8 * t + (nI i).toNatClampNeg) (show 8 * t + (nI i).toNatClampNeg < 16 by rw [nI_clamp (by omega)]; omega) a) tb_375 tb_317 tb_318 tb_3 tb_319 (nn := 1) (by decide +kernel) ⟨by have := hR.1; show 0 + 1 ≤ _; omega, by have := hR.2; show 8 + (3 + 11) + 0 ≤ _; omega⟩ rfl hl.1 rfl (Nat.le_of_ble_eq_true rfl) dX3_renew_14 ⟨Nat.zero_le _, Nat.zero_le _⟩ (fun H locs G => ?_)
      have G : Gd D cy sz ad n (gz S t a (i + 1)) s.heap H locs := by rw [nI_clamp (by omega)] at G; exact G
      refine lv_iinc (v := (nI (i + 1))) (lv' := [(3, .int (nI (i + 1))), (0, .ref (ad 12 t)), (1, .int (nI N)), (2, .int a)]) hx hb dX3_renew_17 hl (k := 0) rfl (nI_1 i) (by decide) rfl (fun ls hl => ?_)
      refine lv_goto (tgt := 2) hx hb dX3_renew_20 (by decide) ?_
      exact ih (i + 1) (by omega) (by omega) H locs ls G (lv_sub hl [0, 1, 2, 3] rfl)

def f_grid (S : SS) (t : Nat) (x a : Int32) : SS := uI (gz S t a x.toNatClampNeg) 12 t 0 x
set_option maxHeartbeats 4000000 in
set_option maxRecDepth 100000 in
theorem k_X3_renew (l : Launch) (D : va_G) (cy : Nat → ClassId) (sz : Nat) (ad : Nat → Nat → Nat) (n : Nat) (S : SS) (t : Nat) (ht : t < 2) (x a : Int32) (hv : vp_in x 9) : CV l yX3_renew cX3_renew 4 1 22 [.ref (ad 12 t), .int x, .int a] D cy sz ad n S (f_grid S t x a) := by
  obtain ⟨N, hN, rfl⟩ := vp_in_of hv (by decide)
  refine Met.enter (by decide) (Nat.le_of_ble_eq_true rfl) (fun p e s m args below meth c ls E G hl => ?_)
  have E : En p s m args meth c cX3_renew 4 none RX3 D cy sz := E
  obtain ⟨hx, hb, hrt, hml, hown, hw, hlk, hK, hF, hsz⟩ := id E
  have hl : lv_has ls 4 [(0, .ref (ad 12 t)), (1, .int (nI N)), (2, .int a)] := hl
  refine lv_iconst (v := 0) hx hb dX3_renew_0 (by decide) ?_
  refine lv_istore_n (lv' := [(3, .int (nI 0)), (0, .ref (ad 12 t)), (1, .int (nI N)), (2, .int a)]) hx hb dX3_renew_1 rfl hl (by decide) rfl (fun ls hl => ?_)
  refine lp_X3_renew ht a (N := N) (by omega) E ⟨Nat.le_refl _, Nat.le_refl _⟩ (fun H locs ls G hl => ?_) (N + 1) 0 (by omega) (by omega) s.heap [] ls G hl
  refine lv_aload_n hx hb dX3_renew_23 rfl (lv_at hl 1 rfl) ?_
  refine lv_iload_n hx hb dX3_renew_24 rfl (lv_at hl 2 rfl) ?_
  refine q_put (index := 23) (ref := "ToolRoom$Grid") E G inX3 tyX3 tyX3_ok nmX3 12 t (c12 ht) 0 rfl rfl 0 (by decide) tb_39 (Or.inr tb_40) rfl (ty := .int) (by decide +kernel) rfl rfl (Nat.le_of_ble_eq_true rfl) rfl dX3_renew_25 (fun H locs G => ?_)
  exact q_vret E G (by unfold f_grid; rw [nI_clamp (by omega)]) dX3_renew_28
