/-- the addresses with one more tool -/
def adU (ad : Nat → Nat → Nat) (n q : Nat) : Nat → Nat → Nat := fun f i => if f = 16 ∧ i = n then q else ad f i
theorem adU_f {ad : Nat → Nat → Nat} {n q f i : Nat} (h : f ≠ 16) : adU ad n q f i = ad f i := by simp [adU, h]
theorem adU_i {ad : Nat → Nat → Nat} {n q i : Nat} (h : i ≠ n) : adU ad n q 16 i = ad 16 i := by simp [adU, h]
theorem adU_n {ad : Nat → Nat → Nat} {n q : Nat} : adU ad n q 16 n = q := by simp [adU]
theorem tq_adU {ad : Nat → Nat → Nat} {n q : Nat} {r : Nat → Option Nat} (h : ∀ j k, r j = some k → k < n) : tq (adU ad n q) r = tq ad r := by
  funext j
  unfold tq
  cases hr : r j with
  | none => rfl
  | some k =>
    have := h j k hr
    simp only [Option.map_some]
    rw [adU_i (by omega)]
theorem sh_adU {cy : Nat → ClassId} {ad : Nat → Nat → Nat} {n q f i : Nat} {a : Nat → Int32} {r : Nat → Option Nat} (h : ∀ j k, r j = some k → k < n) : sh cy (adU ad n q) f i a r = sh cy ad f i a r := by
  unfold sh
  split <;> first | rfl | (rw [tq_adU h]; done) | (simp only [adU_f (show (1 : Nat) ≠ 16 by decide), adU_f (show (2 : Nat) ≠ 16 by decide), adU_f (show (3 : Nat) ≠ 16 by decide), adU_f (show (4 : Nat) ≠ 16 by decide), adU_f (show (5 : Nat) ≠ 16 by decide), adU_f (show (6 : Nat) ≠ 16 by decide), adU_f (show (7 : Nat) ≠ 16 by decide), adU_f (show (8 : Nat) ≠ 16 by decide), adU_f (show (9 : Nat) ≠ 16 by decide), adU_f (show (10 : Nat) ≠ 16 by decide), adU_f (show (11 : Nat) ≠ 16 by decide), adU_f (show (12 : Nat) ≠ 16 by decide), adU_f (show (13 : Nat) ≠ 16 by decide), adU_f (show (14 : Nat) ≠ 16 by decide), adU_f (show (15 : Nat) ≠ 16 by decide), adU_f (show (18 : Nat) ≠ 16 by decide)]; done)
theorem nmB_ne : ∀ x ∈ nmB, x.1 ≠ 16 := by decide
theorem pool_push {cy : Nat → ClassId} {ad : Nat → Nat → Nat} {n q : Nat} {S : SS} {r : Nat → Int32} (h : ∀ f i j k, S.2 f i j = some k → k < n) : pool cy ad n S ++ [(q, tE r)] = pool cy (adU ad n q) (n + 1) (wI S 16 n r) := by
  unfold pool nms
  rw [List.range_succ, List.map_append, List.map_append, List.map_append, List.map_append, List.append_assoc]
  have key : ∀ x : Nat × Nat, ¬ (x.1 = 16 ∧ x.2 = n) → ce cy ad S x = ce cy (adU ad n q) (wI S 16 n r) x := by
    intro x hx
    unfold ce
    rw [wI_ne S 16 n r hx]
    rw [show (wI S 16 n r).2 = S.2 from rfl, sh_adU (fun j k => h x.1 x.2 j k)]
    rw [show adU ad n q x.1 x.2 = ad x.1 x.2 by simp [adU, hx]]
  congr 1
  · apply List.map_congr_left
    intro x hx
    exact key x (fun z => nmB_ne x hx z.1)
  · congr 1
    · rw [List.map_map, List.map_map]
      apply List.map_congr_left
      intro i hi
      exact key (16, i) (fun z => by have := List.mem_range.mp hi; have := z.2; simp only at this; omega)
    · show [(q, tE r)] = [ce cy (adU ad n q) (wI S 16 n r) (16, n)]
      unfold ce
      rw [show adU ad n q (16, n).1 (16, n).2 = q from adU_n, show (wI S 16 n r).1 (16, n).1 (16, n).2 = r from wI_eq S 16 n r]
      rfl
def r0 (k : Int32) : Nat → Int32 := fun j => if j = 4 then k else 0
section NT
variable {p : Program} {l : Launch} {e : Env} {R : Room} {s : State} {m : MethodId} {args : Array Value} {below : List Frame} {meth : Method} {c : Code} {H : Heap} {locs : List Loc} {cells slots : Nat} {Q : State → Prop}
variable {cc : ByteArray} {mL : Nat} {rt : Option FieldType} {own : String} {pc : Nat} {ls : Array Slot} {st : List Value} {D : va_G} {cy : Nat → ClassId} {sz : Nat} {ad : Nat → Nat → Nat} {n : Nat} {S : SS}
variable {y : MethodName} {b : ByteArray} {k fr lo index nn : Nat} {r : Option FieldType} {As : List Value} {rest : List Value} {F : SS}
theorem q_newT {C : String} {T : u_T} {N ci : Nat} (kd : Int32) (E : En p s m args meth c cc mL rt own D cy sz) (G : Gd D cy sz ad n S s.heap H locs) (hR : ∀ f i j k, S.2 f i j = some k → k < n) (hin : ∀ w ∈ u_ws C T N, w ∈ wl) (ty : Nat → FieldType) (hty : ∀ k, k < N → parseFieldDescriptor (T k).2.2.1 = some (ty k)) (hcl : Cond.classLink own index C ∈ wl) (hinst : Cond.instantiable C N ∈ wl) (hini : Cond.initialized C ∈ wl) (hc : vwCl[ci]? = some (C, T, N)) {fs : List Value} (hfs : ∀ j, j < N → defaultValue (ty j) = vp_V fs j) (hsh : tE (r0 kd) = .inr (ci, fs)) (hcells : cells + 1 ≤ R.cells) (hslots : slots + N ≤ R.slots) (hdg : decode cc pc = .ok (.new index, 3))
    (kk : ∀ (q : Nat) (H1 : Heap), Gd D cy sz (adU ad n q) (n + 1) (wI S 16 n (r0 kd)) s.heap H1 locs → W p l e R s m args below meth c H1 locs (cells + 1) (slots + N) Q (F0 m (pc + 3) ls (.ref q :: rest))) : W p l e R s m args below meth c H locs cells slots Q (F0 m pc ls rest) := by
  obtain ⟨hx, hb, hr, hml, hown, hw, hlk, hK, hF, hsz⟩ := id E
  refine va_new (ci := ci) (fs := fs) hx hb hw hin ty hty hown (hw _ hcl) (hw _ hinst) (hw _ hini) hK G.1 G.2.1 G.2.2 (En.hA E) hc hfs hcells hslots hdg (fun q H1 h1 h2 h3 => ?_)
  have e1 : pool cy ad n S ++ [(q, .inr (ci, fs))] = pool cy (adU ad n q) (n + 1) (wI S 16 n (r0 kd)) := by rw [← hsh]; exact pool_push hR
  rw [e1] at h1 h2
  exact kk q H1 ⟨h1, h2, h3⟩
/-- a private constructor of a nest mate -/
theorem q_cIN (E : En p s m args meth c cc mL rt own D cy sz) (G : Gd D cy sz ad n S s.heap H locs) {o : Nat}
    (hM : CV l y b k fr lo (.ref o :: As) D cy sz ad n S F) (hl : (own, index, y, "ToolRoom") ∈ xNest) (h4 : Cond.initialized y.cls ∈ wl) (h6 : Cond.instanceMethod y ∈ wl) (h5 : Cond.code y b k none ∈ wl) (hy1 : y.name = "<init>")
    (hd : y.cls ≠ "java/lang/invoke/MethodHandle" ∧ y.cls ≠ "java/lang/invoke/VarHandle" ∧ (parseMethodDescriptor y.desc).map (fun d => d.parameters.length) = some nn) (hR : fr + 1 ≤ R.frames ∧ 8 + (k + 11) + lo ≤ R.locals) (hn : As.length = nn) (hls : ls.size = mL) (hst : st = As.reverse ++ .ref o :: rest) (hrest : (rest.map fun v => v.category).sum ≤ 8)
    (hdg : decode cc pc = .ok (.invokespecial index, 3)) (hcs : cells ≤ R.cells ∧ slots ≤ R.slots)
    (kk : ∀ (H1 : Heap) (locs1 : List Loc), Gd D cy sz ad n F s.heap H1 locs1 → W p l e R s m args below meth c H1 locs1 cells slots Q (F0 m (pc + 3) ls rest)) : W p l e R s m args below meth c H locs cells slots Q (F0 m pc ls st) := by
  obtain ⟨hx, hb, hr, hml, hown, hw, hlk, hK, hF, hsz⟩ := id E
  exact q_backv (va_runIN (host := "ToolRoom") (As := As) (rest := rest) ⟨hx, hb, hml, hown, hw⟩ hM ⟨va_cnB nn hw (gB h5) rfl rfl rfl (hF.2.2.2.2 _ hl) (hw _ h4) hd hR, hy1, hw _ h6⟩ ⟨Pre.blind, q_pre E G _⟩ rfl hn hls hst (lv_room hrest) hdg hcs) G kk
end NT

def f_X8_init (S : SS) (t : Nat) : SS := (uI (uI (uI S 16 t 0 0) 16 t 1 0) 16 t 2 0)
set_option maxHeartbeats 4000000 in
set_option maxRecDepth 100000 in
theorem k_X8_init (l : Launch) (D : va_G) (cy : Nat → ClassId) (sz : Nat) (ad : Nat → Nat → Nat) (n : Nat) (S : SS) (t : Nat) (ht : t < n) : CV l yX8_init cX8_init 1 1 12 [.ref (ad 16 t)] D cy sz ad n S (f_X8_init S t) := by
  refine Met.enter (by decide) (Nat.le_of_ble_eq_true rfl) (fun p e s m args below meth c ls E G hl => ?_)
  have E : En p s m args meth c cX8_init 1 none RX8 D cy sz := E
  obtain ⟨hx, hb, hrt, hml, hown, hw, hlk, hK, hF, hsz⟩ := id E
  have hl : lv_has ls 1 [(0, .ref (ad 16 t))] := hl
  refine lv_aload_n hx hb dX8_init_0 rfl (lv_at hl 0 rfl) ?_
  refine W.objInit hx hb hown (hw _ tb_135) (hw _ tb_18) (hw _ tb_19) rfl (by rw [hml]; exact hl.1) rfl dX8_init_1 (Nat.le_of_ble_eq_true rfl) (Nat.le_of_ble_eq_true rfl) ?_
  refine W.eq (g2 := F0 m 4 ls []) rfl ?_
  refine lv_aload_n hx hb dX8_init_4 rfl (lv_at hl 0 rfl) ?_
  refine lv_iconst (v := 0) hx hb dX8_init_5 (by decide) ?_
  refine q_putT E G ht 0 (by decide) rfl rfl rfl rfl tb_136 (Or.inl rfl) (ty := .int) (by decide +kernel) rfl rfl dX8_init_6 (fun H locs G => ?_)
  refine lv_aload_n hx hb dX8_init_9 rfl (lv_at hl 0 rfl) ?_
  refine lv_iconst (v := 0) hx hb dX8_init_10 (by decide) ?_
  refine q_putT E G ht 1 (by decide) rfl rfl rfl rfl tb_144 (Or.inl rfl) (ty := .boolean) (by decide +kernel) rfl rfl dX8_init_11 (fun H locs G => ?_)
  refine lv_aload_n hx hb dX8_init_14 rfl (lv_at hl 0 rfl) ?_
  refine lv_iconst (v := 0) hx hb dX8_init_15 (by decide) ?_
  refine q_putT E G ht 2 (by decide) rfl rfl rfl rfl tb_146 (Or.inl rfl) (ty := .int) (by decide +kernel) rfl rfl dX8_init_16 (fun H locs G => ?_)
  exact q_vret E G (by rfl) dX8_init_19

def f_X4_init (S : SS) (t : Nat) : SS := (f_X8_init S t)
set_option maxHeartbeats 4000000 in
set_option maxRecDepth 100000 in
theorem k_X4_init (l : Launch) (D : va_G) (cy : Nat → ClassId) (sz : Nat) (ad : Nat → Nat → Nat) (n : Nat) (S : SS) (t : Nat) (ht : t < n) : CV l yX4_init cX4_init 1 2 32 [.ref (ad 16 t)] D cy sz ad n S (f_X4_init S t) := by
  refine Met.enter (by decide) (Nat.le_of_ble_eq_true rfl) (fun p e s m args below meth c ls E G hl => ?_)
  have E : En p s m args meth c cX4_init 1 none RX4 D cy sz := E
  obtain ⟨hx, hb, hrt, hml, hown, hw, hlk, hK, hF, hsz⟩ := id E
  have hl : lv_has ls 1 [(0, .ref (ad 16 t))] := hl
  refine lv_aload_n hx hb dX4_init_0 rfl (lv_at hl 0 rfl) ?_
  refine q_cIN (rest := []) E G (k_X8_init l D cy sz ad n S t ht) (by decide +kernel) tb_7 tb_133 tb_134 rfl (nn := 0) (by decide +kernel) ⟨Nat.le_of_ble_eq_true rfl, Nat.le_of_ble_eq_true rfl⟩ rfl hl.1 rfl (Nat.le_of_ble_eq_true rfl) dX4_init_1 ⟨Nat.zero_le _, Nat.zero_le _⟩ (fun H locs G => ?_)
  exact q_vret E G (by rfl) dX4_init_4

def f_X2_init (S : SS) (t : Nat) : SS := (f_X8_init S t)
set_option maxHeartbeats 4000000 in
set_option maxRecDepth 100000 in
theorem k_X2_init (l : Launch) (D : va_G) (cy : Nat → ClassId) (sz : Nat) (ad : Nat → Nat → Nat) (n : Nat) (S : SS) (t : Nat) (ht : t < n) : CV l yX2_init cX2_init 1 2 32 [.ref (ad 16 t)] D cy sz ad n S (f_X2_init S t) := by
  refine Met.enter (by decide) (Nat.le_of_ble_eq_true rfl) (fun p e s m args below meth c ls E G hl => ?_)
  have E : En p s m args meth c cX2_init 1 none RX2 D cy sz := E
  obtain ⟨hx, hb, hrt, hml, hown, hw, hlk, hK, hF, hsz⟩ := id E
  have hl : lv_has ls 1 [(0, .ref (ad 16 t))] := hl
  refine lv_aload_n hx hb dX2_init_0 rfl (lv_at hl 0 rfl) ?_
  refine q_cIN (rest := []) E G (k_X8_init l D cy sz ad n S t ht) (by decide +kernel) tb_7 tb_133 tb_134 rfl (nn := 0) (by decide +kernel) ⟨Nat.le_of_ble_eq_true rfl, Nat.le_of_ble_eq_true rfl⟩ rfl hl.1 rfl (Nat.le_of_ble_eq_true rfl) dX2_init_1 ⟨Nat.zero_le _, Nat.zero_le _⟩ (fun H locs G => ?_)
  exact q_vret E G (by rfl) dX2_init_4

def f_X0_init (S : SS) (t : Nat) : SS := (uI (f_X8_init S t) 16 t 3 100)
set_option maxHeartbeats 4000000 in
set_option maxRecDepth 100000 in
theorem k_X0_init (l : Launch) (D : va_G) (cy : Nat → ClassId) (sz : Nat) (ad : Nat → Nat → Nat) (n : Nat) (S : SS) (t : Nat) (ht : t < n) (hk : S.1 16 t 4 = 1 ∨ S.1 16 t 4 = 2) : CV l yX0_init cX0_init 1 2 32 [.ref (ad 16 t)] D cy sz ad n S (f_X0_init S t) := by
  refine Met.enter (by decide) (Nat.le_of_ble_eq_true rfl) (fun p e s m args below meth c ls E G hl => ?_)
  have E : En p s m args meth c cX0_init 1 none RX0 D cy sz := E
  obtain ⟨hx, hb, hrt, hml, hown, hw, hlk, hK, hF, hsz⟩ := id E
  have hl : lv_has ls 1 [(0, .ref (ad 16 t))] := hl
  refine lv_aload_n hx hb dX0_init_0 rfl (lv_at hl 0 rfl) ?_
  refine q_cIN (rest := []) E G (k_X8_init l D cy sz ad n S t ht) (by decide +kernel) tb_7 tb_133 tb_134 rfl (nn := 0) (by decide +kernel) ⟨Nat.le_of_ble_eq_true rfl, Nat.le_of_ble_eq_true rfl⟩ rfl hl.1 rfl (Nat.le_of_ble_eq_true rfl) dX0_init_1 ⟨Nat.zero_le _, Nat.zero_le _⟩ (fun H locs G => ?_)
  refine lv_aload_n hx hb dX0_init_4 rfl (lv_at hl 0 rfl) ?_
  refine lv_bipush (v := 100) hx hb dX0_init_5 (by decide) ?_
  refine q_putE E G ht (by unfold f_X8_init; simpa [uI_at] using hk) tb_161 (Or.inl rfl) dX0_init_7 (fun H locs G => ?_)
  exact q_vret E G (by rfl) dX0_init_10

def f_X1_init (S : SS) (t : Nat) : SS := (f_X0_init S t)
set_option maxHeartbeats 4000000 in
set_option maxRecDepth 100000 in
theorem k_X1_init (l : Launch) (D : va_G) (cy : Nat → ClassId) (sz : Nat) (ad : Nat → Nat → Nat) (n : Nat) (S : SS) (t : Nat) (ht : t < n) (hk : S.1 16 t 4 = 1 ∨ S.1 16 t 4 = 2) : CV l yX1_init cX1_init 1 3 52 [.ref (ad 16 t)] D cy sz ad n S (f_X1_init S t) := by
  refine Met.enter (by decide) (Nat.le_of_ble_eq_true rfl) (fun p e s m args below meth c ls E G hl => ?_)
  have E : En p s m args meth c cX1_init 1 none RX1 D cy sz := E
  obtain ⟨hx, hb, hrt, hml, hown, hw, hlk, hK, hF, hsz⟩ := id E
  have hl : lv_has ls 1 [(0, .ref (ad 16 t))] := hl
  refine lv_aload_n hx hb dX1_init_0 rfl (lv_at hl 0 rfl) ?_
  refine q_cIN (rest := []) E G (k_X0_init l D cy sz ad n S t ht hk) (by decide +kernel) tb_9 tb_158 tb_159 rfl (nn := 0) (by decide +kernel) ⟨Nat.le_of_ble_eq_true rfl, Nat.le_of_ble_eq_true rfl⟩ rfl hl.1 rfl (Nat.le_of_ble_eq_true rfl) dX1_init_1 ⟨Nat.zero_le _, Nat.zero_le _⟩ (fun H locs G => ?_)
  exact q_vret E G (by rfl) dX1_init_4

/-- a new tool of kind k -/
def rT (k : Int32) : Nat → Int32 := fun j => if j = 4 then k else if j = 3 then (if k = 1 ∨ k = 2 then 100 else 0) else 0
theorem upd_r0 (kd : Int32) {j : Nat} (hj : j ≠ 4) : upd (r0 kd) j 0 = r0 kd := by
  funext q
  by_cases h : q = j
  · subst h; simp [upd, r0, hj]
  · simp [upd, h]
theorem uI_wI (S : SS) (f i : Nat) (a : Nat → Int32) (k : Nat) (v : Int32) : uI (wI S f i a) f i k v = wI S f i (upd a k v) := by
  unfold uI
  rw [wI_eq, wI_wI]
theorem i8_r0 (S : SS) (n : Nat) (kd : Int32) : f_X8_init (wI S 16 n (r0 kd)) n = wI S 16 n (r0 kd) := by
  unfold f_X8_init
  rw [uI_wI, upd_r0 kd (by decide), uI_wI, upd_r0 kd (by decide), uI_wI, upd_r0 kd (by decide)]
theorem r0_T (kd : Int32) (h : ¬ (kd = 1 ∨ kd = 2)) : r0 kd = rT kd := by
  funext j
  unfold r0 rT
  by_cases h4 : j = 4
  · simp [h4]
  · by_cases h3 : j = 3 <;> simp [h4, h3, h]
theorem r0_T2 (kd : Int32) (h : kd = 1 ∨ kd = 2) : upd (r0 kd) 3 100 = rT kd := by
  funext j
  unfold upd r0 rT
  by_cases h3 : j = 3
  · subst h3; simp [h]
  · by_cases h4 : j = 4 <;> simp [h3, h4]
theorem mk_hg (S : SS) (n : Nat) (kd : Int32) (h : ¬ (kd = 1 ∨ kd = 2)) : f_X4_init (wI S 16 n (r0 kd)) n = wI S 16 n (rT kd) := by
  unfold f_X4_init
  rw [i8_r0, r0_T kd h]
theorem mk_gg (S : SS) (n : Nat) (kd : Int32) (h : ¬ (kd = 1 ∨ kd = 2)) : f_X2_init (wI S 16 n (r0 kd)) n = wI S 16 n (rT kd) := by
  unfold f_X2_init
  rw [i8_r0, r0_T kd h]
theorem mk_bg (S : SS) (n : Nat) (kd : Int32) (h : kd = 1 ∨ kd = 2) : f_X0_init (wI S 16 n (r0 kd)) n = wI S 16 n (rT kd) := by
  unfold f_X0_init
  rw [i8_r0, uI_wI, r0_T2 kd h]
theorem mk_fg (S : SS) (n : Nat) (kd : Int32) (h : kd = 1 ∨ kd = 2) : f_X1_init (wI S 16 n (r0 kd)) n = wI S 16 n (rT kd) := by
  unfold f_X1_init
  exact mk_bg S n kd h

/-- a contract of a method that makes one tool, and answers it -/
abbrev CN (l : Launch) (y : MethodName) (b : ByteArray) (mL : Nat) (rt : Option FieldType) (fr lo : Nat) (av : List Value) (D : va_G) (cy : Nat → ClassId) (sz : Nat) (ad : Nat → Nat → Nat) (n : Nat) (S S' : SS) : Prop :=
  Met l y (wsB y b mL rt) (Rm fr lo 1 4) (va_Pc av (Pre D cy sz ad n S)) (va_Qr (fun (_ : Unit) => True) (fun _ q t => Po D cy sz (adU ad n q) (n + 1) S' t) (fun q => sz ≤ q)) 1 4 (fun q => sz ≤ q)
theorem q_nret {p : Program} {l : Launch} {e : Env} {s : State} {m : MethodId} {args : Array Value} {below : List Frame} {meth : Method} {c : Code} {H : Heap} {locs : List Loc} {cc : ByteArray} {mL : Nat} {own : String} {pc : Nat} {ls : Array Slot} {D : va_G} {cy : Nat → ClassId} {sz : Nat} {ad : Nat → Nat → Nat} {n q : Nat} {S : SS} {R : Room} {nm : String} (E : En p s m args meth c cc mL (some (.object nm)) own D cy sz) (G : Gd D cy sz (adU ad n q) (n + 1) S s.heap H locs) (hdg : decode cc pc = .ok (.areturn, 1)) :
    W p l e R s m args below meth c H locs 1 4 (MQ below (va_Qr (fun (_ : Unit) => True) (fun _ q t => Po D cy sz (adU ad n q) (n + 1) S t) (fun q => sz ≤ q)) args s 1 4 (fun q => sz ≤ q)) (F0 m pc ls [.ref q]) := by
  obtain ⟨hx, hb, hr, hml, hown, hw, hlk, hK, hF2, hsz⟩ := E
  exact W.aret hx hb hr (Or.inl ⟨_, rfl⟩) (Or.inr ⟨q, rfl⟩) (fun t ht hW => ⟨⟨(), q, rfl, trivial, by rw [ht]; exact G.1, G.2.1⟩, G.2.2.F ht⟩) G.2.2.2.2 hdg hlk
set_option maxHeartbeats 4000000 in
set_option maxRecDepth 100000 in
theorem k_X9_newTool (l : Launch) (D : va_G) (cy : Nat → ClassId) (sz : Nat) (ad : Nat → Nat → Nat) (n : Nat) (S : SS) (ok : ∀ f i j k, S.2 f i j = some k → k < n) (x1 : Int32) : CN l yX9_newTool cX9_newTool 1 (some (.object "ToolRoom$Tool")) 4 72 [.int x1] D cy sz ad n S (wI S 16 n (rT x1)) := by
  refine Met.enter (by decide) (Nat.le_of_ble_eq_true rfl) (fun p e s m args below meth c ls E G hl => ?_)
  have E : En p s m args meth c cX9_newTool 1 (some (.object "ToolRoom$Tool")) RX9 D cy sz := E
  obtain ⟨hx, hb, hrt, hml, hown, hw, hlk, hK, hF, hsz⟩ := id E
  have hl : lv_has ls 1 [(0, .int x1)] := hl
  refine lv_iload_n hx hb dX9_newTool_0 rfl (lv_at hl 0 rfl) ?_
  refine q_tab3 (t0 := 28) (t1 := 36) (t2 := 44) (t3 := 52) hx hb dX9_newTool_1 (by decide) (by decide) (by decide) (by decide) (fun h1 => ?_) (fun h1 h2 => ?_) (fun h1 h2 h3 => ?_) (fun hn0 hn1 hn2 => ?_)
  · subst h1
    refine q_newT (C := RX4) (T := TX4) (N := 3) (ci := 4) (fs := [.int 0, .int 0, .int 0]) 0 E G ok inX4 tyX4 tyX4_ok tb_127 tb_128 tb_8 rfl (fun j hj => by rcases (show j = 0 ∨ j = 1 ∨ j = 2 by omega) with rfl | rfl | rfl <;> rfl) (by simp [tE, r0]) (by decide) (by decide) dX9_newTool_28 (fun q H G => ?_)
    refine W.widen (k := 1) (n := 4) (by omega) (by omega) ?_
    refine lv_dup hx hb dX9_newTool_31 rfl ?_
    refine q_cIN (rest := [.ref q]) E G (o := adU ad n q 16 n) (k_X4_init l D cy sz (adU ad n q) (n + 1) (wI S 16 n (r0 0)) n (by omega)) (by decide +kernel) tb_8 tb_130 tb_131 rfl (nn := 0) (by decide +kernel) ⟨Nat.le_of_ble_eq_true rfl, Nat.le_of_ble_eq_true rfl⟩ rfl hl.1 (by rw [adU_n]; rfl) (Nat.le_of_ble_eq_true rfl) dX9_newTool_32 ⟨by decide, by decide⟩ (fun H locs G => ?_)
    rw [mk_hg S n _ (by first | decide | (simp; done) | exact hne)] at G
    exact q_nret E G dX9_newTool_35
  · subst h2
    refine q_newT (C := RX0) (T := TX0) (N := 4) (ci := 0) (fs := [.int 0, .int 0, .int 0, .int 0]) 1 E G ok inX0 tyX0 tyX0_ok tb_155 tb_156 tb_9 rfl (fun j hj => by rcases (show j = 0 ∨ j = 1 ∨ j = 2 ∨ j = 3 by omega) with rfl | rfl | rfl | rfl <;> rfl) (by simp [tE, r0]) (by decide) (by decide) dX9_newTool_36 (fun q H G => ?_)
    refine W.widen (k := 1) (n := 4) (by omega) (by omega) ?_
    refine lv_dup hx hb dX9_newTool_39 rfl ?_
    refine q_cIN (rest := [.ref q]) E G (o := adU ad n q 16 n) (k_X0_init l D cy sz (adU ad n q) (n + 1) (wI S 16 n (r0 1)) n (by omega) (by rw [wI_eq]; simp [r0])) (by decide +kernel) tb_9 tb_158 tb_159 rfl (nn := 0) (by decide +kernel) ⟨Nat.le_of_ble_eq_true rfl, Nat.le_of_ble_eq_true rfl⟩ rfl hl.1 (by rw [adU_n]; rfl) (Nat.le_of_ble_eq_true rfl) dX9_newTool_40 ⟨by decide, by decide⟩ (fun H locs G => ?_)
    rw [mk_bg S n _ (by first | decide | (simp; done) | exact hne)] at G
    exact q_nret E G dX9_newTool_43
  · subst h3
    refine q_newT (C := RX1) (T := TX1) (N := 4) (ci := 1) (fs := [.int 0, .int 0, .int 0, .int 0]) 2 E G ok inX1 tyX1 tyX1_ok tb_171 tb_172 tb_10 rfl (fun j hj => by rcases (show j = 0 ∨ j = 1 ∨ j = 2 ∨ j = 3 by omega) with rfl | rfl | rfl | rfl <;> rfl) (by simp [tE, r0]) (by decide) (by decide) dX9_newTool_44 (fun q H G => ?_)
    refine W.widen (k := 1) (n := 4) (by omega) (by omega) ?_
    refine lv_dup hx hb dX9_newTool_47 rfl ?_
    refine q_cIN (rest := [.ref q]) E G (o := adU ad n q 16 n) (k_X1_init l D cy sz (adU ad n q) (n + 1) (wI S 16 n (r0 2)) n (by omega) (by rw [wI_eq]; simp [r0])) (by decide +kernel) tb_10 tb_174 tb_175 rfl (nn := 0) (by decide +kernel) ⟨Nat.le_of_ble_eq_true rfl, Nat.le_of_ble_eq_true rfl⟩ rfl hl.1 (by rw [adU_n]; rfl) (Nat.le_of_ble_eq_true rfl) dX9_newTool_48 ⟨by decide, by decide⟩ (fun H locs G => ?_)
    rw [mk_fg S n _ (by first | decide | (simp; done) | exact hne)] at G
    exact q_nret E G dX9_newTool_51
  · have hne : ¬ (x1 = 1 ∨ x1 = 2) := fun q => q.elim hn1 hn2
    refine q_newT (C := RX2) (T := TX2) (N := 3) (ci := 2) (fs := [.int 0, .int 0, .int 0]) x1 E G ok inX2 tyX2 tyX2_ok tb_182 tb_183 tb_11 rfl (fun j hj => by rcases (show j = 0 ∨ j = 1 ∨ j = 2 by omega) with rfl | rfl | rfl <;> rfl) (by simp [tE, r0, hn0, hn1, hn2]) (by decide) (by decide) dX9_newTool_52 (fun q H G => ?_)
    refine W.widen (k := 1) (n := 4) (by omega) (by omega) ?_
    refine lv_dup hx hb dX9_newTool_55 rfl ?_
    refine q_cIN (rest := [.ref q]) E G (o := adU ad n q 16 n) (k_X2_init l D cy sz (adU ad n q) (n + 1) (wI S 16 n (r0 x1)) n (by omega)) (by decide +kernel) tb_11 tb_185 tb_186 rfl (nn := 0) (by decide +kernel) ⟨Nat.le_of_ble_eq_true rfl, Nat.le_of_ble_eq_true rfl⟩ rfl hl.1 (by rw [adU_n]; rfl) (Nat.le_of_ble_eq_true rfl) dX9_newTool_56 ⟨by decide, by decide⟩ (fun H locs G => ?_)
    rw [mk_gg S n _ (by first | decide | (simp; done) | exact hne)] at G
    exact q_nret E G dX9_newTool_59
