def wi (x b : Int32) : Bool := decide (0 ≤ x) && decide (x < b)
def wj (x a b : Int32) : Bool := decide (a ≤ x) && decide (x ≤ b)
theorem vp_lt {x : Int32} {N : Nat} (h : vp_in x N) : x.toNatClampNeg < N := Nat.not_le.mp fun q => h (Or.inr q)
theorem wi_le {x b : Int32} {N : Nat} (h : wi x b = true) (hb : b ≤ nI N) (hN : N < 2 ^ 31) : vp_in x N := by
  unfold wi at h
  simp only [Bool.and_eq_true, decide_eq_true_eq] at h
  have h1 := Int32.le_iff_toInt_le.mp h.1
  have h2 := Int32.lt_iff_toInt_lt.mp h.2
  have h3 := Int32.le_iff_toInt_le.mp hb
  rw [nI_toInt hN] at h3
  exact vp_in_iff.mpr ⟨by simpa using h1, by omega⟩
theorem wi_in {x b : Int32} {N : Nat} (h : wi x b = true) (hb : b = nI N) (hN : N < 2 ^ 31) : vp_in x N := wi_le h (by rw [hb]; exact Int32.le_refl _) hN
theorem wj_in {x b : Int32} {N : Nat} (h : wj x 0 b = true) (hb : b = nI N) (hN : N + 1 < 2 ^ 31) : vp_in x (N + 1) := by
  unfold wj at h
  simp only [Bool.and_eq_true, decide_eq_true_eq] at h
  have h1 := Int32.le_iff_toInt_le.mp h.1
  have h2 := Int32.le_iff_toInt_le.mp h.2
  rw [hb, nI_toInt (by omega)] at h2
  exact vp_in_iff.mpr ⟨by simpa using h1, by omega⟩
theorem c0 {n : Nat} : isC n 0 0 := ⟨by decide, List.mem_cons_self⟩
theorem c1 {n : Nat} : isC n 1 0 := ⟨by decide, List.mem_cons_self⟩
theorem c2 {n : Nat} : isC n 2 0 := ⟨by decide, List.mem_cons_self⟩
theorem c3 {n : Nat} : isC n 3 0 := ⟨by decide, List.mem_cons_self⟩
theorem c4 {n : Nat} : isC n 4 0 := ⟨by decide, List.mem_cons_self⟩
theorem c5 {n : Nat} : isC n 5 0 := ⟨by decide, List.mem_cons_self⟩
theorem c6 {n : Nat} : isC n 6 0 := ⟨by decide, List.mem_cons_self⟩
theorem c7 {n : Nat} : isC n 7 0 := ⟨by decide, List.mem_cons_self⟩
theorem c8 {n t : Nat} (h : t < 4) : isC n 8 t := ⟨by decide, List.mem_range.mpr h⟩
theorem c9 {n t : Nat} (h : t < 4) : isC n 9 t := ⟨by decide, List.mem_range.mpr h⟩
theorem c10 {n t : Nat} (h : t < 4) : isC n 10 t := ⟨by decide, List.mem_range.mpr h⟩
theorem c11 {n t : Nat} (h : t < 4) : isC n 11 t := ⟨by decide, List.mem_range.mpr h⟩
theorem c12 {n t : Nat} (h : t < 2) : isC n 12 t := ⟨by decide, List.mem_range.mpr h⟩
theorem c13 {n t : Nat} (h : t < 2) : isC n 13 t := ⟨by decide, List.mem_range.mpr h⟩
theorem c14 {n t : Nat} (h : t < 16) : isC n 14 t := ⟨by decide, List.mem_range.mpr h⟩
theorem c15 {n t : Nat} (h : t < 16) : isC n 15 t := ⟨by decide, List.mem_range.mpr h⟩
theorem c16 {n t : Nat} (h : t < n) : isC n 16 t := ⟨by decide, List.mem_range.mpr h⟩
theorem c17 {n : Nat} : isC n 17 0 := ⟨by decide, List.mem_cons_self⟩
theorem c18 {n : Nat} (j : Nat) (h : j ∈ [0, 2, 3, 4, 5, 6, 7, 8, 9, 10, 11, 12, 13, 14, 15, 16, 19]) : isC n 18 j := ⟨by decide, h⟩
/-- the bounds of the class's cells -/
def okC (n : Nat) (S : SS) : Prop := (∀ f i j k, S.2 f i j = some k → k < n) ∧ (∀ t, t < 4 → S.1 8 t 0 ≤ 20) ∧ (∀ t, t < 4 → S.1 10 t 0 ≤ 10) ∧ (∀ t, t < 2 → S.1 12 t 0 ≤ 8) ∧ ∀ t, t < 16 → S.1 14 t 0 ≤ 8
/-- the bounds of the reference's cells -/
def okM (S : SS) : Prop := (∀ j, j < 10 → S.1 18 0 j = -1 ∨ vp_in (S.1 18 0 j) 600) ∧ (∀ j, j < 40 → S.1 18 11 j = -1 ∨ vp_in (S.1 18 11 j) 600) ∧ vp_in (S.1 17 0 1) 600 ∧ (∀ t, t < 4 → S.1 18 7 t ≤ 20) ∧ (∀ t, t < 4 → S.1 18 9 t ≤ 10) ∧ (∀ t, t < 2 → S.1 18 12 t ≤ 8) ∧ ∀ t, t < 16 → S.1 18 13 t ≤ 8
/-- what failureAt answers: holder (f, i), place x -/
def pA (S : SS) (f i : Nat) (x : Int32) : Int32 := if S.1 f i 0 = -1 then 1 else if wi x (S.1 f i 0) = true then 0 else 2
theorem pA_0 {S : SS} {f i : Nat} {x : Int32} (h : pA S f i x = 0) : wi x (S.1 f i 0) = true := by
  unfold pA at h
  split at h
  · exact absurd h (by decide)
  · split at h
    · assumption
    · exact absurd h (by decide)
theorem pA_in {S : SS} {f i : Nat} {x : Int32} : vp_in (pA S f i x) 7 := by
  unfold pA
  split
  · unfold vp_in; decide
  · split
    · unfold vp_in; decide
    · unfold vp_in; decide
def pC (S : SS) (g : Nat) (i j : Int32) : Int32 := if pA S 12 g i = 0 then pA S 14 (8 * g + i.toNatClampNeg) j else pA S 12 g i
theorem pC_in {S : SS} {g : Nat} {i j : Int32} : vp_in (pC S g i j) 7 := by
  unfold pC
  split
  · exact pA_in
  · exact pA_in
def pS (S : SS) (o : Option Nat) (sort : Int32) : Int32 := match o with
  | none => 1
  | some t => if sort = 0 then 1 else if sort = 1 then (if S.1 16 t 4 = 1 ∨ S.1 16 t 4 = 2 then 1 else 0) else if ¬ S.1 16 t 4 = 0 ∧ ¬ S.1 16 t 4 = 1 ∧ ¬ S.1 16 t 4 = 2 then 1 else 0
def isH (f : Nat) : Prop := f = 8 ∨ f = 10 ∨ f = 12 ∨ f = 14
section HD
variable {p : Program} {l : Launch} {e : Env} {R : Room} {s : State} {m : MethodId} {args : Array Value} {below : List Frame} {meth : Method} {c : Code} {H : Heap} {locs : List Loc} {cells slots : Nat} {Q : State → Prop}
variable {cc : ByteArray} {mL : Nat} {rt : Option FieldType} {own : String} {pc : Nat} {ls : Array Slot} {rest st : List Value} {D : va_G} {cy : Nat → ClassId} {sz : Nat} {ad : Nat → Nat → Nat} {n : Nat} {S : SS}
variable {y : MethodName} {b : ByteArray} {k fr lo index nn : Nat} {r : Option FieldType} {As : List Value} {F : Int32 × SS}
theorem q_getH {ref : String} (E : En p s m args meth c cc mL rt own D cy sz) (G : Gd D cy sz ad n S s.heap H locs) (f i : Nat) (hf : isH f) (hi : isC n f i) (hlink : Cond.fieldLink own index ref "size" "I" ∈ wl) (hsame : "ToolRoom$Holder" = ref ∨ Cond.sameField ref "ToolRoom$Holder" "size" "I" ∈ wl) (hdg : decode cc pc = .ok (.getfield index, 3))
    (kk : W p l e R s m args below meth c H locs cells slots Q (F0 m (pc + 3) ls (.int (S.1 f i 0) :: rest))) : W p l e R s m args below meth c H locs cells slots Q (F0 m pc ls (.ref (ad f i) :: rest)) := by
  rcases hf with rfl | rfl | rfl | rfl
  · exact q_get (index := index) (ref := ref) E G inX7 8 i hi rfl rfl 0 (by decide) hlink hsame rfl hdg kk
  · exact q_get (index := index) (ref := ref) E G inX6 10 i hi rfl rfl 0 (by decide) hlink hsame rfl hdg kk
  · exact q_get (index := index) (ref := ref) E G inX3 12 i hi rfl rfl 0 (by decide) hlink hsame rfl hdg kk
  · exact q_get (index := index) (ref := ref) E G inX7 14 i hi rfl rfl 0 (by decide) hlink hsame rfl hdg kk
theorem q_putH {ref : String} (E : En p s m args meth c cc mL rt own D cy sz) (G : Gd D cy sz ad n S s.heap H locs) (f i : Nat) (hf : isH f) (hi : isC n f i) (hlink : Cond.fieldLink own index ref "size" "I" ∈ wl) (hsame : "ToolRoom$Holder" = ref ∨ Cond.sameField ref "ToolRoom$Holder" "size" "I" ∈ wl) {v : Int32} (hdg : decode cc pc = .ok (.putfield index, 3))
    (kk : ∀ (H1 : Heap) (locs1 : List Loc), Gd D cy sz ad n (uI S f i 0 v) s.heap H1 locs1 → W p l e R s m args below meth c H1 locs1 cells slots Q (F0 m (pc + 3) ls rest)) : W p l e R s m args below meth c H locs cells slots Q (F0 m pc ls (.int v :: .ref (ad f i) :: rest)) := by
  rcases hf with rfl | rfl | rfl | rfl
  · exact q_put (index := index) (ref := ref) E G inX7 tyX7 tyX7_ok nmX7 8 i hi 0 rfl rfl 0 (by decide) hlink hsame rfl (ty := .int) (by decide +kernel) rfl rfl (Nat.le_of_ble_eq_true rfl) rfl hdg kk
  · exact q_put (index := index) (ref := ref) E G inX6 tyX6 tyX6_ok nmX6 10 i hi 0 rfl rfl 0 (by decide) hlink hsame rfl (ty := .int) (by decide +kernel) rfl rfl (Nat.le_of_ble_eq_true rfl) rfl hdg kk
  · exact q_put (index := index) (ref := ref) E G inX3 tyX3 tyX3_ok nmX3 12 i hi 0 rfl rfl 0 (by decide) hlink hsame rfl (ty := .int) (by decide +kernel) rfl rfl (Nat.le_of_ble_eq_true rfl) rfl hdg kk
  · exact q_put (index := index) (ref := ref) E G inX7 tyX7 tyX7_ok nmX7 14 i hi 0 rfl rfl 0 (by decide) hlink hsame rfl (ty := .int) (by decide +kernel) rfl rfl (Nat.le_of_ble_eq_true rfl) rfl hdg kk
/-- a Holder's own method, of a TRAY, a RACK, a GRID, a GRID's row -/
theorem q_cH {x : MethodName} (E : En p s m args meth c cc mL rt own D cy sz) (G : Gd D cy sz ad n S s.heap H locs) (f i : Nat) (hf : isH f) (hi : isC n f i)
    (hM : CI l y b k r fr lo (.ref (ad f i) :: As) D cy sz ad n S F) (h1 : Cond.methodLink own index x ∈ wl) (h2 : Cond.sameMethod x.cls "ToolRoom$Holder" x.name x.desc ∈ wl) (h3 : Cond.selects RX3 x y ∈ wl) (h32 : Cond.selects RX6 x y ∈ wl) (h33 : Cond.selects RX7 x y ∈ wl) (h6 : Cond.instanceMethod y ∈ wl) (h4 : Cond.initialized y.cls ∈ wl) (h5 : Cond.code y b k r ∈ wl) (hyx : y = ⟨"ToolRoom$Holder", x.name, x.desc⟩)
    (hd : "ToolRoom$Holder" ≠ "java/lang/invoke/MethodHandle" ∧ "ToolRoom$Holder" ≠ "java/lang/invoke/VarHandle" ∧ (parseMethodDescriptor x.desc).map (fun d => d.parameters.length) = some nn) (hR : fr + 1 ≤ R.frames ∧ 8 + (k + 11) + lo ≤ R.locals) (hn : As.length = nn) (hls : ls.size = mL) (hst : st = As.reverse ++ .ref (ad f i) :: rest) (hrest : (rest.map fun v => v.category).sum ≤ 8)
    (hdg : decode cc pc = .ok (.invokevirtual index, 3)) (hcs : cells ≤ R.cells ∧ slots ≤ R.slots)
    (kk : ∀ (H1 : Heap) (locs1 : List Loc), Gd D cy sz ad n F.2 s.heap H1 locs1 → W p l e R s m args below meth c H1 locs1 cells slots Q (F0 m (pc + 3) ls (.int F.1 :: rest))) : W p l e R s m args below meth c H locs cells slots Q (F0 m pc ls st) := by
  rcases hf with rfl | rfl | rfl | rfl
  · exact q_cU (owner := "ToolRoom$Holder") E G 8 i hi rfl (C := RX7) (T := TX7) (N := 2) rfl hM h1 h2 h33 h6 h4 h5 hyx hd hR hn hls hst hrest hdg hcs kk
  · exact q_cU (owner := "ToolRoom$Holder") E G 10 i hi rfl (C := RX6) (T := TX6) (N := 3) rfl hM h1 h2 h32 h6 h4 h5 hyx hd hR hn hls hst hrest hdg hcs kk
  · exact q_cU (owner := "ToolRoom$Holder") E G 12 i hi rfl (C := RX3) (T := TX3) (N := 2) rfl hM h1 h2 h3 h6 h4 h5 hyx hd hR hn hls hst hrest hdg hcs kk
  · exact q_cU (owner := "ToolRoom$Holder") E G 14 i hi rfl (C := RX7) (T := TX7) (N := 2) rfl hM h1 h2 h33 h6 h4 h5 hyx hd hR hn hls hst hrest hdg hcs kk
/-- a switch over 0, 1, 2 -/
theorem q_tab3 (hx : p.tables.exec = Jvm.exec) (hb : c.code = cc) {d o0 o1 o2 : Int} {len : Nat} {x : Int32} {t0 t1 t2 t3 : Nat} (hdg : decode cc pc = .ok (.tableswitch d 0 2 #[o0, o1, o2], len)) (h0 : (pc : Int) + o0 = (t0 : Int)) (h1 : (pc : Int) + o1 = (t1 : Int)) (h2 : (pc : Int) + o2 = (t2 : Int)) (h3 : (pc : Int) + d = (t3 : Int))
    (k0 : x = 0 → W p l e R s m args below meth c H locs cells slots Q (F0 m t0 ls rest)) (k1 : ¬ x = 0 → x = 1 → W p l e R s m args below meth c H locs cells slots Q (F0 m t1 ls rest)) (k2 : ¬ x = 0 → ¬ x = 1 → x = 2 → W p l e R s m args below meth c H locs cells slots Q (F0 m t2 ls rest)) (k3 : ¬ x = 0 → ¬ x = 1 → ¬ x = 2 → W p l e R s m args below meth c H locs cells slots Q (F0 m t3 ls rest)) :
    W p l e R s m args below meth c H locs cells slots Q (F0 m pc ls (.int x :: rest)) := by
  by_cases e0 : x = 0
  · subst e0
    exact lv_tableIn hx hb hdg (by decide) (by decide) (by rfl) h0 (k0 rfl)
  · by_cases e1 : x = 1
    · subst e1
      exact lv_tableIn hx hb hdg (by decide) (by decide) (by rfl) h1 (k1 e0 rfl)
    · by_cases e2 : x = 2
      · subst e2
        exact lv_tableIn hx hb hdg (by decide) (by decide) (by rfl) h2 (k2 e0 e1 rfl)
      · have n0 : ¬ x.toInt = 0 := lv_neT (k := 0) e0 (by decide)
        have n1 : ¬ x.toInt = 1 := lv_neT (k := 1) e1 (by decide)
        have n2 : ¬ x.toInt = 2 := lv_neT (k := 2) e2 (by decide)
        exact lv_tableOut hx hb hdg (by omega) h3 (k3 e0 e1 e2)
end HD
theorem uI_self {S : SS} {f i k : Nat} {v : Int32} : (uI S f i k v).1 f i k = v := by rw [uI_at]; simp
theorem uI_nf {S : SS} {f i k g j h : Nat} {v : Int32} (hn : g ≠ f) : (uI S f i k v).1 g j h = S.1 g j h := by rw [uI_at, if_neg (fun q => hn q.1)]
theorem uI_ni {S : SS} {f i k j h : Nat} {v : Int32} (hn : j ≠ i) : (uI S f i k v).1 f j h = S.1 f j h := by rw [uI_at, if_neg (fun q => hn q.2.1)]
theorem uI_nk {S : SS} {f i k h : Nat} {v : Int32} (hn : h ≠ k) : (uI S f i k v).1 f i h = S.1 f i h := by rw [uI_at, if_neg (fun q => hn q.2.2)]
section PR
variable {p : Program} {l : Launch} {e : Env} {R : Room} {s : State} {m : MethodId} {args : Array Value} {below : List Frame} {meth : Method} {c : Code} {H : Heap} {locs : List Loc} {cells slots : Nat} {Q : State → Prop}
variable {cc : ByteArray} {mL : Nat} {rt : Option FieldType} {own : String} {pc : Nat} {ls : Array Slot} {rest st : List Value} {D : va_G} {cy : Nat → ClassId} {sz : Nat} {ad : Nat → Nat → Nat} {n : Nat} {S : SS}
variable {y : MethodName} {b : ByteArray} {k fr lo index nn : Nat} {r : Option FieldType} {As : List Value} {a : Int32} {u : SS}
theorem q_cSp (E : En p s m args meth c cc mL rt own D cy sz) (G : Gd D cy sz ad n S s.heap H locs) (rest : List Value)
    (hM : CI l y b k r fr lo As D cy sz ad n S (a, u)) (h1 : Cond.methodLink own index y ∈ wl) (h2 : Cond.static y ∈ wl) (h4 : Cond.initialized own ∈ wl) (h5 : Cond.code y b k r ∈ wl)
    (hd : y.cls = own ∧ y.cls ≠ "java/lang/invoke/MethodHandle" ∧ y.cls ≠ "java/lang/invoke/VarHandle" ∧ (parseMethodDescriptor y.desc).map (fun d => d.parameters.length) = some nn) (hR : fr + 1 ≤ R.frames ∧ 8 + (k + 11) + lo ≤ R.locals) (hn : As.length = nn) (hls : ls.size = mL) (hst : st = As.reverse ++ rest) (hrest : (rest.map fun v => v.category).sum ≤ 8)
    (hdg : decode cc pc = .ok (.invokestatic index, 3)) (hcs : cells ≤ R.cells ∧ slots ≤ R.slots)
    (kk : ∀ (H1 : Heap) (locs1 : List Loc), Gd D cy sz ad n u s.heap H1 locs1 → W p l e R s m args below meth c H1 locs1 cells slots Q (F0 m (pc + 3) ls (.int a :: rest))) : W p l e R s m args below meth c H locs cells slots Q (F0 m pc ls st) :=
  q_cS E G hM h1 h2 h4 h5 hd hR hn hls hst hrest hdg hcs kk
theorem q_cVp (E : En p s m args meth c cc mL rt own D cy sz) (G : Gd D cy sz ad n S s.heap H locs) (f i : Nat) (hi : isC n f i) {ci : Nat} {fs : List Value} (hsh : sh cy ad f i (S.1 f i) (S.2 f i) = .inr (ci, fs)) {C : String} {T : u_T} {N : Nat} (hc : vwCl[ci]? = some (C, T, N)) (rest : List Value)
    (hM : CI l y b k r fr lo (.ref (ad f i) :: As) D cy sz ad n S (a, u)) (h1 : Cond.methodLink own index y ∈ wl) (h2 : Cond.instanceMethod y ∈ wl) (h3 : Cond.selects C y y ∈ wl) (h4 : Cond.initialized C ∈ wl) (h5 : Cond.code y b k r ∈ wl)
    (hd : y.cls = C ∧ y.cls ≠ "java/lang/invoke/MethodHandle" ∧ y.cls ≠ "java/lang/invoke/VarHandle" ∧ (parseMethodDescriptor y.desc).map (fun d => d.parameters.length) = some nn) (hR : fr + 1 ≤ R.frames ∧ 8 + (k + 11) + lo ≤ R.locals) (hn : As.length = nn) (hls : ls.size = mL) (hst : st = As.reverse ++ .ref (ad f i) :: rest) (hrest : (rest.map fun v => v.category).sum ≤ 8)
    (hdg : decode cc pc = .ok (.invokevirtual index, 3)) (hcs : cells ≤ R.cells ∧ slots ≤ R.slots)
    (kk : ∀ (H1 : Heap) (locs1 : List Loc), Gd D cy sz ad n u s.heap H1 locs1 → W p l e R s m args below meth c H1 locs1 cells slots Q (F0 m (pc + 3) ls (.int a :: rest))) : W p l e R s m args below meth c H locs cells slots Q (F0 m pc ls st) :=
  q_cV E G f i hi hsh hc hM h1 h2 h3 h4 h5 hd hR hn hls hst hrest hdg hcs kk
end PR
theorem pr_eta {α β : Type} (q : α × β) : (q.1, q.2) = q := rfl
theorem sg_0 {cy : Nat → ClassId} {ad : Nat → Nat → Nat} {i : Nat} {r : Nat → Int32} {q : Nat → Option Nat} : sh cy ad 0 i r q = .inr (7, [.ref (ad 1 0), .ref (ad 2 0), .ref (ad 3 0), .ref (ad 4 0), .ref (ad 5 0), .ref (ad 6 0), .ref (ad 7 0), .int (r 7), .int (r 8), .int (r 9)]) := rfl
theorem sp_0_7 {cy : Nat → ClassId} {ad : Nat → Nat → Nat} {i : Nat} {r : Nat → Int32} {q : Nat → Option Nat} {v : Int32} : sh cy ad 0 i (upd r 7 v) q = .inr (7, ([.ref (ad 1 0), .ref (ad 2 0), .ref (ad 3 0), .ref (ad 4 0), .ref (ad 5 0), .ref (ad 6 0), .ref (ad 7 0), .int (r 7), .int (r 8), .int (r 9)] : List Value).set 7 (.int v)) := rfl
theorem sp_0_8 {cy : Nat → ClassId} {ad : Nat → Nat → Nat} {i : Nat} {r : Nat → Int32} {q : Nat → Option Nat} {v : Int32} : sh cy ad 0 i (upd r 8 v) q = .inr (7, ([.ref (ad 1 0), .ref (ad 2 0), .ref (ad 3 0), .ref (ad 4 0), .ref (ad 5 0), .ref (ad 6 0), .ref (ad 7 0), .int (r 7), .int (r 8), .int (r 9)] : List Value).set 8 (.int v)) := rfl
theorem sp_0_9 {cy : Nat → ClassId} {ad : Nat → Nat → Nat} {i : Nat} {r : Nat → Int32} {q : Nat → Option Nat} {v : Int32} : sh cy ad 0 i (upd r 9 v) q = .inr (7, ([.ref (ad 1 0), .ref (ad 2 0), .ref (ad 3 0), .ref (ad 4 0), .ref (ad 5 0), .ref (ad 6 0), .ref (ad 7 0), .int (r 7), .int (r 8), .int (r 9)] : List Value).set 9 (.int v)) := rfl
theorem sg_8 {cy : Nat → ClassId} {ad : Nat → Nat → Nat} {i : Nat} {r : Nat → Int32} {q : Nat → Option Nat} : sh cy ad 8 i r q = .inr (6, [.int (r 0), .ref (ad 9 i)]) := rfl
theorem sp_8_0 {cy : Nat → ClassId} {ad : Nat → Nat → Nat} {i : Nat} {r : Nat → Int32} {q : Nat → Option Nat} {v : Int32} : sh cy ad 8 i (upd r 0 v) q = .inr (6, ([.int (r 0), .ref (ad 9 i)] : List Value).set 0 (.int v)) := rfl
theorem sg_14 {cy : Nat → ClassId} {ad : Nat → Nat → Nat} {i : Nat} {r : Nat → Int32} {q : Nat → Option Nat} : sh cy ad 14 i r q = .inr (6, [.int (r 0), .ref (ad 15 i)]) := rfl
theorem sp_14_0 {cy : Nat → ClassId} {ad : Nat → Nat → Nat} {i : Nat} {r : Nat → Int32} {q : Nat → Option Nat} {v : Int32} : sh cy ad 14 i (upd r 0 v) q = .inr (6, ([.int (r 0), .ref (ad 15 i)] : List Value).set 0 (.int v)) := rfl
theorem sg_10 {cy : Nat → ClassId} {ad : Nat → Nat → Nat} {i : Nat} {r : Nat → Int32} {q : Nat → Option Nat} : sh cy ad 10 i r q = .inr (5, [.int (r 0), .ref (ad 11 i), .int (r 2)]) := rfl
theorem sp_10_0 {cy : Nat → ClassId} {ad : Nat → Nat → Nat} {i : Nat} {r : Nat → Int32} {q : Nat → Option Nat} {v : Int32} : sh cy ad 10 i (upd r 0 v) q = .inr (5, ([.int (r 0), .ref (ad 11 i), .int (r 2)] : List Value).set 0 (.int v)) := rfl
theorem sp_10_2 {cy : Nat → ClassId} {ad : Nat → Nat → Nat} {i : Nat} {r : Nat → Int32} {q : Nat → Option Nat} {v : Int32} : sh cy ad 10 i (upd r 2 v) q = .inr (5, ([.int (r 0), .ref (ad 11 i), .int (r 2)] : List Value).set 2 (.int v)) := rfl
theorem sg_12 {cy : Nat → ClassId} {ad : Nat → Nat → Nat} {i : Nat} {r : Nat → Int32} {q : Nat → Option Nat} : sh cy ad 12 i r q = .inr (3, [.int (r 0), .ref (ad 13 i)]) := rfl
theorem sp_12_0 {cy : Nat → ClassId} {ad : Nat → Nat → Nat} {i : Nat} {r : Nat → Int32} {q : Nat → Option Nat} {v : Int32} : sh cy ad 12 i (upd r 0 v) q = .inr (3, ([.int (r 0), .ref (ad 13 i)] : List Value).set 0 (.int v)) := rfl
theorem sg_17 {cy : Nat → ClassId} {ad : Nat → Nat → Nat} {i : Nat} {r : Nat → Int32} {q : Nat → Option Nat} : sh cy ad 17 i r q = .inr (8, [.ref (ad 18 0), .int (r 1), .ref (ad 18 2), .ref (ad 18 3), .ref (ad 18 4), .ref (ad 18 5), .ref (ad 18 6), .ref (ad 18 7), .ref (ad 18 8), .ref (ad 18 9), .ref (ad 18 10), .ref (ad 18 11), .ref (ad 18 12), .ref (ad 18 13), .ref (ad 18 14), .ref (ad 18 15), .ref (ad 18 16), .int (r 17), .int (r 18), .ref (ad 18 19), .int (r 20)]) := rfl
theorem sp_17_1 {cy : Nat → ClassId} {ad : Nat → Nat → Nat} {i : Nat} {r : Nat → Int32} {q : Nat → Option Nat} {v : Int32} : sh cy ad 17 i (upd r 1 v) q = .inr (8, ([.ref (ad 18 0), .int (r 1), .ref (ad 18 2), .ref (ad 18 3), .ref (ad 18 4), .ref (ad 18 5), .ref (ad 18 6), .ref (ad 18 7), .ref (ad 18 8), .ref (ad 18 9), .ref (ad 18 10), .ref (ad 18 11), .ref (ad 18 12), .ref (ad 18 13), .ref (ad 18 14), .ref (ad 18 15), .ref (ad 18 16), .int (r 17), .int (r 18), .ref (ad 18 19), .int (r 20)] : List Value).set 1 (.int v)) := rfl
theorem sp_17_17 {cy : Nat → ClassId} {ad : Nat → Nat → Nat} {i : Nat} {r : Nat → Int32} {q : Nat → Option Nat} {v : Int32} : sh cy ad 17 i (upd r 17 v) q = .inr (8, ([.ref (ad 18 0), .int (r 1), .ref (ad 18 2), .ref (ad 18 3), .ref (ad 18 4), .ref (ad 18 5), .ref (ad 18 6), .ref (ad 18 7), .ref (ad 18 8), .ref (ad 18 9), .ref (ad 18 10), .ref (ad 18 11), .ref (ad 18 12), .ref (ad 18 13), .ref (ad 18 14), .ref (ad 18 15), .ref (ad 18 16), .int (r 17), .int (r 18), .ref (ad 18 19), .int (r 20)] : List Value).set 17 (.int v)) := rfl
theorem sp_17_18 {cy : Nat → ClassId} {ad : Nat → Nat → Nat} {i : Nat} {r : Nat → Int32} {q : Nat → Option Nat} {v : Int32} : sh cy ad 17 i (upd r 18 v) q = .inr (8, ([.ref (ad 18 0), .int (r 1), .ref (ad 18 2), .ref (ad 18 3), .ref (ad 18 4), .ref (ad 18 5), .ref (ad 18 6), .ref (ad 18 7), .ref (ad 18 8), .ref (ad 18 9), .ref (ad 18 10), .ref (ad 18 11), .ref (ad 18 12), .ref (ad 18 13), .ref (ad 18 14), .ref (ad 18 15), .ref (ad 18 16), .int (r 17), .int (r 18), .ref (ad 18 19), .int (r 20)] : List Value).set 18 (.int v)) := rfl
theorem sp_17_20 {cy : Nat → ClassId} {ad : Nat → Nat → Nat} {i : Nat} {r : Nat → Int32} {q : Nat → Option Nat} {v : Int32} : sh cy ad 17 i (upd r 20 v) q = .inr (8, ([.ref (ad 18 0), .int (r 1), .ref (ad 18 2), .ref (ad 18 3), .ref (ad 18 4), .ref (ad 18 5), .ref (ad 18 6), .ref (ad 18 7), .ref (ad 18 8), .ref (ad 18 9), .ref (ad 18 10), .ref (ad 18 11), .ref (ad 18 12), .ref (ad 18 13), .ref (ad 18 14), .ref (ad 18 15), .ref (ad 18 16), .int (r 17), .int (r 18), .ref (ad 18 19), .int (r 20)] : List Value).set 20 (.int v)) := rfl
theorem sa_5 {cy : Nat → ClassId} {ad : Nat → Nat → Nat} {i : Nat} {r : Nat → Int32} {q : Nat → Option Nat} : sh cy ad 5 i r q = .inl (cy 1, 4, .inl r) := rfl
theorem sa_6 {cy : Nat → ClassId} {ad : Nat → Nat → Nat} {i : Nat} {r : Nat → Int32} {q : Nat → Option Nat} : sh cy ad 6 i r q = .inl (cy 0, 4, .inl r) := rfl
theorem sa_7 {cy : Nat → ClassId} {ad : Nat → Nat → Nat} {i : Nat} {r : Nat → Int32} {q : Nat → Option Nat} : sh cy ad 7 i r q = .inl (cy 0, 7, .inl r) := rfl
theorem sa_9 {cy : Nat → ClassId} {ad : Nat → Nat → Nat} {i : Nat} {r : Nat → Int32} {q : Nat → Option Nat} : sh cy ad 9 i r q = .inl (cy 0, 20, .inl r) := rfl
theorem sa_15 {cy : Nat → ClassId} {ad : Nat → Nat → Nat} {i : Nat} {r : Nat → Int32} {q : Nat → Option Nat} : sh cy ad 15 i r q = .inl (cy 0, 8, .inl r) := rfl
theorem sa_18_0 {cy : Nat → ClassId} {ad : Nat → Nat → Nat} {r : Nat → Int32} {q : Nat → Option Nat} : sh cy ad 18 0 r q = .inl (cy 0, 10, .inl r) := rfl
theorem sa_18_2 {cy : Nat → ClassId} {ad : Nat → Nat → Nat} {r : Nat → Int32} {q : Nat → Option Nat} : sh cy ad 18 2 r q = .inl (cy 0, 600, .inl r) := rfl
theorem sa_18_3 {cy : Nat → ClassId} {ad : Nat → Nat → Nat} {r : Nat → Int32} {q : Nat → Option Nat} : sh cy ad 18 3 r q = .inl (cy 0, 600, .inl r) := rfl
theorem sa_18_4 {cy : Nat → ClassId} {ad : Nat → Nat → Nat} {r : Nat → Int32} {q : Nat → Option Nat} : sh cy ad 18 4 r q = .inl (cy 0, 600, .inl r) := rfl
theorem sa_18_5 {cy : Nat → ClassId} {ad : Nat → Nat → Nat} {r : Nat → Int32} {q : Nat → Option Nat} : sh cy ad 18 5 r q = .inl (cy 1, 600, .inl r) := rfl
theorem sa_18_6 {cy : Nat → ClassId} {ad : Nat → Nat → Nat} {r : Nat → Int32} {q : Nat → Option Nat} : sh cy ad 18 6 r q = .inl (cy 0, 600, .inl r) := rfl
theorem sa_18_7 {cy : Nat → ClassId} {ad : Nat → Nat → Nat} {r : Nat → Int32} {q : Nat → Option Nat} : sh cy ad 18 7 r q = .inl (cy 0, 4, .inl r) := rfl
theorem sa_18_8 {cy : Nat → ClassId} {ad : Nat → Nat → Nat} {r : Nat → Int32} {q : Nat → Option Nat} : sh cy ad 18 8 r q = .inl (cy 0, 80, .inl r) := rfl
theorem sa_18_9 {cy : Nat → ClassId} {ad : Nat → Nat → Nat} {r : Nat → Int32} {q : Nat → Option Nat} : sh cy ad 18 9 r q = .inl (cy 0, 4, .inl r) := rfl
theorem sa_18_10 {cy : Nat → ClassId} {ad : Nat → Nat → Nat} {r : Nat → Int32} {q : Nat → Option Nat} : sh cy ad 18 10 r q = .inl (cy 0, 4, .inl r) := rfl
theorem sa_18_11 {cy : Nat → ClassId} {ad : Nat → Nat → Nat} {r : Nat → Int32} {q : Nat → Option Nat} : sh cy ad 18 11 r q = .inl (cy 0, 40, .inl r) := rfl
theorem sa_18_12 {cy : Nat → ClassId} {ad : Nat → Nat → Nat} {r : Nat → Int32} {q : Nat → Option Nat} : sh cy ad 18 12 r q = .inl (cy 0, 2, .inl r) := rfl
theorem sa_18_13 {cy : Nat → ClassId} {ad : Nat → Nat → Nat} {r : Nat → Int32} {q : Nat → Option Nat} : sh cy ad 18 13 r q = .inl (cy 0, 16, .inl r) := rfl
theorem sa_18_14 {cy : Nat → ClassId} {ad : Nat → Nat → Nat} {r : Nat → Int32} {q : Nat → Option Nat} : sh cy ad 18 14 r q = .inl (cy 0, 128, .inl r) := rfl
theorem sa_18_15 {cy : Nat → ClassId} {ad : Nat → Nat → Nat} {r : Nat → Int32} {q : Nat → Option Nat} : sh cy ad 18 15 r q = .inl (cy 1, 4, .inl r) := rfl
theorem sa_18_16 {cy : Nat → ClassId} {ad : Nat → Nat → Nat} {r : Nat → Int32} {q : Nat → Option Nat} : sh cy ad 18 16 r q = .inl (cy 0, 4, .inl r) := rfl
theorem sa_18_19 {cy : Nat → ClassId} {ad : Nat → Nat → Nat} {r : Nat → Int32} {q : Nat → Option Nat} : sh cy ad 18 19 r q = .inl (cy 0, 7, .inl r) := rfl
theorem sa_1 {cy : Nat → ClassId} {ad : Nat → Nat → Nat} {i : Nat} {r : Nat → Int32} {q : Nat → Option Nat} : sh cy ad 1 i r q = .inl (cy 2, 10, rq (tq ad q)) := rfl
theorem sa_11 {cy : Nat → ClassId} {ad : Nat → Nat → Nat} {i : Nat} {r : Nat → Int32} {q : Nat → Option Nat} : sh cy ad 11 i r q = .inl (cy 2, 10, rq (tq ad q)) := rfl
theorem sa_2 {cy : Nat → ClassId} {ad : Nat → Nat → Nat} {i : Nat} {r : Nat → Int32} {q : Nat → Option Nat} : sh cy ad 2 i r q = .inl (cy 3, 4, rq (fun j => some (ad 8 j))) := rfl
theorem sa_3 {cy : Nat → ClassId} {ad : Nat → Nat → Nat} {i : Nat} {r : Nat → Int32} {q : Nat → Option Nat} : sh cy ad 3 i r q = .inl (cy 4, 4, rq (fun j => some (ad 10 j))) := rfl
theorem sa_4 {cy : Nat → ClassId} {ad : Nat → Nat → Nat} {i : Nat} {r : Nat → Int32} {q : Nat → Option Nat} : sh cy ad 4 i r q = .inl (cy 5, 2, rq (fun j => some (ad 12 j))) := rfl
theorem sa_13 {cy : Nat → ClassId} {ad : Nat → Nat → Nat} {i : Nat} {r : Nat → Int32} {q : Nat → Option Nat} : sh cy ad 13 i r q = .inl (cy 3, 8, rq (fun j => some (ad 14 (8 * i + j)))) := rfl
