section CL
variable {p : Program} {l : Launch} {e : Env} {R : Room} {s : State} {m : MethodId} {args : Array Value} {below : List Frame} {meth : Method} {c : Code} {H : Heap} {locs : List Loc} {cells slots : Nat} {Q : State → Prop}
variable {cc : ByteArray} {mL : Nat} {rt : Option FieldType} {own : String} {pc : Nat} {ls : Array Slot} {rest st : List Value} {D : va_G} {cy : Nat → ClassId} {sz : Nat} {ad : Nat → Nat → Nat} {n : Nat} {S : SS}
variable {y : MethodName} {b : ByteArray} {k fr lo index nn : Nat} {r : Option FieldType} {As : List Value} {F : Int32 × SS}
/-- behind a call that answers an int -/
theorem q_back {a : Array Value} (hr : va_Run p l e R s m args below meth c H locs cells slots 0 0 (F0 m pc ls st) rest (va_Qi (fun r u => (r, u) = F) (Po D cy sz ad n) (fun q => sz ≤ q) a) (fun q => sz ≤ q)) (G : Gd D cy sz ad n S s.heap H locs)
    (kk : ∀ (H1 : Heap) (locs1 : List Loc), Gd D cy sz ad n F.2 s.heap H1 locs1 → W p l e R s m args below meth c H1 locs1 cells slots Q (F0 m (pc + 3) ls (.int F.1 :: rest))) : W p l e R s m args below meth c H locs cells slots Q (F0 m pc ls st) := by
  refine va_calli hr G.2.2 (fun q _ h => h) (fun q h => h) (fun r1 u t H1 locs1 ht hvm hp hB hz hk hS => ?_)
  have h1 : r1 = F.1 := congrArg Prod.fst hp
  have h2 : u = F.2 := congrArg Prod.snd hp
  subst h1
  subst h2
  exact kk H1 locs1 ⟨ht ▸ hB.1, hB.2, hS⟩
theorem q_backv {F : SS} {a : Array Value} (hr : va_Run p l e R s m args below meth c H locs cells slots 0 0 (F0 m pc ls st) rest (va_Qv (fun u => u = F) (Po D cy sz ad n) (fun q => sz ≤ q) a) (fun q => sz ≤ q)) (G : Gd D cy sz ad n S s.heap H locs)
    (kk : ∀ (H1 : Heap) (locs1 : List Loc), Gd D cy sz ad n F s.heap H1 locs1 → W p l e R s m args below meth c H1 locs1 cells slots Q (F0 m (pc + 3) ls rest)) : W p l e R s m args below meth c H locs cells slots Q (F0 m pc ls st) := by
  refine va_callv hr G.2.2 (fun q _ h => h) (fun q h => h) (fun u t H1 locs1 ht hvm hp hB hz hk hS => ?_)
  subst hp
  exact kk H1 locs1 ⟨ht ▸ hB.1, hB.2, hS⟩
/-- a method of the receiver's own class is called -/
theorem q_cV (E : En p s m args meth c cc mL rt own D cy sz) (G : Gd D cy sz ad n S s.heap H locs) (f i : Nat) (hi : isC n f i) {ci : Nat} {fs : List Value} (hsh : sh cy ad f i (S.1 f i) (S.2 f i) = .inr (ci, fs)) {C : String} {T : u_T} {N : Nat} (hc : vwCl[ci]? = some (C, T, N))
    (hM : CI l y b k r fr lo (.ref (ad f i) :: As) D cy sz ad n S F) (h1 : Cond.methodLink own index y ∈ wl) (h2 : Cond.instanceMethod y ∈ wl) (h3 : Cond.selects C y y ∈ wl) (h4 : Cond.initialized C ∈ wl) (h5 : Cond.code y b k r ∈ wl)
    (hd : y.cls = C ∧ y.cls ≠ "java/lang/invoke/MethodHandle" ∧ y.cls ≠ "java/lang/invoke/VarHandle" ∧ (parseMethodDescriptor y.desc).map (fun d => d.parameters.length) = some nn) (hR : fr + 1 ≤ R.frames ∧ 8 + (k + 11) + lo ≤ R.locals) (hn : As.length = nn) (hls : ls.size = mL) (hst : st = As.reverse ++ .ref (ad f i) :: rest) (hrest : (rest.map fun v => v.category).sum ≤ 8)
    (hdg : decode cc pc = .ok (.invokevirtual index, 3)) (hcs : cells ≤ R.cells ∧ slots ≤ R.slots)
    (kk : ∀ (H1 : Heap) (locs1 : List Loc), Gd D cy sz ad n F.2 s.heap H1 locs1 → W p l e R s m args below meth c H1 locs1 cells slots Q (F0 m (pc + 3) ls (.int F.1 :: rest))) : W p l e R s m args below meth c H locs cells slots Q (F0 m pc ls st) := by
  obtain ⟨hx, hb, hr, hml, hown, hw, hlk, hK, hF, hsz⟩ := id E
  refine q_back (va_runV (As := As) (rest := rest) ⟨hx, hb, hml, hown, hw⟩ hM (cwV nn hw (gX h5 (fun w hw => by simp only [List.mem_cons, List.not_mem_nil, or_false] at hw; rcases hw with rfl | rfl | rfl | rfl <;> assumption)) rfl rfl rfl hd hR) ⟨Pre.blind, q_recv E G f i hi hsh hc, q_pre E G _⟩ rfl hn hls hst (lv_room hrest) hdg hcs) G kk
theorem q_cVv {F : SS} (E : En p s m args meth c cc mL rt own D cy sz) (G : Gd D cy sz ad n S s.heap H locs) (f i : Nat) (hi : isC n f i) {ci : Nat} {fs : List Value} (hsh : sh cy ad f i (S.1 f i) (S.2 f i) = .inr (ci, fs)) {C : String} {T : u_T} {N : Nat} (hc : vwCl[ci]? = some (C, T, N))
    (hM : CV l y b k fr lo (.ref (ad f i) :: As) D cy sz ad n S F) (h1 : Cond.methodLink own index y ∈ wl) (h2 : Cond.instanceMethod y ∈ wl) (h3 : Cond.selects C y y ∈ wl) (h4 : Cond.initialized C ∈ wl) (h5 : Cond.code y b k none ∈ wl)
    (hd : y.cls = C ∧ y.cls ≠ "java/lang/invoke/MethodHandle" ∧ y.cls ≠ "java/lang/invoke/VarHandle" ∧ (parseMethodDescriptor y.desc).map (fun d => d.parameters.length) = some nn) (hR : fr + 1 ≤ R.frames ∧ 8 + (k + 11) + lo ≤ R.locals) (hn : As.length = nn) (hls : ls.size = mL) (hst : st = As.reverse ++ .ref (ad f i) :: rest) (hrest : (rest.map fun v => v.category).sum ≤ 8)
    (hdg : decode cc pc = .ok (.invokevirtual index, 3)) (hcs : cells ≤ R.cells ∧ slots ≤ R.slots)
    (kk : ∀ (H1 : Heap) (locs1 : List Loc), Gd D cy sz ad n F s.heap H1 locs1 → W p l e R s m args below meth c H1 locs1 cells slots Q (F0 m (pc + 3) ls rest)) : W p l e R s m args below meth c H locs cells slots Q (F0 m pc ls st) := by
  obtain ⟨hx, hb, hr, hml, hown, hw, hlk, hK, hF, hsz⟩ := id E
  refine q_backv (va_runV (As := As) (rest := rest) ⟨hx, hb, hml, hown, hw⟩ hM (cwV nn hw (gX h5 (fun w hw => by simp only [List.mem_cons, List.not_mem_nil, or_false] at hw; rcases hw with rfl | rfl | rfl | rfl <;> assumption)) rfl rfl rfl hd hR) ⟨Pre.blind, q_recv E G f i hi hsh hc, q_pre E G _⟩ rfl hn hls hst (lv_room hrest) hdg hcs) G kk
/-- a static method of the own class is called -/
theorem q_cS (E : En p s m args meth c cc mL rt own D cy sz) (G : Gd D cy sz ad n S s.heap H locs) 
    (hM : CI l y b k r fr lo As D cy sz ad n S F) (h1 : Cond.methodLink own index y ∈ wl) (h2 : Cond.static y ∈ wl) (h4 : Cond.initialized own ∈ wl) (h5 : Cond.code y b k r ∈ wl)
    (hd : y.cls = own ∧ y.cls ≠ "java/lang/invoke/MethodHandle" ∧ y.cls ≠ "java/lang/invoke/VarHandle" ∧ (parseMethodDescriptor y.desc).map (fun d => d.parameters.length) = some nn) (hR : fr + 1 ≤ R.frames ∧ 8 + (k + 11) + lo ≤ R.locals) (hn : As.length = nn) (hls : ls.size = mL) (hst : st = As.reverse ++ rest) (hrest : (rest.map fun v => v.category).sum ≤ 8)
    (hdg : decode cc pc = .ok (.invokestatic index, 3)) (hcs : cells ≤ R.cells ∧ slots ≤ R.slots)
    (kk : ∀ (H1 : Heap) (locs1 : List Loc), Gd D cy sz ad n F.2 s.heap H1 locs1 → W p l e R s m args below meth c H1 locs1 cells slots Q (F0 m (pc + 3) ls (.int F.1 :: rest))) : W p l e R s m args below meth c H locs cells slots Q (F0 m pc ls st) := by
  obtain ⟨hx, hb, hr, hml, hown, hw, hlk, hK, hF, hsz⟩ := id E
  refine q_back (va_runS (As := As) (rest := rest) ⟨hx, hb, hml, hown, hw⟩ hM (cwS nn hw (gX h5 (fun w hw => by simp only [List.mem_cons, List.not_mem_nil, or_false] at hw; rcases hw with rfl | rfl | rfl <;> assumption)) rfl rfl rfl hd hR) ⟨Pre.blind, q_pre E G _⟩ rfl hn hls hst (lv_room hrest) hdg hcs) G kk
/-- an inherited method, by the class that has it -/
theorem q_cU {x : MethodName} {owner : String} (E : En p s m args meth c cc mL rt own D cy sz) (G : Gd D cy sz ad n S s.heap H locs) (f i : Nat) (hi : isC n f i) {ci : Nat} {fs : List Value} (hsh : sh cy ad f i (S.1 f i) (S.2 f i) = .inr (ci, fs)) {C : String} {T : u_T} {N : Nat} (hc : vwCl[ci]? = some (C, T, N))
    (hM : CI l y b k r fr lo (.ref (ad f i) :: As) D cy sz ad n S F) (h1 : Cond.methodLink own index x ∈ wl) (h2 : Cond.sameMethod x.cls owner x.name x.desc ∈ wl) (h3 : Cond.selects C x y ∈ wl) (h6 : Cond.instanceMethod y ∈ wl) (h4 : Cond.initialized y.cls ∈ wl) (h5 : Cond.code y b k r ∈ wl) (hyx : y = ⟨owner, x.name, x.desc⟩)
    (hd : owner ≠ "java/lang/invoke/MethodHandle" ∧ owner ≠ "java/lang/invoke/VarHandle" ∧ (parseMethodDescriptor x.desc).map (fun d => d.parameters.length) = some nn) (hR : fr + 1 ≤ R.frames ∧ 8 + (k + 11) + lo ≤ R.locals) (hn : As.length = nn) (hls : ls.size = mL) (hst : st = As.reverse ++ .ref (ad f i) :: rest) (hrest : (rest.map fun v => v.category).sum ≤ 8)
    (hdg : decode cc pc = .ok (.invokevirtual index, 3)) (hcs : cells ≤ R.cells ∧ slots ≤ R.slots)
    (kk : ∀ (H1 : Heap) (locs1 : List Loc), Gd D cy sz ad n F.2 s.heap H1 locs1 → W p l e R s m args below meth c H1 locs1 cells slots Q (F0 m (pc + 3) ls (.int F.1 :: rest))) : W p l e R s m args below meth c H locs cells slots Q (F0 m pc ls st) := by
  obtain ⟨hx, hb, hr, hml, hown, hw, hlk, hK, hF, hsz⟩ := id E
  refine q_back (va_runU (As := As) (rest := rest) ⟨hx, hb, hml, hown, hw⟩ hM (va_cwU nn hw (gX h5 (fun w hw => by simp only [List.mem_cons, List.not_mem_nil, or_false] at hw; rcases hw with rfl | rfl | rfl | rfl | rfl <;> assumption)) rfl rfl rfl hyx hd hR) ⟨Pre.blind, q_recv E G f i hi hsh hc, q_pre E G _⟩ rfl hn hls hst (lv_room hrest) hdg hcs) G kk
/-- a method that is abstract where the call names it -/
theorem q_cA {x : MethodName} {owner : String} (E : En p s m args meth c cc mL rt own D cy sz) (G : Gd D cy sz ad n S s.heap H locs) (f i : Nat) (hi : isC n f i) {ci : Nat} {fs : List Value} (hsh : sh cy ad f i (S.1 f i) (S.2 f i) = .inr (ci, fs)) {C : String} {T : u_T} {N : Nat} (hc : vwCl[ci]? = some (C, T, N))
    (hM : CI l y b k r fr lo (.ref (ad f i) :: As) D cy sz ad n S F) (h1 : Cond.methodLink own index x ∈ wl) (h2 : Cond.sameMethod x.cls owner x.name x.desc ∈ wl) (h3 : Cond.selects C x y ∈ wl) (h6 : Cond.instanceMethod y ∈ wl) (h4 : Cond.initialized y.cls ∈ wl) (h5 : Cond.code y b k r ∈ wl) (hz : ⟨owner, x.name, x.desc⟩ ∈ xDecl)
    (hd : owner ≠ "java/lang/invoke/MethodHandle" ∧ owner ≠ "java/lang/invoke/VarHandle" ∧ (parseMethodDescriptor x.desc).map (fun d => d.parameters.length) = some nn) (hR : fr + 1 ≤ R.frames ∧ 8 + (k + 11) + lo ≤ R.locals) (hn : As.length = nn) (hls : ls.size = mL) (hst : st = As.reverse ++ .ref (ad f i) :: rest) (hrest : (rest.map fun v => v.category).sum ≤ 8)
    (hdg : decode cc pc = .ok (.invokevirtual index, 3)) (hcs : cells ≤ R.cells ∧ slots ≤ R.slots)
    (kk : ∀ (H1 : Heap) (locs1 : List Loc), Gd D cy sz ad n F.2 s.heap H1 locs1 → W p l e R s m args below meth c H1 locs1 cells slots Q (F0 m (pc + 3) ls (.int F.1 :: rest))) : W p l e R s m args below meth c H locs cells slots Q (F0 m pc ls st) := by
  obtain ⟨hx, hb, hr, hml, hown, hw, hlk, hK, hF, hsz⟩ := id E
  refine q_back (va_runU (As := As) (rest := rest) ⟨hx, hb, hml, hown, hw⟩ hM (va_cwA nn hw (gX h5 (fun w hw => by simp only [List.mem_cons, List.not_mem_nil, or_false] at hw; rcases hw with rfl | rfl | rfl | rfl | rfl <;> assumption)) rfl rfl rfl (hF.2.2.2.1 _ hz) hd hR) ⟨Pre.blind, q_recv E G f i hi hsh hc, q_pre E G _⟩ rfl hn hls hst (lv_room hrest) hdg hcs) G kk
/-- super.method() -/
theorem q_cSup (E : En p s m args meth c cc mL rt own D cy sz) (G : Gd D cy sz ad n S s.heap H locs) (f i : Nat) (hi : isC n f i) {ci : Nat} {fs : List Value} (hsh : sh cy ad f i (S.1 f i) (S.2 f i) = .inr (ci, fs)) {C : String} {T : u_T} {N : Nat} (hc : vwCl[ci]? = some (C, T, N))
    (hM : CI l y b k r fr lo (.ref (ad f i) :: As) D cy sz ad n S F) (h1 : Cond.methodLink own index y ∈ wl) (h2 : Cond.sameMethod y.cls y.cls y.name y.desc ∈ wl) (h3 : Cond.superclass own y.cls ∈ wl) (h6 : Cond.instanceMethod y ∈ wl) (h4 : Cond.initialized y.cls ∈ wl) (h5 : Cond.code y b k r ∈ wl)
    (hd : y.name ≠ "<init>" ∧ (parseMethodDescriptor y.desc).map (fun d => d.parameters.length) = some nn) (hR : fr + 1 ≤ R.frames ∧ 8 + (k + 11) + lo ≤ R.locals) (hn : As.length = nn) (hls : ls.size = mL) (hst : st = As.reverse ++ .ref (ad f i) :: rest) (hrest : (rest.map fun v => v.category).sum ≤ 8)
    (hdg : decode cc pc = .ok (.invokespecial index, 3)) (hcs : cells ≤ R.cells ∧ slots ≤ R.slots)
    (kk : ∀ (H1 : Heap) (locs1 : List Loc), Gd D cy sz ad n F.2 s.heap H1 locs1 → W p l e R s m args below meth c H1 locs1 cells slots Q (F0 m (pc + 3) ls (.int F.1 :: rest))) : W p l e R s m args below meth c H locs cells slots Q (F0 m pc ls st) := by
  obtain ⟨hx, hb, hr, hml, hown, hw, hlk, hK, hF, hsz⟩ := id E
  refine q_back (va_runSU (hK.1 ci _ hc).2 (As := As) (rest := rest) ⟨hx, hb, hml, hown, hw⟩ hM (va_cwSU nn hw (gX h5 (fun w hw => by simp only [List.mem_cons, List.not_mem_nil, or_false] at hw; rcases hw with rfl | rfl | rfl | rfl | rfl <;> assumption)) rfl rfl rfl hd hR) ⟨Pre.blind, q_recv E G f i hi hsh hc, q_pre E G _⟩ rfl hn hls hst (lv_room hrest) hdg hcs) G kk
/-- the end: an int -/
theorem q_iret {fr' : Room} {v : Int32} (E : En p s m args meth c cc mL (some .int) own D cy sz) (G : Gd D cy sz ad n S s.heap H locs) (hF : (v, S) = F) (hdg : decode cc pc = .ok (.ireturn, 1)) :
    W p l e fr' s m args below meth c H locs 0 0 (MQ below (va_Qi (fun r u => (r, u) = F) (Po D cy sz ad n) (fun q => sz ≤ q)) args s 0 0 (fun q => sz ≤ q)) (F0 m pc ls [.int v]) := by
  obtain ⟨hx, hb, hr, hml, hown, hw, hlk, hK, hF2, hsz⟩ := E
  exact W.iret hx hb hr (fun t ht hW => ⟨⟨v, S, rfl, hF, by rw [ht]; exact G.1, G.2.1⟩, G.2.2.F ht⟩) G.2.2.2.2 hdg hlk
theorem q_zret {fr' : Room} {v : Int32} (E : En p s m args meth c cc mL (some .boolean) own D cy sz) (G : Gd D cy sz ad n S s.heap H locs) (hn : narrow .boolean (.int v) = .int v) (hF : (v, S) = F) (hdg : decode cc pc = .ok (.ireturn, 1)) :
    W p l e fr' s m args below meth c H locs 0 0 (MQ below (va_Qi (fun r u => (r, u) = F) (Po D cy sz ad n) (fun q => sz ≤ q)) args s 0 0 (fun q => sz ≤ q)) (F0 m pc ls [.int v]) := by
  obtain ⟨hx, hb, hr, hml, hown, hw, hlk, hK, hF2, hsz⟩ := E
  exact W.zret hx hb hr hn (fun t ht hW => ⟨⟨v, S, rfl, hF, by rw [ht]; exact G.1, G.2.1⟩, G.2.2.F ht⟩) G.2.2.2.2 hdg hlk
theorem q_vret {F : SS} {fr' : Room} (E : En p s m args meth c cc mL none own D cy sz) (G : Gd D cy sz ad n S s.heap H locs) (hF : S = F) (hdg : decode cc pc = .ok (.return_, 1)) :
    W p l e fr' s m args below meth c H locs 0 0 (MQ below (va_Qv (fun u => u = F) (Po D cy sz ad n) (fun q => sz ≤ q)) args s 0 0 (fun q => sz ≤ q)) (F0 m pc ls []) := by
  obtain ⟨hx, hb, hr, hml, hown, hw, hlk, hK, hF2, hsz⟩ := E
  exact W.vret hx hb hr (fun t ht hW => ⟨⟨S, rfl, hF, by rw [ht]; exact G.1, G.2.1⟩, G.2.2.F ht⟩) G.2.2.2.2 hdg hlk
/-- a place of an array of tools -/
theorem q_aaldT (E : En p s m args meth c cc mL rt own D cy sz) (G : Gd D cy sz ad n S s.heap H locs) (f i : Nat) (hi : isC n f i) {N : Nat} (hsh : sh cy ad f i (S.1 f i) (S.2 f i) = .inl (cy 2, N, rq (tq ad (S.2 f i)))) {x : Int32} (hin : vp_in x N) (hdg : decode cc pc = .ok (.aaload, 1))
    (k0 : S.2 f i x.toNatClampNeg = none → W p l e R s m args below meth c H locs cells slots Q (F0 m (pc + 1) ls (.null :: rest)))
    (k1 : ∀ t, S.2 f i x.toNatClampNeg = some t → W p l e R s m args below meth c H locs cells slots Q (F0 m (pc + 1) ls (.ref (ad 16 t) :: rest))) : W p l e R s m args below meth c H locs cells slots Q (F0 m pc ls (.int x :: .ref (ad f i) :: rest)) := by
  refine q_aald (C := "ToolRoom$Tool") E G f i hi hsh 2 rfl hin hdg ?_
  cases h : S.2 f i x.toNatClampNeg with
  | none =>
    have e1 : tq ad (S.2 f i) x.toNatClampNeg = none := by simp [tq, h]
    rw [e1]
    exact k0 h
  | some t =>
    have e1 : tq ad (S.2 f i) x.toNatClampNeg = some (ad 16 t) := by simp [tq, h]
    rw [e1]
    exact k1 t h
/-- a field that every tool has -/
theorem q_getT {ref : String} (E : En p s m args meth c cc mL rt own D cy sz) (G : Gd D cy sz ad n S s.heap H locs) {t : Nat} (ht : t < n) (j : Nat) {nm desc : String} (hj : j < 3) (h4 : TX4 j = ("ToolRoom$Tool", nm, desc, false)) (h0 : TX0 j = ("ToolRoom$Tool", nm, desc, false)) (h1 : TX1 (j + 1) = ("ToolRoom$Tool", nm, desc, false)) (h2 : TX2 j = ("ToolRoom$Tool", nm, desc, false))
    (hlink : Cond.fieldLink own index ref nm desc ∈ wl) (hsame : "ToolRoom$Tool" = ref ∨ Cond.sameField ref "ToolRoom$Tool" nm desc ∈ wl) (hdg : decode cc pc = .ok (.getfield index, 3))
    (kk : W p l e R s m args below meth c H locs cells slots Q (F0 m (pc + 3) ls (.int (S.1 16 t j) :: rest))) : W p l e R s m args below meth c H locs cells slots Q (F0 m pc ls (.ref (ad 16 t) :: rest)) := by
  have hit : isC n 16 t := ⟨by decide, List.mem_range.mpr ht⟩
  rcases tE_cases (S.1 16 t) with ⟨-, h⟩ | ⟨-, h⟩ | ⟨-, h⟩ | ⟨-, h⟩
  · exact q_get (index := index) (ref := ref) E G inX4 16 t hit h rfl j (by omega) (by rw [h4]; exact hlink) (by rw [h4]; exact hsame) (by rcases (show j = 0 ∨ j = 1 ∨ j = 2 by omega) with rfl | rfl | rfl <;> rfl) hdg kk
  · exact q_get (index := index) (ref := ref) E G inX0 16 t hit h rfl j (by omega) (by rw [h0]; exact hlink) (by rw [h0]; exact hsame) (by rcases (show j = 0 ∨ j = 1 ∨ j = 2 by omega) with rfl | rfl | rfl <;> rfl) hdg kk
  · exact q_get (index := index) (ref := ref) E G inX1 16 t hit h rfl (j + 1) (by omega) (by rw [h1]; exact hlink) (by rw [h1]; exact hsame) (by rcases (show j = 0 ∨ j = 1 ∨ j = 2 by omega) with rfl | rfl | rfl <;> rfl) hdg kk
  · exact q_get (index := index) (ref := ref) E G inX2 16 t hit h rfl j (by omega) (by rw [h2]; exact hlink) (by rw [h2]; exact hsame) (by rcases (show j = 0 ∨ j = 1 ∨ j = 2 by omega) with rfl | rfl | rfl <;> rfl) hdg kk
theorem tE_upd (r : Nat → Int32) (j : Nat) (v : Int32) (hj : j < 3) : ((r 4 = 0 ∧ tE r = .inr (4, [.int (r 0), .int (r 1), .int (r 2)]) ∧ tE (upd r j v) = .inr (4, [.int (r 0), .int (r 1), .int (r 2)].set j (.int v))) ∨ (r 4 = 1 ∧ tE r = .inr (0, [.int (r 0), .int (r 1), .int (r 2), .int (r 3)]) ∧ tE (upd r j v) = .inr (0, [.int (r 0), .int (r 1), .int (r 2), .int (r 3)].set j (.int v)))) ∨ ((r 4 = 2 ∧ tE r = .inr (1, [.int (r 3), .int (r 0), .int (r 1), .int (r 2)]) ∧ tE (upd r j v) = .inr (1, [.int (r 3), .int (r 0), .int (r 1), .int (r 2)].set (j + 1) (.int v))) ∨ ((¬ r 4 = 0 ∧ ¬ r 4 = 1 ∧ ¬ r 4 = 2) ∧ tE r = .inr (2, [.int (r 0), .int (r 1), .int (r 2)]) ∧ tE (upd r j v) = .inr (2, [.int (r 0), .int (r 1), .int (r 2)].set j (.int v)))) := by
  unfold tE
  by_cases h0 : r 4 = 0
  · refine Or.inl (Or.inl ⟨h0, by rw [if_pos h0], ?_⟩)
    rcases (show j = 0 ∨ j = 1 ∨ j = 2 by omega) with rfl | rfl | rfl <;> simp [upd, h0]
  · by_cases h1 : r 4 = 1
    · refine Or.inl (Or.inr ⟨h1, by rw [if_neg h0, if_pos h1], ?_⟩)
      rcases (show j = 0 ∨ j = 1 ∨ j = 2 by omega) with rfl | rfl | rfl <;> simp [upd, h1]
    · by_cases h2 : r 4 = 2
      · refine Or.inr (Or.inl ⟨h2, by rw [if_neg h0, if_neg h1, if_pos h2], ?_⟩)
        rcases (show j = 0 ∨ j = 1 ∨ j = 2 by omega) with rfl | rfl | rfl <;> simp [upd, h2]
      · refine Or.inr (Or.inr ⟨⟨h0, h1, h2⟩, by rw [if_neg h0, if_neg h1, if_neg h2], ?_⟩)
        rcases (show j = 0 ∨ j = 1 ∨ j = 2 by omega) with rfl | rfl | rfl <;> simp [upd, h0, h1, h2]
theorem q_putT {ref : String} (E : En p s m args meth c cc mL rt own D cy sz) (G : Gd D cy sz ad n S s.heap H locs) {t : Nat} (ht : t < n) (j : Nat) {nm desc : String} (hj : j < 3) (h4 : TX4 j = ("ToolRoom$Tool", nm, desc, false)) (h0 : TX0 j = ("ToolRoom$Tool", nm, desc, false)) (h1 : TX1 (j + 1) = ("ToolRoom$Tool", nm, desc, false)) (h2 : TX2 j = ("ToolRoom$Tool", nm, desc, false))
    (hlink : Cond.fieldLink own index ref nm desc ∈ wl) (hsame : "ToolRoom$Tool" = ref ∨ Cond.sameField ref "ToolRoom$Tool" nm desc ∈ wl) {ty : FieldType} {v : Int32} (hd : parseFieldDescriptor desc = some ty) (hn : narrow ty (.int v) = .int v) (hfit : fits ty (.int v) = true) (hdg : decode cc pc = .ok (.putfield index, 3))
    (kk : ∀ (H1 : Heap) (locs1 : List Loc), Gd D cy sz ad n (uI S 16 t j v) s.heap H1 locs1 → W p l e R s m args below meth c H1 locs1 cells slots Q (F0 m (pc + 3) ls rest)) : W p l e R s m args below meth c H locs cells slots Q (F0 m pc ls (.int v :: .ref (ad 16 t) :: rest)) := by
  have hit : isC n 16 t := ⟨by decide, List.mem_range.mpr ht⟩
  rcases tE_upd (S.1 16 t) j v hj with (⟨-, h, h'⟩ | ⟨-, h, h'⟩) | (⟨-, h, h'⟩ | ⟨-, h, h'⟩)
  · exact q_put (index := index) (ref := ref) E G inX4 tyX4 tyX4_ok nmX4 16 t hit j h rfl j (by omega) (by rw [h4]; exact hlink) (by rw [h4]; exact hsame) (by rw [h4]) (by rw [h4]; exact hd) hn hfit (by show j < 3; omega) h' hdg kk
  · exact q_put (index := index) (ref := ref) E G inX0 tyX0 tyX0_ok nmX0 16 t hit j h rfl j (by omega) (by rw [h0]; exact hlink) (by rw [h0]; exact hsame) (by rw [h0]) (by rw [h0]; exact hd) hn hfit (by show j < 4; omega) h' hdg kk
  · exact q_put (index := index) (ref := ref) E G inX1 tyX1 tyX1_ok nmX1 16 t hit j h rfl (j + 1) (by omega) (by rw [h1]; exact hlink) (by rw [h1]; exact hsame) (by rw [h1]) (by rw [h1]; exact hd) hn hfit (by show j + 1 < 4; omega) h' hdg kk
  · exact q_put (index := index) (ref := ref) E G inX2 tyX2 tyX2_ok nmX2 16 t hit j h rfl j (by omega) (by rw [h2]; exact hlink) (by rw [h2]; exact hsame) (by rw [h2]) (by rw [h2]; exact hd) hn hfit (by show j < 3; omega) h' hdg kk
/-- a BLADE's edge -/
theorem q_getE {ref : String} (E : En p s m args meth c cc mL rt own D cy sz) (G : Gd D cy sz ad n S s.heap H locs) {t : Nat} (ht : t < n) (hk : S.1 16 t 4 = 1 ∨ S.1 16 t 4 = 2) (hlink : Cond.fieldLink own index ref "edge" "I" ∈ wl) (hsame : "ToolRoom$Blade" = ref ∨ Cond.sameField ref "ToolRoom$Blade" "edge" "I" ∈ wl) (hdg : decode cc pc = .ok (.getfield index, 3))
    (kk : W p l e R s m args below meth c H locs cells slots Q (F0 m (pc + 3) ls (.int (S.1 16 t 3) :: rest))) : W p l e R s m args below meth c H locs cells slots Q (F0 m pc ls (.ref (ad 16 t) :: rest)) := by
  have hit : isC n 16 t := ⟨by decide, List.mem_range.mpr ht⟩
  rcases hk with hk | hk
  · exact q_get (index := index) (ref := ref) E G inX0 16 t hit (ci := 0) (fs := [.int (S.1 16 t 0), .int (S.1 16 t 1), .int (S.1 16 t 2), .int (S.1 16 t 3)]) (by show tE _ = _; simp [tE, hk]) rfl 3 (by decide) hlink hsame rfl hdg kk
  · exact q_get (index := index) (ref := ref) E G inX1 16 t hit (ci := 1) (fs := [.int (S.1 16 t 3), .int (S.1 16 t 0), .int (S.1 16 t 1), .int (S.1 16 t 2)]) (by show tE _ = _; simp [tE, hk]) rfl 0 (by decide) hlink hsame rfl hdg kk
theorem q_putE {ref : String} (E : En p s m args meth c cc mL rt own D cy sz) (G : Gd D cy sz ad n S s.heap H locs) {t : Nat} (ht : t < n) (hk : S.1 16 t 4 = 1 ∨ S.1 16 t 4 = 2) (hlink : Cond.fieldLink own index ref "edge" "I" ∈ wl) (hsame : "ToolRoom$Blade" = ref ∨ Cond.sameField ref "ToolRoom$Blade" "edge" "I" ∈ wl) {v : Int32} (hdg : decode cc pc = .ok (.putfield index, 3))
    (kk : ∀ (H1 : Heap) (locs1 : List Loc), Gd D cy sz ad n (uI S 16 t 3 v) s.heap H1 locs1 → W p l e R s m args below meth c H1 locs1 cells slots Q (F0 m (pc + 3) ls rest)) : W p l e R s m args below meth c H locs cells slots Q (F0 m pc ls (.int v :: .ref (ad 16 t) :: rest)) := by
  have hit : isC n 16 t := ⟨by decide, List.mem_range.mpr ht⟩
  rcases hk with hk | hk
  · exact q_put (index := index) (ref := ref) E G inX0 tyX0 tyX0_ok nmX0 16 t hit 3 (ci := 0) (fs := [.int (S.1 16 t 0), .int (S.1 16 t 1), .int (S.1 16 t 2), .int (S.1 16 t 3)]) (by show tE _ = _; simp [tE, hk]) rfl 3 (by decide) hlink hsame rfl (ty := .int) (by decide +kernel) rfl rfl (by show 3 < 4; decide) (by show tE _ = _; simp [tE, upd, hk]) hdg kk
  · exact q_put (index := index) (ref := ref) E G inX1 tyX1 tyX1_ok nmX1 16 t hit 3 (ci := 1) (fs := [.int (S.1 16 t 3), .int (S.1 16 t 0), .int (S.1 16 t 1), .int (S.1 16 t 2)]) (by show tE _ = _; simp [tE, hk]) rfl 0 (by decide) hlink hsame rfl (ty := .int) (by decide +kernel) rfl rfl (by show 0 < 4; decide) (by show tE _ = _; simp [tE, upd, hk]) hdg kk
theorem q_recvT (E : En p s m args meth c cc mL rt own D cy sz) (G : Gd D cy sz ad n S s.heap H locs) {t : Nat} (ht : t < n) : (S.1 16 t 4 = 0 ∧ ∃ cell : Cell, H[ad 16 t]? = some cell ∧ cell.vm.isStatics = false ∧ s.vm.findClass RX4 = some cell.cls) ∨ (S.1 16 t 4 = 1 ∧ ∃ cell : Cell, H[ad 16 t]? = some cell ∧ cell.vm.isStatics = false ∧ s.vm.findClass RX0 = some cell.cls) ∨ (S.1 16 t 4 = 2 ∧ ∃ cell : Cell, H[ad 16 t]? = some cell ∧ cell.vm.isStatics = false ∧ s.vm.findClass RX1 = some cell.cls) ∨ ((¬ S.1 16 t 4 = 0 ∧ ¬ S.1 16 t 4 = 1 ∧ ¬ S.1 16 t 4 = 2) ∧ ∃ cell : Cell, H[ad 16 t]? = some cell ∧ cell.vm.isStatics = false ∧ s.vm.findClass RX2 = some cell.cls) := by
  have hit : isC n 16 t := ⟨by decide, List.mem_range.mpr ht⟩
  rcases tE_cases (S.1 16 t) with ⟨h0, h⟩ | ⟨h0, h⟩ | ⟨h0, h⟩ | ⟨h0, h⟩
  · exact Or.inl ⟨h0, q_recv E G 16 t hit h (q := (RX4, TX4, 3)) rfl⟩
  · exact Or.inr (Or.inl ⟨h0, q_recv E G 16 t hit h (q := (RX0, TX0, 4)) rfl⟩)
  · exact Or.inr (Or.inr (Or.inl ⟨h0, q_recv E G 16 t hit h (q := (RX1, TX1, 4)) rfl⟩))
  · exact Or.inr (Or.inr (Or.inr ⟨h0, q_recv E G 16 t hit h (q := (RX2, TX2, 3)) rfl⟩))
/-- is it a BLADE -/
theorem q_instB (E : En p s m args meth c cc mL rt own D cy sz) (G : Gd D cy sz ad n S s.heap H locs) {t : Nat} (ht : t < n) (hlink : Cond.classLink own index RX0 ∈ wl) (hdg : decode cc pc = .ok (.instanceof index, 3))
    (k1 : (S.1 16 t 4 = 1 ∨ S.1 16 t 4 = 2) → W p l e R s m args below meth c H locs cells slots Q (F0 m (pc + 3) ls (.int 1 :: rest)))
    (k0 : ¬ (S.1 16 t 4 = 1 ∨ S.1 16 t 4 = 2) → W p l e R s m args below meth c H locs cells slots Q (F0 m (pc + 3) ls (.int 0 :: rest))) : W p l e R s m args below meth c H locs cells slots Q (F0 m pc ls (.ref (ad 16 t) :: rest)) := by
  obtain ⟨hx, hb, hr, hml, hown, hw, hlk, hK, hF, hsz⟩ := id E
  rcases q_recvT E G ht with ⟨h0, h⟩ | ⟨h0, h⟩ | ⟨h0, h⟩ | ⟨h0, h⟩
  · exact va_instNo (nm := RX0) hx hb hown (hw _ hlink) (hF.2.1 ("ToolRoom$Hammer", "ToolRoom$Blade") (by decide +kernel)) h hdg (k0 (by rw [h0]; decide))
  · exact va_instY (nm := RX0) hx hb hown (hw _ hlink) (hF.1 ("ToolRoom$Blade", "ToolRoom$Blade") (by decide +kernel)) h hdg (k1 (Or.inl h0))
  · exact va_instY (nm := RX0) hx hb hown (hw _ hlink) (hF.1 ("ToolRoom$FileBlade", "ToolRoom$Blade") (by decide +kernel)) h hdg (k1 (Or.inr h0))
  · exact va_instNo (nm := RX0) hx hb hown (hw _ hlink) (hF.2.1 ("ToolRoom$Gauge", "ToolRoom$Blade") (by decide +kernel)) h hdg (k0 (fun q => q.elim h0.2.1 h0.2.2))
theorem q_castB (E : En p s m args meth c cc mL rt own D cy sz) (G : Gd D cy sz ad n S s.heap H locs) {t : Nat} (ht : t < n) (hk : S.1 16 t 4 = 1 ∨ S.1 16 t 4 = 2) (hlink : Cond.classLink own index RX0 ∈ wl) (hdg : decode cc pc = .ok (.checkcast index, 3))
    (kk : W p l e R s m args below meth c H locs cells slots Q (F0 m (pc + 3) ls (.ref (ad 16 t) :: rest))) : W p l e R s m args below meth c H locs cells slots Q (F0 m pc ls (.ref (ad 16 t) :: rest)) := by
  obtain ⟨hx, hb, hr, hml, hown, hw, hlk, hK, hF, hsz⟩ := id E
  rcases q_recvT E G ht with ⟨h0, h⟩ | ⟨h0, h⟩ | ⟨h0, h⟩ | ⟨h0, h⟩
  · exact absurd hk (by rw [h0]; decide)
  · exact va_castY (nm := RX0) hx hb hown (hw _ hlink) (hF.1 ("ToolRoom$Blade", "ToolRoom$Blade") (by decide +kernel)) h hdg kk
  · exact va_castY (nm := RX0) hx hb hown (hw _ hlink) (hF.1 ("ToolRoom$FileBlade", "ToolRoom$Blade") (by decide +kernel)) h hdg kk
  · exact absurd hk (fun q => q.elim h0.2.1 h0.2.2)
/-- is it a GAUGE -/
theorem q_instG (E : En p s m args meth c cc mL rt own D cy sz) (G : Gd D cy sz ad n S s.heap H locs) {t : Nat} (ht : t < n) (hlink : Cond.classLink own index RX2 ∈ wl) (hdg : decode cc pc = .ok (.instanceof index, 3))
    (k1 : (¬ S.1 16 t 4 = 0 ∧ ¬ S.1 16 t 4 = 1 ∧ ¬ S.1 16 t 4 = 2) → W p l e R s m args below meth c H locs cells slots Q (F0 m (pc + 3) ls (.int 1 :: rest)))
    (k0 : ¬ (¬ S.1 16 t 4 = 0 ∧ ¬ S.1 16 t 4 = 1 ∧ ¬ S.1 16 t 4 = 2) → W p l e R s m args below meth c H locs cells slots Q (F0 m (pc + 3) ls (.int 0 :: rest))) : W p l e R s m args below meth c H locs cells slots Q (F0 m pc ls (.ref (ad 16 t) :: rest)) := by
  obtain ⟨hx, hb, hr, hml, hown, hw, hlk, hK, hF, hsz⟩ := id E
  rcases q_recvT E G ht with ⟨h0, h⟩ | ⟨h0, h⟩ | ⟨h0, h⟩ | ⟨h0, h⟩
  · exact va_instNo (nm := RX2) hx hb hown (hw _ hlink) (hF.2.1 ("ToolRoom$Hammer", "ToolRoom$Gauge") (by decide +kernel)) h hdg (k0 (fun q => q.1 h0))
  · exact va_instNo (nm := RX2) hx hb hown (hw _ hlink) (hF.2.1 ("ToolRoom$Blade", "ToolRoom$Gauge") (by decide +kernel)) h hdg (k0 (fun q => q.2.1 h0))
  · exact va_instNo (nm := RX2) hx hb hown (hw _ hlink) (hF.2.1 ("ToolRoom$FileBlade", "ToolRoom$Gauge") (by decide +kernel)) h hdg (k0 (fun q => q.2.2 h0))
  · exact va_instY (nm := RX2) hx hb hown (hw _ hlink) (hF.1 ("ToolRoom$Gauge", "ToolRoom$Gauge") (by decide +kernel)) h hdg (k1 h0)
end CL
