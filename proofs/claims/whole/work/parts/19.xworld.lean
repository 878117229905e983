theorem xl_get {α : Type} (X T : List α) (k : Nat) : (X ++ T)[X.length + k]? = T[k]? := by
  rw [List.getElem?_append_right (Nat.le_add_right _ _), Nat.add_sub_cancel_left]
theorem xl_set {α : Type} (X T : List α) (k : Nat) (e : α) : (X ++ T).set (X.length + k) e = X ++ T.set k e := by
  induction X with
  | nil => simp
  | cons x X ih =>
    rw [List.cons_append, List.length_cons, Nat.add_right_comm, List.set_cons_succ, ih, List.cons_append]
/-- a world of cells told one by one, behind X -/
def Gx (D : va_G) (sz : Nat) (X T : va_W) (H0 H : Heap) (locs : List Loc) : Prop :=
  va_P D vwCl (X ++ T) H ∧ va_D (fun q => sz ≤ q) (X ++ T) ∧ va_S (fun q => sz ≤ q) H0 H locs
def PreX (D : va_G) (cy : Nat → ClassId) (sz : Nat) (ws : va_W) (U : State) : Prop :=
  va_P D vwCl ws U.heap ∧ va_D (fun q => sz ≤ q) ws ∧ va_K D vwCl (tysOf cy) U ∧ Fx U ∧ sz ≤ U.heap.size
theorem PreX.blind {D : va_G} {cy : Nat → ClassId} {sz : Nat} {ws : va_W} {av : List Value} : FrameBlind (va_Pc av (PreX D cy sz ws)) := fun a U g mk q =>
  ⟨q.1, q.2.1, q.2.2.1, va_K.moved (u := U) (U := U.calling g mk a) (Vm.Alike.refl U.vm) q.2.2.2.1, Fx.vm (s := U) (U := U.calling g mk a) rfl q.2.2.2.2.1, q.2.2.2.2.2⟩
/-- a contract of a constructor: mc cells of ms slots come, the cells behind X are 'cs a' -/
abbrev CX (l : Launch) (y : MethodName) (b : ByteArray) (mL fr lo mc ms : Nat) (av : List Value) (D : va_G) (cy : Nat → ClassId) (sz : Nat) (X T : va_W) (cs : (Nat → Nat) → va_W) : Prop :=
  Met l y (wsB y b mL none) (Rm fr lo mc ms) (va_Pc av (PreX D cy sz (X ++ T))) (va_Qv (fun (_ : Nat → Nat) => True) (fun a t => va_P D vwCl (X ++ cs a) t.heap ∧ va_D (fun q => sz ≤ q) (X ++ cs a)) (fun q => sz ≤ q)) mc ms (fun q => sz ≤ q)
theorem Met.enterX {l : Launch} {y : MethodName} {b : ByteArray} {mL : Nat} {rt : Option FieldType} {rm : Room} {av : List Value} {D : va_G} {cy : Nat → ClassId} {sz : Nat} {X T : va_W} {Qc : Array Value → State → Outcome → State → Prop} {mc ms : Nat} {free : Addr → Prop}
    (hy : plainName y.cls = true) (hlen : (lg_sl av).length ≤ mL)
    (body : ∀ (p : Program) (e : Env) (s : State) (m : MethodId) (args : Array Value) (below : List Frame) (meth : Method) (c : Code) (ls : Array Slot), En p s m args meth c b mL rt y.cls D cy sz → meth.name = y.name → Gx D sz X T s.heap s.heap [] → lv_has ls mL (lv_args 0 av) →
      W p l e rm s m args below meth c s.heap [] 0 0 (MQ below Qc args s mc ms free) (F0 m 0 ls [])) :
    Met l y (wsB y b mL rt) rm (va_Pc av (PreX D cy sz (X ++ T))) Qc mc ms free := by
  refine Met.ofW (cc := b) (maxL := mL) (ret := rt) hy rfl ?_
  intro p e s m args below meth c s₁ B hml hv
  obtain ⟨rfl, hP, hD, hK, hF, hsz⟩ := hv
  have hts := atoms_spec (ws := wsB y b mL rt) B.pre
  have hl := lv_entry av (n := mL) hlen
  rw [lg_entry_eq]
  exact body p e s m av.toArray below meth c _ ⟨B.exec, B.bytes, B.returns, hml, findClass_of_methodNamed B.named, fun w hw => hts w (List.mem_cons_of_mem _ hw), B.notSynchronized, hK, hF, hsz⟩ (name_of_methodNamed B.named B.method).1 ⟨hP, hD, va_S.rf⟩ hl
section XW
variable {p : Program} {l : Launch} {e : Env} {R : Room} {s : State} {m : MethodId} {args : Array Value} {below : List Frame} {meth : Method} {c : Code} {H : Heap} {locs : List Loc} {cells slots : Nat} {Q : State → Prop}
variable {cc : ByteArray} {mL : Nat} {rt : Option FieldType} {own : String} {pc : Nat} {ls : Array Slot} {rest st : List Value} {D : va_G} {cy : Nat → ClassId} {sz : Nat} {X T : va_W} {a : Nat}
theorem x_get (E : En p s m args meth c cc mL rt own D cy sz) (G : Gx D sz X T s.heap H locs) {ref C : String} {Tb : u_T} {N ci index : Nat} (hin : ∀ w ∈ u_ws C Tb N, w ∈ wl) (q : Nat) {fs : List Value} (hT : T[q]? = some (a, .inr (ci, fs))) (hc : vwCl[ci]? = some (C, Tb, N)) (k : Nat) (hk : k < N)
    (hlink : Cond.fieldLink own index ref (Tb k).2.1 (Tb k).2.2.1 ∈ wl) (hsame : (Tb k).1 = ref ∨ Cond.sameField ref (Tb k).1 (Tb k).2.1 (Tb k).2.2.1 ∈ wl) {v : Value} (hv : fs[k]? = some v) (hdg : decode cc pc = .ok (.getfield index, 3))
    (kk : W p l e R s m args below meth c H locs cells slots Q (F0 m (pc + 3) ls (v :: rest))) : W p l e R s m args below meth c H locs cells slots Q (F0 m pc ls (.ref a :: rest)) := by
  obtain ⟨hx, hb, hr, hml, hown, hw, hlk, hK, hF, hsz⟩ := E
  exact va_get hx hb hw hin hown hK G.1 (X.length + q) ((xl_get X T q).trans hT) hc k hk (hw _ hlink) (fun x h => hsame.elim (fun z => z ▸ h) (fun z => u_same (hw _ z) x h)) hv hdg kk
theorem x_put (E : En p s m args meth c cc mL rt own D cy sz) (G : Gx D sz X T s.heap H locs) {ref C : String} {Tb : u_T} {N ci index : Nat} (hin : ∀ w ∈ u_ws C Tb N, w ∈ wl) (ty0 : Nat → FieldType) (hty : ∀ k, k < N → parseFieldDescriptor (Tb k).2.2.1 = some (ty0 k)) (hnm : ∀ a, a < N → ∀ b, b < N → a ≠ b → (Tb a).2.1 ≠ (Tb b).2.1)
    (q : Nat) {fs : List Value} (hT : T[q]? = some (a, .inr (ci, fs))) (hc : vwCl[ci]? = some (C, Tb, N)) (k : Nat) (hk : k < N)
    (hlink : Cond.fieldLink own index ref (Tb k).2.1 (Tb k).2.2.1 ∈ wl) (hsame : (Tb k).1 = ref ∨ Cond.sameField ref (Tb k).1 (Tb k).2.1 (Tb k).2.2.1 ∈ wl) (hfin : (Tb k).2.2.2 = false) {ty : FieldType} {v : Value} (hd : parseFieldDescriptor (Tb k).2.2.1 = some ty) (hn : narrow ty v = v) (hfit : fits ty v = true) (hl : k < fs.length) (hdg : decode cc pc = .ok (.putfield index, 3))
    (kk : ∀ (H1 : Heap) (locs1 : List Loc), Gx D sz X (T.set q (a, .inr (ci, fs.set k v))) s.heap H1 locs1 → W p l e R s m args below meth c H1 locs1 cells slots Q (F0 m (pc + 3) ls rest)) : W p l e R s m args below meth c H locs cells slots Q (F0 m pc ls (v :: .ref a :: rest)) := by
  obtain ⟨hx, hb, hr, hml, hown, hw, hlk, hK, hF, hsz⟩ := E
  refine va_put hx hb hw hin ty0 hty hnm hown hK G.1 G.2.1 G.2.2 (X.length + q) ((xl_get X T q).trans hT) hc k hk (hw _ hlink) (fun x h => hsame.elim (fun z => z ▸ h) (fun z => u_same (hw _ z) x h)) hfin hd hn hfit hl hdg (fun H1 locs1 h1 h2 h3 => ?_)
  rw [xl_set] at h1 h2
  exact kk H1 locs1 ⟨h1, h2, h3⟩
theorem x_putF (E : En p s m args meth c cc mL rt own D cy sz) (G : Gx D sz X T s.heap H locs) {ref C : String} {Tb : u_T} {N ci index : Nat} (hin : ∀ w ∈ u_ws C Tb N, w ∈ wl) (ty0 : Nat → FieldType) (hty : ∀ k, k < N → parseFieldDescriptor (Tb k).2.2.1 = some (ty0 k)) (hnm : ∀ a, a < N → ∀ b, b < N → a ≠ b → (Tb a).2.1 ≠ (Tb b).2.1)
    (q : Nat) {fs : List Value} (hT : T[q]? = some (a, .inr (ci, fs))) (hc : vwCl[ci]? = some (C, Tb, N)) (k : Nat) (hk : k < N)
    (hlink : Cond.fieldLink own index ref (Tb k).2.1 (Tb k).2.2.1 ∈ wl) (hsame : (Tb k).1 = ref ∨ Cond.sameField ref (Tb k).1 (Tb k).2.1 (Tb k).2.2.1 ∈ wl) (hfin : (Tb k).2.2.2 = true) (hin2 : meth.name = "<init>") (hdecl : (Tb k).1 = own) {ty : FieldType} {v : Value} (hd : parseFieldDescriptor (Tb k).2.2.1 = some ty) (hn : narrow ty v = v) (hfit : fits ty v = true) (hl : k < fs.length) (hdg : decode cc pc = .ok (.putfield index, 3))
    (kk : ∀ (H1 : Heap) (locs1 : List Loc), Gx D sz X (T.set q (a, .inr (ci, fs.set k v))) s.heap H1 locs1 → W p l e R s m args below meth c H1 locs1 cells slots Q (F0 m (pc + 3) ls rest)) : W p l e R s m args below meth c H locs cells slots Q (F0 m pc ls (v :: .ref a :: rest)) := by
  obtain ⟨hx, hb, hr, hml, hown, hw, hlk, hK, hF, hsz⟩ := E
  refine va_putF hx hb hw hin ty0 hty hnm hown hK G.1 G.2.1 G.2.2 (X.length + q) ((xl_get X T q).trans hT) hc k hk (hw _ hlink) (fun x h => hsame.elim (fun z => z ▸ h) (fun z => u_same (hw _ z) x h)) hfin hin2 hdecl hd hn hfit hl hdg (fun H1 locs1 h1 h2 h3 => ?_)
  rw [xl_set] at h1 h2
  exact kk H1 locs1 ⟨h1, h2, h3⟩
theorem x_iast (E : En p s m args meth c cc mL rt own D cy sz) (G : Gx D sz X T s.heap H locs) (q : Nat) {N : Nat} {f : Nat → Int32} (hT : T[q]? = some (a, .inl (cy 0, N, .inl f))) {x v : Int32} (hin : vp_in x N) (hdg : decode cc pc = .ok (.iastore, 1))
    (kk : ∀ (H1 : Heap) (locs1 : List Loc), Gx D sz X (T.set q (a, .inl (cy 0, N, .inl (upd f x.toNatClampNeg v)))) s.heap H1 locs1 → W p l e R s m args below meth c H1 locs1 cells slots Q (F0 m (pc + 1) ls rest)) : W p l e R s m args below meth c H locs cells slots Q (F0 m pc ls (.int v :: .int x :: .ref a :: rest)) := by
  obtain ⟨hx, hb, hr, hml, hown, hw, hlk, hK, hF, hsz⟩ := E
  refine va_iast hx hb hK G.1 G.2.1 G.2.2 (X.length + q) 0 ((xl_get X T q).trans hT) rfl hin hdg (fun H1 locs1 h1 h2 h3 => ?_)
  rw [xl_set] at h1 h2
  exact kk H1 locs1 ⟨h1, h2, h3⟩
/-- an object is put into an array of its class -/
theorem x_aast (E : En p s m args meth c cc mL rt own D cy sz) (G : Gx D sz X T s.heap H locs) (q q2 t0 ci : Nat) {N : Nat} {cA : ClassId} {f : Nat → Option Nat} (hT : T[q]? = some (a, .inl (cA, N, rq f))) {r : vw_C} (ht : (tysOf cy)[t0]? = some (cA, .object r.1)) {v : Nat} {vs : List Value} (hv : T[q2]? = some (v, .inr (ci, vs))) (hc : vwCl[ci]? = some r) {x : Int32} (hin : vp_in x N) (hdg : decode cc pc = .ok (.aastore, 1))
    (kk : ∀ (H1 : Heap) (locs1 : List Loc), Gx D sz X (T.set q (a, .inl (cA, N, rq (va_up f x.toNatClampNeg (some v))))) s.heap H1 locs1 → W p l e R s m args below meth c H1 locs1 cells slots Q (F0 m (pc + 1) ls rest)) : W p l e R s m args below meth c H locs cells slots Q (F0 m pc ls (.ref v :: .int x :: .ref a :: rest)) := by
  obtain ⟨hx, hb, hr, hml, hown, hw, hlk, hK, hF, hsz⟩ := E
  refine va_astq hx hb hK G.1 G.2.1 G.2.2 (X.length + q) t0 (X.length + q2) ci ((xl_get X T q).trans hT) ht ((xl_get X T q2).trans hv) hc hin hdg (fun H1 locs1 h1 h2 h3 => ?_)
  rw [xl_set] at h1 h2
  exact kk H1 locs1 ⟨h1, h2, h3⟩
/-- a new array of ints -/
theorem x_newI (E : En p s m args meth c cc mL rt own D cy sz) (G : Gx D sz X T s.heap H locs) {n : Int32} {N : Nat} (hn : ¬ n < 0) (hN : n.toNatClampNeg = N) (hbytes : N * 4 ≤ 536870912) (hcells : cells + 1 ≤ R.cells) (hslots : slots + N ≤ R.slots) (hdg : decode cc pc = .ok (.newarray .int, 2))
    (kk : ∀ (q : Nat) (H1 : Heap), Gx D sz X (T ++ [(q, .inl (cy 0, N, .inl (fun _ => 0)))]) s.heap H1 locs → W p l e R s m args below meth c H1 locs (cells + 1) (slots + N) Q (F0 m (pc + 2) ls (.ref q :: rest))) : W p l e R s m args below meth c H locs cells slots Q (F0 m pc ls (.int n :: rest)) := by
  obtain ⟨hx, hb, hr, hml, hown, hw, hlk, hK, hF, hsz⟩ := id E
  refine va_newa (atype := .int) (ty := .int) (a0 := (N, .inl (fun _ => 0))) hx hb (hw _ tb_52) rfl hK G.1 G.2.1 G.2.2 (En.hA E) (fun cA => by rfl) hn hN hbytes hcells hslots hdg (fun q cA H1 k1 h1 h2 h3 => ?_)
  have e1 : cA = cy 0 := Option.some.inj ((va_nm_int (k1.2 6 (cA, .int) rfl).2).symm.trans (va_nm_int (hK.2 0 (cy 0, .int) rfl).2))
  subst e1
  rw [List.append_assoc] at h1 h2
  exact kk q H1 ⟨h1, h2, h3⟩
theorem x_newZ (E : En p s m args meth c cc mL rt own D cy sz) (G : Gx D sz X T s.heap H locs) {n : Int32} {N : Nat} (hn : ¬ n < 0) (hN : n.toNatClampNeg = N) (hbytes : N * 1 ≤ 536870912) (hcells : cells + 1 ≤ R.cells) (hslots : slots + N ≤ R.slots) (hdg : decode cc pc = .ok (.newarray .boolean, 2))
    (kk : ∀ (q : Nat) (H1 : Heap), Gx D sz X (T ++ [(q, .inl (cy 1, N, .inl (fun _ => 0)))]) s.heap H1 locs → W p l e R s m args below meth c H1 locs (cells + 1) (slots + N) Q (F0 m (pc + 2) ls (.ref q :: rest))) : W p l e R s m args below meth c H locs cells slots Q (F0 m pc ls (.int n :: rest)) := by
  obtain ⟨hx, hb, hr, hml, hown, hw, hlk, hK, hF, hsz⟩ := id E
  refine va_newa (atype := .boolean) (ty := .boolean) (a0 := (N, .inl (fun _ => 0))) hx hb (hw _ tb_51) rfl hK G.1 G.2.1 G.2.2 (En.hA E) (fun cA => by rfl) hn hN hbytes hcells hslots hdg (fun q cA H1 k1 h1 h2 h3 => ?_)
  have e1 : cA = cy 1 := Option.some.inj ((va_nm_boolean (k1.2 6 (cA, .boolean) rfl).2).symm.trans (va_nm_boolean (hK.2 1 (cy 1, .boolean) rfl).2))
  subst e1
  rw [List.append_assoc] at h1 h2
  exact kk q H1 ⟨h1, h2, h3⟩
/-- a new array of references -/
theorem x_newR (E : En p s m args meth c cc mL rt own D cy sz) (G : Gx D sz X T s.heap H locs) {C : String} {index : Nat} (t0 : Nat) (hcl : Cond.classLink own index C ∈ wl) (hov : C ∈ xOver) (ht : (tysOf cy)[t0]? = some (cy t0, .object C)) {n : Int32} {N : Nat} (hn : ¬ n < 0) (hN : n.toNatClampNeg = N) (hbytes : N * 4 ≤ 536870912) (hcells : cells + 1 ≤ R.cells) (hslots : slots + N ≤ R.slots) (hdg : decode cc pc = .ok (.anewarray index, 3))
    (kk : ∀ (q : Nat) (H1 : Heap), Gx D sz X (T ++ [(q, .inl (cy t0, N, rq (fun _ => none)))]) s.heap H1 locs → W p l e R s m args below meth c H1 locs (cells + 1) (slots + N) Q (F0 m (pc + 3) ls (.ref q :: rest))) : W p l e R s m args below meth c H locs cells slots Q (F0 m pc ls (.int n :: rest)) := by
  obtain ⟨hx, hb, hr, hml, hown, hw, hlk, hK, hF, hsz⟩ := id E
  refine va_newq hx hb hown (hw _ hcl) (hF.2.2.1 C hov) hK G.1 G.2.1 G.2.2 (En.hA E) hn hN hbytes hcells hslots hdg (fun q cA H1 k1 h1 h2 h3 => ?_)
  obtain ⟨kA, comp, f1, f2, f3, f4⟩ := (k1.2 6 (cA, .object C) rfl).2
  obtain ⟨kA', comp', g1, g2, g3, g4⟩ := (hK.2 t0 (cy t0, .object C) ht).2
  have e1 : cA = cy t0 := Option.some.inj (f4.symm.trans g4)
  subst e1
  rw [List.append_assoc] at h1 h2
  exact kk q H1 ⟨h1, h2, h3⟩
/-- a new object -/
theorem x_newO {C : String} {Tb : u_T} {N ci index : Nat} (E : En p s m args meth c cc mL rt own D cy sz) (G : Gx D sz X T s.heap H locs) (hin : ∀ w ∈ u_ws C Tb N, w ∈ wl) (ty : Nat → FieldType) (hty : ∀ k, k < N → parseFieldDescriptor (Tb k).2.2.1 = some (ty k)) (hcl : Cond.classLink own index C ∈ wl) (hinst : Cond.instantiable C N ∈ wl) (hini : Cond.initialized C ∈ wl) (hc : vwCl[ci]? = some (C, Tb, N)) {fs : List Value} (hfs : ∀ j, j < N → defaultValue (ty j) = vp_V fs j) (hcells : cells + 1 ≤ R.cells) (hslots : slots + N ≤ R.slots) (hdg : decode cc pc = .ok (.new index, 3))
    (kk : ∀ (q : Nat) (H1 : Heap), Gx D sz X (T ++ [(q, .inr (ci, fs))]) s.heap H1 locs → W p l e R s m args below meth c H1 locs (cells + 1) (slots + N) Q (F0 m (pc + 3) ls (.ref q :: rest))) : W p l e R s m args below meth c H locs cells slots Q (F0 m pc ls rest) := by
  obtain ⟨hx, hb, hr, hml, hown, hw, hlk, hK, hF, hsz⟩ := id E
  refine va_new (ci := ci) (fs := fs) hx hb hw hin ty hty hown (hw _ hcl) (hw _ hinst) (hw _ hini) hK G.1 G.2.1 G.2.2 (En.hA E) hc hfs hcells hslots hdg (fun q H1 h1 h2 h3 => ?_)
  rw [List.append_assoc] at h1 h2
  exact kk q H1 ⟨h1, h2, h3⟩
theorem x_pre (E : En p s m args meth c cc mL rt own D cy sz) {ws : va_W} (G : Gx D sz X T s.heap H locs) (hws : X ++ T = ws) (av : List Value) : ∀ U : State, U.heap = H → s.WarmedH U.vm → va_Pc av (PreX D cy sz ws) av.toArray U := fun U hU hW =>
  ⟨rfl, by rw [hU, ← hws]; exact G.1, by rw [← hws]; exact G.2.1, va_K.moved hW.alike E.2.2.2.2.2.2.2.1, Fx.warm hW E.2.2.2.2.2.2.2.2.1, by rw [hU]; exact Nat.le_trans E.2.2.2.2.2.2.2.2.2 G.2.2.1⟩
variable {y : MethodName} {b : ByteArray} {k fr lo index nn mc ms : Nat} {As : List Value} {o : Nat} {T0 T1 : va_W} {cs : (Nat → Nat) → va_W}
/-- a constructor of a nest mate, over the cells T1 at the end -/
theorem x_cIN (E : En p s m args meth c cc mL rt own D cy sz) (G : Gx D sz X (T0 ++ T1) s.heap H locs)
    (hM : CX l y b k fr lo mc ms (.ref o :: As) D cy sz (X ++ T0) T1 cs) (hl : (own, index, y, "ToolRoom") ∈ xNest) (h4 : Cond.initialized y.cls ∈ wl) (h6 : Cond.instanceMethod y ∈ wl) (h5 : Cond.code y b k none ∈ wl) (hy1 : y.name = "<init>")
    (hd : y.cls ≠ "java/lang/invoke/MethodHandle" ∧ y.cls ≠ "java/lang/invoke/VarHandle" ∧ (parseMethodDescriptor y.desc).map (fun d => d.parameters.length) = some nn) (hR : fr + 1 ≤ R.frames ∧ 8 + (k + 11) + lo ≤ R.locals) (hn : As.length = nn) (hls : ls.size = mL) (hst : st = As.reverse ++ .ref o :: rest) (hrest : (rest.map fun v => v.category).sum ≤ 8)
    (hdg : decode cc pc = .ok (.invokespecial index, 3)) (hcs : cells + mc ≤ R.cells ∧ slots + ms ≤ R.slots)
    (kk : ∀ (a : Nat → Nat) (H1 : Heap) (locs1 : List Loc), Gx D sz X (T0 ++ cs a) s.heap H1 locs1 → W p l e R s m args below meth c H1 locs1 (cells + mc) (slots + ms) Q (F0 m (pc + 3) ls rest)) : W p l e R s m args below meth c H locs cells slots Q (F0 m pc ls st) := by
  obtain ⟨hx, hb, hr, hml, hown, hw, hlk, hK, hF, hsz⟩ := id E
  refine va_callv (va_runIN (host := "ToolRoom") (As := As) (rest := rest) ⟨hx, hb, hml, hown, hw⟩ hM ⟨va_cnB nn hw (gB h5) rfl rfl rfl (hF.2.2.2.2 _ hl) (hw _ h4) hd hR, hy1, hw _ h6⟩ ⟨PreX.blind, x_pre E G (List.append_assoc _ _ _).symm _⟩ rfl hn hls hst (lv_room hrest) hdg hcs) G.2.2 (fun q _ h => h) (fun q h => h) (fun u t H1 locs1 ht hvm hp hB hz hk hS => ?_)
  obtain ⟨b1, b2⟩ := hB
  rw [List.append_assoc] at b1 b2
  exact kk u H1 locs1 ⟨ht ▸ b1, b2, hS⟩
theorem x_cI (E : En p s m args meth c cc mL rt own D cy sz) (G : Gx D sz X (T0 ++ T1) s.heap H locs)
    (hM : CX l y b k fr lo mc ms (.ref o :: As) D cy sz (X ++ T0) T1 cs) (hl : Cond.methodLink own index y ∈ wl) (h4 : Cond.initialized y.cls ∈ wl) (h6 : Cond.instanceMethod y ∈ wl) (h5 : Cond.code y b k none ∈ wl) (hy1 : y.name = "<init>")
    (hd : y.cls ≠ "java/lang/invoke/MethodHandle" ∧ y.cls ≠ "java/lang/invoke/VarHandle" ∧ (parseMethodDescriptor y.desc).map (fun d => d.parameters.length) = some nn) (hR : fr + 1 ≤ R.frames ∧ 8 + (k + 11) + lo ≤ R.locals) (hn : As.length = nn) (hls : ls.size = mL) (hst : st = As.reverse ++ .ref o :: rest) (hrest : (rest.map fun v => v.category).sum ≤ 8)
    (hdg : decode cc pc = .ok (.invokespecial index, 3)) (hcs : cells + mc ≤ R.cells ∧ slots + ms ≤ R.slots)
    (kk : ∀ (a : Nat → Nat) (H1 : Heap) (locs1 : List Loc), Gx D sz X (T0 ++ cs a) s.heap H1 locs1 → W p l e R s m args below meth c H1 locs1 (cells + mc) (slots + ms) Q (F0 m (pc + 3) ls rest)) : W p l e R s m args below meth c H locs cells slots Q (F0 m pc ls st) := by
  obtain ⟨hx, hb, hr, hml, hown, hw, hlk, hK, hF, hsz⟩ := id E
  refine va_callv (va_runI (As := As) (rest := rest) ⟨hx, hb, hml, hown, hw⟩ hM (cwI nn hw (gB h5) rfl rfl rfl (hw _ h4) (hw _ hl) (hw _ h6) hy1 hd hR) ⟨PreX.blind, x_pre E G (List.append_assoc _ _ _).symm _⟩ rfl hn hls hst (lv_room hrest) hdg hcs) G.2.2 (fun q _ h => h) (fun q h => h) (fun u t H1 locs1 ht hvm hp hB hz hk hS => ?_)
  obtain ⟨b1, b2⟩ := hB
  rw [List.append_assoc] at b1 b2
  exact kk u H1 locs1 ⟨ht ▸ b1, b2, hS⟩
theorem x_vret {R' : Room} (av : Nat → Nat) (E : En p s m args meth c cc mL none own D cy sz) (G : Gx D sz X T s.heap H locs) (hT : va_P D vwCl (X ++ T) H → va_P D vwCl (X ++ cs av) H) (hT2 : va_D (fun q => sz ≤ q) (X ++ T) → va_D (fun q => sz ≤ q) (X ++ cs av)) (hdg : decode cc pc = .ok (.return_, 1)) :
    W p l e R' s m args below meth c H locs mc ms (MQ below (va_Qv (fun (_ : Nat → Nat) => True) (fun a t => va_P D vwCl (X ++ cs a) t.heap ∧ va_D (fun q => sz ≤ q) (X ++ cs a)) (fun q => sz ≤ q)) args s mc ms (fun q => sz ≤ q)) (F0 m pc ls []) := by
  obtain ⟨hx, hb, hr, hml, hown, hw, hlk, hK, hF2, hsz⟩ := E
  exact W.vret hx hb hr (fun t ht hW => ⟨⟨av, rfl, trivial, by rw [ht]; exact hT G.1, hT2 G.2.1⟩, G.2.2.F ht⟩) G.2.2.2.2 hdg hlk
end XW
