/-! the state: ints by family, index, slot; tool references by family, index, slot -/
abbrev SS : Type := (Nat → Nat → Nat → Int32) × (Nat → Nat → Nat → Option Nat)
def wI (S : SS) (f i : Nat) (r : Nat → Int32) : SS := (fun g j => if g = f ∧ j = i then r else S.1 g j, S.2)
def wR (S : SS) (f i : Nat) (r : Nat → Option Nat) : SS := (S.1, fun g j => if g = f ∧ j = i then r else S.2 g j)
def uI (S : SS) (f i k : Nat) (v : Int32) : SS := wI S f i (upd (S.1 f i) k v)
def uR (S : SS) (f i k : Nat) (v : Option Nat) : SS := wR S f i (va_up (S.2 f i) k v)
theorem wI_eq (S : SS) (f i : Nat) (r : Nat → Int32) : (wI S f i r).1 f i = r := by simp [wI]
theorem wI_ne (S : SS) (f i : Nat) (r : Nat → Int32) {g j : Nat} (h : ¬ (g = f ∧ j = i)) : (wI S f i r).1 g j = S.1 g j := by simp [wI, h]
theorem wR_eq (S : SS) (f i : Nat) (r : Nat → Option Nat) : (wR S f i r).2 f i = r := by simp [wR]
theorem wR_ne (S : SS) (f i : Nat) (r : Nat → Option Nat) {g j : Nat} (h : ¬ (g = f ∧ j = i)) : (wR S f i r).2 g j = S.2 g j := by simp [wR, h]
theorem uI_at (S : SS) (f i k : Nat) (v : Int32) (g j h : Nat) : (uI S f i k v).1 g j h = if g = f ∧ j = i ∧ h = k then v else S.1 g j h := by
  unfold uI wI
  by_cases h1 : g = f ∧ j = i
  · obtain ⟨rfl, rfl⟩ := h1
    simp [upd]
  · have h2 : ¬ (g = f ∧ j = i ∧ h = k) := fun q => h1 ⟨q.1, q.2.1⟩
    simp only [if_neg h1, if_neg h2]
theorem uI_R (S : SS) (f i k : Nat) (v : Int32) : (uI S f i k v).2 = S.2 := rfl
theorem uR_I (S : SS) (f i k : Nat) (v : Option Nat) : (uR S f i k v).1 = S.1 := rfl
theorem uR_at (S : SS) (f i k : Nat) (v : Option Nat) (g j h : Nat) : (uR S f i k v).2 g j h = if g = f ∧ j = i ∧ h = k then v else S.2 g j h := by
  unfold uR wR
  by_cases h1 : g = f ∧ j = i
  · obtain ⟨rfl, rfl⟩ := h1
    simp [va_up]
  · have h2 : ¬ (g = f ∧ j = i ∧ h = k) := fun q => h1 ⟨q.1, q.2.1⟩
    simp only [if_neg h1, if_neg h2]
def mlen : Nat → Nat := fun j => match j with
  | 0 => 10 | 2 => 600 | 3 => 600 | 4 => 600 | 5 => 600 | 6 => 600 | 7 => 4 | 8 => 80 | 9 => 4 | 10 => 4 | 11 => 40 | 12 => 2 | 13 => 16 | 14 => 128 | 15 => 4 | 16 => 4
  | _ => 7
def mcl (cy : Nat → ClassId) : Nat → ClassId := fun j => match j with
  | 5 => cy 1 | 15 => cy 1
  | _ => cy 0
abbrev rq (q : Nat → Option Nat) : (Nat → Int32) ⊕ (Nat → Int64) ⊕ (Nat → UInt32) ⊕ (Nat → UInt64) ⊕ (Nat → Option Nat) := .inr (.inr (.inr (.inr q)))
def tE (r : Nat → Int32) : va_E := if r 4 = 0 then .inr (4, [.int (r 0), .int (r 1), .int (r 2)]) else if r 4 = 1 then .inr (0, [.int (r 0), .int (r 1), .int (r 2), .int (r 3)]) else if r 4 = 2 then .inr (1, [.int (r 3), .int (r 0), .int (r 1), .int (r 2)]) else .inr (2, [.int (r 0), .int (r 1), .int (r 2)])
def tq (ad : Nat → Nat → Nat) (q : Nat → Option Nat) : Nat → Option Nat := fun i => (q i).map (ad 16)
def sh (cy : Nat → ClassId) (ad : Nat → Nat → Nat) (f i : Nat) (r : Nat → Int32) (q : Nat → Option Nat) : va_E := match f with
  | 0 => .inr (7, [.ref (ad 1 0), .ref (ad 2 0), .ref (ad 3 0), .ref (ad 4 0), .ref (ad 5 0), .ref (ad 6 0), .ref (ad 7 0), .int (r 7), .int (r 8), .int (r 9)])
  | 1 => .inl (cy 2, 10, rq (tq ad q))
  | 2 => .inl (cy 3, 4, rq (fun j => some (ad 8 j)))
  | 3 => .inl (cy 4, 4, rq (fun j => some (ad 10 j)))
  | 4 => .inl (cy 5, 2, rq (fun j => some (ad 12 j)))
  | 5 => .inl (cy 1, 4, .inl r)
  | 6 => .inl (cy 0, 4, .inl r)
  | 7 => .inl (cy 0, 7, .inl r)
  | 8 => .inr (6, [.int (r 0), .ref (ad 9 i)])
  | 9 => .inl (cy 0, 20, .inl r)
  | 10 => .inr (5, [.int (r 0), .ref (ad 11 i), .int (r 2)])
  | 11 => .inl (cy 2, 10, rq (tq ad q))
  | 12 => .inr (3, [.int (r 0), .ref (ad 13 i)])
  | 13 => .inl (cy 3, 8, rq (fun j => some (ad 14 (8 * i + j))))
  | 14 => .inr (6, [.int (r 0), .ref (ad 15 i)])
  | 15 => .inl (cy 0, 8, .inl r)
  | 16 => tE r
  | 17 => .inr (8, [.ref (ad 18 0), .int (r 1), .ref (ad 18 2), .ref (ad 18 3), .ref (ad 18 4), .ref (ad 18 5), .ref (ad 18 6), .ref (ad 18 7), .ref (ad 18 8), .ref (ad 18 9), .ref (ad 18 10), .ref (ad 18 11), .ref (ad 18 12), .ref (ad 18 13), .ref (ad 18 14), .ref (ad 18 15), .ref (ad 18 16), .int (r 17), .int (r 18), .ref (ad 18 19), .int (r 20)])
  | _ => .inl (mcl cy i, mlen i, .inl r)
def idx (n f : Nat) : List Nat := match f with
  | 8 => List.range 4 | 9 => List.range 4 | 10 => List.range 4 | 11 => List.range 4
  | 12 => List.range 2 | 13 => List.range 2 | 14 => List.range 16 | 15 => List.range 16
  | 16 => List.range n
  | 18 => [0, 2, 3, 4, 5, 6, 7, 8, 9, 10, 11, 12, 13, 14, 15, 16, 19]
  | _ => [0]
def nmB : List (Nat × Nat) := [0, 1, 2, 3, 4, 5, 6, 7, 8, 9, 10, 11, 12, 13, 14, 15, 17, 18].flatMap (fun f => (idx 0 f).map (fun i => (f, i)))
def nms (n : Nat) : List (Nat × Nat) := nmB ++ (List.range n).map (fun i => (16, i))
/-- (f, i) is a cell -/
def isC (n f i : Nat) : Prop := f < 19 ∧ i ∈ idx n f
theorem nms_mem {n f i : Nat} (h : isC n f i) : (f, i) ∈ nms n := by
  obtain ⟨h1, h2⟩ := h
  match f, h1, h2 with
  | 0, _, h => exact List.mem_append_left _ (List.mem_flatMap.mpr ⟨0, by decide, List.mem_map.mpr ⟨i, h, rfl⟩⟩)
  | 1, _, h => exact List.mem_append_left _ (List.mem_flatMap.mpr ⟨1, by decide, List.mem_map.mpr ⟨i, h, rfl⟩⟩)
  | 2, _, h => exact List.mem_append_left _ (List.mem_flatMap.mpr ⟨2, by decide, List.mem_map.mpr ⟨i, h, rfl⟩⟩)
  | 3, _, h => exact List.mem_append_left _ (List.mem_flatMap.mpr ⟨3, by decide, List.mem_map.mpr ⟨i, h, rfl⟩⟩)
  | 4, _, h => exact List.mem_append_left _ (List.mem_flatMap.mpr ⟨4, by decide, List.mem_map.mpr ⟨i, h, rfl⟩⟩)
  | 5, _, h => exact List.mem_append_left _ (List.mem_flatMap.mpr ⟨5, by decide, List.mem_map.mpr ⟨i, h, rfl⟩⟩)
  | 6, _, h => exact List.mem_append_left _ (List.mem_flatMap.mpr ⟨6, by decide, List.mem_map.mpr ⟨i, h, rfl⟩⟩)
  | 7, _, h => exact List.mem_append_left _ (List.mem_flatMap.mpr ⟨7, by decide, List.mem_map.mpr ⟨i, h, rfl⟩⟩)
  | 8, _, h => exact List.mem_append_left _ (List.mem_flatMap.mpr ⟨8, by decide, List.mem_map.mpr ⟨i, h, rfl⟩⟩)
  | 9, _, h => exact List.mem_append_left _ (List.mem_flatMap.mpr ⟨9, by decide, List.mem_map.mpr ⟨i, h, rfl⟩⟩)
  | 10, _, h => exact List.mem_append_left _ (List.mem_flatMap.mpr ⟨10, by decide, List.mem_map.mpr ⟨i, h, rfl⟩⟩)
  | 11, _, h => exact List.mem_append_left _ (List.mem_flatMap.mpr ⟨11, by decide, List.mem_map.mpr ⟨i, h, rfl⟩⟩)
  | 12, _, h => exact List.mem_append_left _ (List.mem_flatMap.mpr ⟨12, by decide, List.mem_map.mpr ⟨i, h, rfl⟩⟩)
  | 13, _, h => exact List.mem_append_left _ (List.mem_flatMap.mpr ⟨13, by decide, List.mem_map.mpr ⟨i, h, rfl⟩⟩)
  | 14, _, h => exact List.mem_append_left _ (List.mem_flatMap.mpr ⟨14, by decide, List.mem_map.mpr ⟨i, h, rfl⟩⟩)
  | 15, _, h => exact List.mem_append_left _ (List.mem_flatMap.mpr ⟨15, by decide, List.mem_map.mpr ⟨i, h, rfl⟩⟩)
  | 16, _, h => exact List.mem_append_right _ (List.mem_map.mpr ⟨i, h, rfl⟩)
  | 17, _, h => exact List.mem_append_left _ (List.mem_flatMap.mpr ⟨17, by decide, List.mem_map.mpr ⟨i, h, rfl⟩⟩)
  | 18, _, h => exact List.mem_append_left _ (List.mem_flatMap.mpr ⟨18, by decide, List.mem_map.mpr ⟨i, h, rfl⟩⟩)
  | f + 19, h, _ => exact absurd h (by omega)
def ce (cy : Nat → ClassId) (ad : Nat → Nat → Nat) (S : SS) (x : Nat × Nat) : Nat × va_E := (ad x.1 x.2, sh cy ad x.1 x.2 (S.1 x.1 x.2) (S.2 x.1 x.2))
def pool (cy : Nat → ClassId) (ad : Nat → Nat → Nat) (n : Nat) (S : SS) : va_W := (nms n).map (ce cy ad S)
abbrev tysOf (cy : Nat → ClassId) : List (ClassId × FieldType) := [(cy 0, .int), (cy 1, .boolean), (cy 2, .object "ToolRoom$Tool"), (cy 3, .object "ToolRoom$Row"), (cy 4, .object "ToolRoom$Rack"), (cy 5, .object "ToolRoom$Grid")]
theorem pool_at {cy : Nat → ClassId} {ad : Nat → Nat → Nat} {n : Nat} {S : SS} {f i : Nat} (h : isC n f i) : ∃ k : Nat, (nms n)[k]? = some (f, i) ∧ (pool cy ad n S)[k]? = some (ad f i, sh cy ad f i (S.1 f i) (S.2 f i)) := by
  obtain ⟨k, hk⟩ := List.getElem?_of_mem (nms_mem h)
  exact ⟨k, hk, by unfold pool; rw [List.getElem?_map, hk]; rfl⟩
theorem pool_set {A : Nat → Prop} {cy : Nat → ClassId} {ad : Nat → Nat → Nat} {n : Nat} {S S' : SS} {f i k : Nat} (hD : va_D A (pool cy ad n S)) (hk : (nms n)[k]? = some (f, i)) (h' : ∀ g j, ¬ (g = f ∧ j = i) → S'.1 g j = S.1 g j ∧ S'.2 g j = S.2 g j) :
    (pool cy ad n S).set k (ad f i, sh cy ad f i (S'.1 f i) (S'.2 f i)) = pool cy ad n S' := by
  have hl : k < (pool cy ad n S).length := by unfold pool; rw [List.length_map]; exact (List.getElem?_eq_some_iff.mp hk).1
  apply List.ext_getElem?
  intro j
  by_cases hj : j = k
  · subst hj
    rw [List.getElem?_set_self hl]
    unfold pool
    rw [List.getElem?_map, hk]
    rfl
  · rw [List.getElem?_set_ne (Ne.symm hj)]
    unfold pool
    rw [List.getElem?_map, List.getElem?_map]
    cases hx : (nms n)[j]? with
    | none => rfl
    | some x =>
      have hne : ¬ (x.1 = f ∧ x.2 = i) := by
        rintro ⟨h1, h2⟩
        have hx2 : x = (f, i) := Prod.ext h1 h2
        subst hx2
        refine hj (hD.1 j k (ce cy ad S (f, i)) (ce cy ad S (f, i)) ?_ ?_ rfl)
        · unfold pool; rw [List.getElem?_map, hx]; rfl
        · unfold pool; rw [List.getElem?_map, hk]; rfl
      obtain ⟨e1, e2⟩ := h' x.1 x.2 hne
      show some (ce cy ad S x) = some (ce cy ad S' x)
      unfold ce
      rw [e1, e2]
theorem tq_up (ad : Nat → Nat → Nat) (q : Nat → Option Nat) (k t : Nat) : tq ad (va_up q k (some t)) = va_up (tq ad q) k (some (ad 16 t)) := by
  funext j
  by_cases h : j = k <;> simp [tq, va_up, h]
theorem tq_upN (ad : Nat → Nat → Nat) (q : Nat → Option Nat) (k : Nat) : tq ad (va_up q k none) = va_up (tq ad q) k none := by
  funext j
  by_cases h : j = k <;> simp [tq, va_up, h]
/-- what the tables say beside words: castable, not castable, arrays of classes, abstract methods, private constructors of nest mates -/
def xCast : List (String × String) := [("ToolRoom$Blade", "ToolRoom$Tool"), ("ToolRoom$FileBlade", "ToolRoom$Tool"), ("ToolRoom$Gauge", "ToolRoom$Tool"), ("ToolRoom$Hammer", "ToolRoom$Tool"), ("ToolRoom$Blade", "ToolRoom$Blade"), ("ToolRoom$FileBlade", "ToolRoom$Blade"), ("ToolRoom$Gauge", "ToolRoom$Gauge")]
def xNot : List (String × String) := [("ToolRoom$Gauge", "ToolRoom$Blade"), ("ToolRoom$Hammer", "ToolRoom$Blade"), ("ToolRoom$Blade", "ToolRoom$Gauge"), ("ToolRoom$FileBlade", "ToolRoom$Gauge"), ("ToolRoom$Hammer", "ToolRoom$Gauge")]
def xOver : List String := ["ToolRoom$Tool", "ToolRoom$Row", "ToolRoom$Rack", "ToolRoom$Grid"]
def xDecl : List MethodName := [⟨"ToolRoom$Holder", "vanish", "()Z"⟩, ⟨"ToolRoom$Tool", "kindNumber", "()I"⟩, ⟨"ToolRoom$Tool", "weight", "()I"⟩, ⟨"ToolRoom$Tool", "work", "(I)I"⟩]
def xNest : List (String × Nat × MethodName × String) := [("ToolRoom", 125, yX4_init, "ToolRoom"), ("ToolRoom", 126, yX0_init, "ToolRoom"), ("ToolRoom", 129, yX1_init, "ToolRoom"), ("ToolRoom", 132, yX2_init, "ToolRoom"), ("ToolRoom", 57, yX6_init, "ToolRoom"), ("ToolRoom$Blade", 3, yX8_init, "ToolRoom"), ("ToolRoom$FileBlade", 3, yX0_init, "ToolRoom"), ("ToolRoom$Gauge", 3, yX8_init, "ToolRoom"), ("ToolRoom$Grid", 3, yX5_init, "ToolRoom"), ("ToolRoom$Hammer", 3, yX8_init, "ToolRoom"), ("ToolRoom$Rack", 3, yX5_init, "ToolRoom"), ("ToolRoom$Row", 1, yX5_init, "ToolRoom")]
def Fx (U : State) : Prop := (∀ q ∈ xCast, va_Nw (.castable q.1 q.2) U) ∧ (∀ q ∈ xNot, va_Nc q.1 q.2 U) ∧ (∀ q ∈ xOver, va_AO q U) ∧ (∀ q ∈ xDecl, va_Nw (.declares q) U) ∧ ∀ q ∈ xNest, va_Nw (.methodLinkNest q.1 q.2.1 q.2.2.1 q.2.2.2) U
theorem Fx.warm {s U : State} (hW : s.WarmedH U.vm) (h : Fx s) : Fx U :=
  ⟨fun q hq => va_Nw.warmC hW (h.1 q hq), fun q hq => (h.2.1 q hq).moved hW.alike, fun q hq => (h.2.2.1 q hq).moved hW.alike, fun q hq => va_Nw.warmD hW (h.2.2.2.1 q hq), fun q hq => va_Nw.warmM hW (h.2.2.2.2 q hq)⟩
theorem Fx.vm {s U : State} (hv : s.vm = U.vm) (h : Fx s) : Fx U :=
  ⟨fun q hq => va_tabs rfl hv (h.1 q hq), fun q hq => (h.2.1 q hq).moved (hv ▸ Vm.Alike.refl s.vm), fun q hq => (h.2.2.1 q hq).moved (hv ▸ Vm.Alike.refl s.vm), fun q hq => va_tabs rfl hv (h.2.2.2.1 q hq), fun q hq => va_tabs rfl hv (h.2.2.2.2 q hq)⟩
/-- the world, inside a method -/
def Gd (D : va_G) (cy : Nat → ClassId) (sz : Nat) (ad : Nat → Nat → Nat) (n : Nat) (S : SS) (H0 H : Heap) (locs : List Loc) : Prop :=
  va_P D vwCl (pool cy ad n S) H ∧ va_D (fun q => sz ≤ q) (pool cy ad n S) ∧ va_S (fun q => sz ≤ q) H0 H locs
def Pre (D : va_G) (cy : Nat → ClassId) (sz : Nat) (ad : Nat → Nat → Nat) (n : Nat) (S : SS) (U : State) : Prop :=
  va_P D vwCl (pool cy ad n S) U.heap ∧ va_D (fun q => sz ≤ q) (pool cy ad n S) ∧ va_K D vwCl (tysOf cy) U ∧ Fx U ∧ sz ≤ U.heap.size
def Po (D : va_G) (cy : Nat → ClassId) (sz : Nat) (ad : Nat → Nat → Nat) (n : Nat) (S : SS) (t : State) : Prop :=
  va_P D vwCl (pool cy ad n S) t.heap ∧ va_D (fun q => sz ≤ q) (pool cy ad n S)
theorem Pre.blind {D : va_G} {cy : Nat → ClassId} {sz : Nat} {ad : Nat → Nat → Nat} {n : Nat} {S : SS} {av : List Value} : FrameBlind (va_Pc av (Pre D cy sz ad n S)) := fun a U g mk q =>
  ⟨q.1, q.2.1, q.2.2.1, va_K.moved (u := U) (U := U.calling g mk a) (Vm.Alike.refl U.vm) q.2.2.2.1, Fx.vm (s := U) (U := U.calling g mk a) rfl q.2.2.2.2.1, q.2.2.2.2.2⟩
abbrev wsB (y : MethodName) (b : ByteArray) (mL : Nat) (rt : Option FieldType) : List Cond := .code y b mL rt :: wl
abbrev Rm (fr lo mc ms : Nat) : Room := { frames := fr, cells := mc, slots := ms, locals := lo }
/-- a contract: the answer and the state behind it are F -/
abbrev CI (l : Launch) (y : MethodName) (b : ByteArray) (mL : Nat) (rt : Option FieldType) (fr lo : Nat) (av : List Value) (D : va_G) (cy : Nat → ClassId) (sz : Nat) (ad : Nat → Nat → Nat) (n : Nat) (S : SS) (F : Int32 × SS) : Prop :=
  Met l y (wsB y b mL rt) (Rm fr lo 0 0) (va_Pc av (Pre D cy sz ad n S)) (va_Qi (fun r u => (r, u) = F) (Po D cy sz ad n) (fun q => sz ≤ q)) 0 0 (fun q => sz ≤ q)
/-- a contract of a method that answers nothing -/
abbrev CV (l : Launch) (y : MethodName) (b : ByteArray) (mL : Nat) (fr lo : Nat) (av : List Value) (D : va_G) (cy : Nat → ClassId) (sz : Nat) (ad : Nat → Nat → Nat) (n : Nat) (S : SS) (F : SS) : Prop :=
  Met l y (wsB y b mL none) (Rm fr lo 0 0) (va_Pc av (Pre D cy sz ad n S)) (va_Qv (fun u => u = F) (Po D cy sz ad n) (fun q => sz ≤ q)) 0 0 (fun q => sz ≤ q)
/-- what holds inside a method -/
def En (p : Program) (s : State) (m : MethodId) (args : Array Value) (meth : Method) (c : Code) (cc : ByteArray) (mL : Nat) (rt : Option FieldType) (own : String) (D : va_G) (cy : Nat → ClassId) (sz : Nat) : Prop :=
  p.tables.exec = Jvm.exec ∧ c.code = cc ∧ meth.sig.returnType = rt ∧ c.maxLocals = mL ∧ s.vm.findClass own = some m.cls ∧ (∀ w ∈ wl, w.before args s = true) ∧ meth.locks = false ∧ va_K D vwCl (tysOf cy) s ∧ Fx s ∧ sz ≤ s.heap.size
theorem Met.enter {l : Launch} {y : MethodName} {b : ByteArray} {mL : Nat} {rt : Option FieldType} {rm : Room} {av : List Value} {D : va_G} {cy : Nat → ClassId} {sz : Nat} {ad : Nat → Nat → Nat} {n : Nat} {S : SS} {Qc : Array Value → State → Outcome → State → Prop} {mc ms : Nat} {free : Addr → Prop}
    (hy : plainName y.cls = true) (hlen : (lg_sl av).length ≤ mL)
    (body : ∀ (p : Program) (e : Env) (s : State) (m : MethodId) (args : Array Value) (below : List Frame) (meth : Method) (c : Code) (ls : Array Slot), En p s m args meth c b mL rt y.cls D cy sz → Gd D cy sz ad n S s.heap s.heap [] → lv_has ls mL (lv_args 0 av) →
      W p l e rm s m args below meth c s.heap [] 0 0 (MQ below Qc args s mc ms free) (F0 m 0 ls [])) :
    Met l y (wsB y b mL rt) rm (va_Pc av (Pre D cy sz ad n S)) Qc mc ms free := by
  refine Met.ofW (cc := b) (maxL := mL) (ret := rt) hy rfl ?_
  intro p e s m args below meth c s₁ B hml hv
  obtain ⟨rfl, hP, hD, hK, hF, hsz⟩ := hv
  have hts := atoms_spec (ws := wsB y b mL rt) B.pre
  have hl := lv_entry av (n := mL) hlen
  rw [lg_entry_eq]
  exact body p e s m av.toArray below meth c _ ⟨B.exec, B.bytes, B.returns, hml, findClass_of_methodNamed B.named, fun w hw => hts w (List.mem_cons_of_mem _ hw), B.notSynchronized, hK, hF, hsz⟩ ⟨hP, hD, va_S.rf⟩ hl
