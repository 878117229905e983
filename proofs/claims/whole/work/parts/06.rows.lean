section RW
variable {p : Program} {l : Launch} {e : Env} {R : Room} {s : State} {m : MethodId} {args : Array Value} {below : List Frame} {meth : Method} {c : Code} {H : Heap} {locs : List Loc} {cells slots : Nat} {Q : State → Prop}
variable {cc : ByteArray} {mL : Nat} {rt : Option FieldType} {own : String} {pc : Nat} {ls : Array Slot} {rest : List Value} {D : va_G} {cy : Nat → ClassId} {sz : Nat} {ad : Nat → Nat → Nat} {n : Nat} {S : SS}
theorem En.hA (E : En p s m args meth c cc mL rt own D cy sz) : ∀ q : Nat, s.heap.size ≤ q → (fun q => sz ≤ q) q := fun q h => Nat.le_trans E.2.2.2.2.2.2.2.2.2 h
/-- a field is read -/
theorem q_get (E : En p s m args meth c cc mL rt own D cy sz) (G : Gd D cy sz ad n S s.heap H locs) {ref C : String} {T : u_T} {N ci index : Nat} (hin : ∀ w ∈ u_ws C T N, w ∈ wl) (f i : Nat) (hi : isC n f i) {fs : List Value} (hsh : sh cy ad f i (S.1 f i) (S.2 f i) = .inr (ci, fs)) (hc : vwCl[ci]? = some (C, T, N)) (k : Nat) (hk : k < N)
    (hlink : Cond.fieldLink own index ref (T k).2.1 (T k).2.2.1 ∈ wl) (hsame : (T k).1 = ref ∨ Cond.sameField ref (T k).1 (T k).2.1 (T k).2.2.1 ∈ wl) {v : Value} (hv : fs[k]? = some v) (hdg : decode cc pc = .ok (.getfield index, 3))
    (kk : W p l e R s m args below meth c H locs cells slots Q (F0 m (pc + 3) ls (v :: rest))) : W p l e R s m args below meth c H locs cells slots Q (F0 m pc ls (.ref (ad f i) :: rest)) := by
  obtain ⟨hx, hb, hr, hml, hown, hw, hlk, hK, hF, hsz⟩ := E
  obtain ⟨q0, -, hq⟩ := pool_at (cy := cy) (ad := ad) (S := S) hi
  rw [hsh] at hq
  exact va_get hx hb hw hin hown hK G.1 q0 hq hc k hk (hw _ hlink) (fun x h => hsame.elim (fun z => z ▸ h) (fun z => u_same (hw _ z) x h)) hv hdg kk
/-- an int field is written -/
theorem q_put (E : En p s m args meth c cc mL rt own D cy sz) (G : Gd D cy sz ad n S s.heap H locs) {ref C : String} {T : u_T} {N ci index : Nat} (hin : ∀ w ∈ u_ws C T N, w ∈ wl) (ty0 : Nat → FieldType) (hty : ∀ k, k < N → parseFieldDescriptor (T k).2.2.1 = some (ty0 k)) (hnm : ∀ a, a < N → ∀ b, b < N → a ≠ b → (T a).2.1 ≠ (T b).2.1)
    (f i : Nat) (hi : isC n f i) (j : Nat) {fs : List Value} (hsh : sh cy ad f i (S.1 f i) (S.2 f i) = .inr (ci, fs)) (hc : vwCl[ci]? = some (C, T, N)) (k : Nat) (hk : k < N)
    (hlink : Cond.fieldLink own index ref (T k).2.1 (T k).2.2.1 ∈ wl) (hsame : (T k).1 = ref ∨ Cond.sameField ref (T k).1 (T k).2.1 (T k).2.2.1 ∈ wl) (hfin : (T k).2.2.2 = false) {ty : FieldType} {v : Int32} (hd : parseFieldDescriptor (T k).2.2.1 = some ty) (hn : narrow ty (.int v) = .int v) (hfit : fits ty (.int v) = true) (hl : k < fs.length)
    (hsh' : sh cy ad f i (upd (S.1 f i) j v) (S.2 f i) = .inr (ci, fs.set k (.int v))) (hdg : decode cc pc = .ok (.putfield index, 3))
    (kk : ∀ (H1 : Heap) (locs1 : List Loc), Gd D cy sz ad n (uI S f i j v) s.heap H1 locs1 → W p l e R s m args below meth c H1 locs1 cells slots Q (F0 m (pc + 3) ls rest)) : W p l e R s m args below meth c H locs cells slots Q (F0 m pc ls (.int v :: .ref (ad f i) :: rest)) := by
  obtain ⟨hx, hb, hr, hml, hown, hw, hlk, hK, hF, hsz⟩ := E
  obtain ⟨q0, hn0, hq⟩ := pool_at (cy := cy) (ad := ad) (S := S) hi
  rw [hsh] at hq
  refine va_put hx hb hw hin ty0 hty hnm hown hK G.1 G.2.1 G.2.2 q0 hq hc k hk (hw _ hlink) (fun x h => hsame.elim (fun z => z ▸ h) (fun z => u_same (hw _ z) x h)) hfin hd hn hfit hl hdg (fun H1 locs1 h1 h2 h3 => ?_)
  have e1 : (pool cy ad n S).set q0 (ad f i, .inr (ci, fs.set k (.int v))) = pool cy ad n (uI S f i j v) := by
    rw [← hsh', ← pool_set (S' := uI S f i j v) G.2.1 hn0 (fun g j' h => ⟨wI_ne S f i _ h, rfl⟩)]
    rw [show (uI S f i j v).1 f i = upd (S.1 f i) j v from wI_eq S f i _]
    rfl
  rw [e1] at h1 h2
  exact kk H1 locs1 ⟨h1, h2, h3⟩
/-- an item of an array of ints -/
theorem q_iald (E : En p s m args meth c cc mL rt own D cy sz) (G : Gd D cy sz ad n S s.heap H locs) (f i : Nat) (hi : isC n f i) {N : Nat} (hsh : sh cy ad f i (S.1 f i) (S.2 f i) = .inl (cy 0, N, .inl (S.1 f i))) {x : Int32} (hin : vp_in x N) (hdg : decode cc pc = .ok (.iaload, 1))
    (kk : W p l e R s m args below meth c H locs cells slots Q (F0 m (pc + 1) ls (.int (S.1 f i x.toNatClampNeg) :: rest))) : W p l e R s m args below meth c H locs cells slots Q (F0 m pc ls (.int x :: .ref (ad f i) :: rest)) := by
  obtain ⟨hx, hb, hr, hml, hown, hw, hlk, hK, hF, hsz⟩ := E
  obtain ⟨q0, -, hq⟩ := pool_at (cy := cy) (ad := ad) (S := S) hi
  rw [hsh] at hq
  exact va_iald hx hb hK G.1 q0 0 hq rfl hin hdg kk
theorem q_zald (E : En p s m args meth c cc mL rt own D cy sz) (G : Gd D cy sz ad n S s.heap H locs) (f i : Nat) (hi : isC n f i) {N : Nat} (hsh : sh cy ad f i (S.1 f i) (S.2 f i) = .inl (cy 1, N, .inl (S.1 f i))) {x : Int32} (hin : vp_in x N) (hdg : decode cc pc = .ok (.baload, 1))
    (kk : W p l e R s m args below meth c H locs cells slots Q (F0 m (pc + 1) ls (.int (S.1 f i x.toNatClampNeg) :: rest))) : W p l e R s m args below meth c H locs cells slots Q (F0 m pc ls (.int x :: .ref (ad f i) :: rest)) := by
  obtain ⟨hx, hb, hr, hml, hown, hw, hlk, hK, hF, hsz⟩ := E
  obtain ⟨q0, -, hq⟩ := pool_at (cy := cy) (ad := ad) (S := S) hi
  rw [hsh] at hq
  exact va_zald hx hb hK G.1 q0 1 hq rfl hin hdg kk
theorem q_iast (E : En p s m args meth c cc mL rt own D cy sz) (G : Gd D cy sz ad n S s.heap H locs) (f i : Nat) (hi : isC n f i) {N : Nat} (hsh : ∀ r, sh cy ad f i r (S.2 f i) = .inl (cy 0, N, .inl r)) {x v : Int32} (hin : vp_in x N) (hdg : decode cc pc = .ok (.iastore, 1))
    (kk : ∀ (H1 : Heap) (locs1 : List Loc), Gd D cy sz ad n (uI S f i x.toNatClampNeg v) s.heap H1 locs1 → W p l e R s m args below meth c H1 locs1 cells slots Q (F0 m (pc + 1) ls rest)) : W p l e R s m args below meth c H locs cells slots Q (F0 m pc ls (.int v :: .int x :: .ref (ad f i) :: rest)) := by
  obtain ⟨hx, hb, hr, hml, hown, hw, hlk, hK, hF, hsz⟩ := E
  obtain ⟨q0, hn0, hq⟩ := pool_at (cy := cy) (ad := ad) (S := S) hi
  rw [hsh] at hq
  refine va_iast hx hb hK G.1 G.2.1 G.2.2 q0 0 hq rfl hin hdg (fun H1 locs1 h1 h2 h3 => ?_)
  have e1 : (pool cy ad n S).set q0 (ad f i, .inl (cy 0, N, .inl (upd (S.1 f i) x.toNatClampNeg v))) = pool cy ad n (uI S f i x.toNatClampNeg v) := by
    rw [← hsh, ← pool_set (S' := uI S f i x.toNatClampNeg v) G.2.1 hn0 (fun g j' h => ⟨wI_ne S f i _ h, rfl⟩)]
    rw [show (uI S f i x.toNatClampNeg v).1 f i = upd (S.1 f i) x.toNatClampNeg v from wI_eq S f i _]
    rfl
  rw [e1] at h1 h2
  exact kk H1 locs1 ⟨h1, h2, h3⟩
theorem q_zast (E : En p s m args meth c cc mL rt own D cy sz) (G : Gd D cy sz ad n S s.heap H locs) (f i : Nat) (hi : isC n f i) {N : Nat} (hsh : ∀ r, sh cy ad f i r (S.2 f i) = .inl (cy 1, N, .inl r)) {x v : Int32} (hin : vp_in x N) (hv : vp_nar .boolean v = v) (hdg : decode cc pc = .ok (.bastore, 1))
    (kk : ∀ (H1 : Heap) (locs1 : List Loc), Gd D cy sz ad n (uI S f i x.toNatClampNeg v) s.heap H1 locs1 → W p l e R s m args below meth c H1 locs1 cells slots Q (F0 m (pc + 1) ls rest)) : W p l e R s m args below meth c H locs cells slots Q (F0 m pc ls (.int v :: .int x :: .ref (ad f i) :: rest)) := by
  obtain ⟨hx, hb, hr, hml, hown, hw, hlk, hK, hF, hsz⟩ := E
  obtain ⟨q0, hn0, hq⟩ := pool_at (cy := cy) (ad := ad) (S := S) hi
  rw [hsh] at hq
  refine va_zast hx hb hK G.1 G.2.1 G.2.2 q0 1 hq rfl hin hdg (fun H1 locs1 h1 h2 h3 => ?_)
  rw [hv] at h1 h2
  have e1 : (pool cy ad n S).set q0 (ad f i, .inl (cy 1, N, .inl (upd (S.1 f i) x.toNatClampNeg v))) = pool cy ad n (uI S f i x.toNatClampNeg v) := by
    rw [← hsh, ← pool_set (S' := uI S f i x.toNatClampNeg v) G.2.1 hn0 (fun g j' h => ⟨wI_ne S f i _ h, rfl⟩)]
    rw [show (uI S f i x.toNatClampNeg v).1 f i = upd (S.1 f i) x.toNatClampNeg v from wI_eq S f i _]
    rfl
  rw [e1] at h1 h2
  exact kk H1 locs1 ⟨h1, h2, h3⟩
/-- an item of an array of references -/
theorem q_aald (E : En p s m args meth c cc mL rt own D cy sz) (G : Gd D cy sz ad n S s.heap H locs) (f i : Nat) (hi : isC n f i) {N : Nat} {cA : ClassId} {C : String} {g : Nat → Option Nat} (hsh : sh cy ad f i (S.1 f i) (S.2 f i) = .inl (cA, N, rq g)) (t0 : Nat) (ht : (tysOf cy)[t0]? = some (cA, .object C)) {x : Int32} (hin : vp_in x N) (hdg : decode cc pc = .ok (.aaload, 1))
    (kk : W p l e R s m args below meth c H locs cells slots Q (F0 m (pc + 1) ls (va_rf (g x.toNatClampNeg) :: rest))) : W p l e R s m args below meth c H locs cells slots Q (F0 m pc ls (.int x :: .ref (ad f i) :: rest)) := by
  obtain ⟨hx, hb, hr, hml, hown, hw, hlk, hK, hF, hsz⟩ := E
  obtain ⟨q0, -, hq⟩ := pool_at (cy := cy) (ad := ad) (S := S) hi
  rw [hsh] at hq
  exact va_aldq hx hb hK G.1 q0 t0 hq ht hin hdg kk
/-- nothing is put into an array of tools -/
theorem q_aastN (E : En p s m args meth c cc mL rt own D cy sz) (G : Gd D cy sz ad n S s.heap H locs) (f i : Nat) (hi : isC n f i) {N : Nat} (hsh : ∀ q, sh cy ad f i (S.1 f i) q = .inl (cy 2, N, rq (tq ad q))) {x : Int32} (hin : vp_in x N) (hdg : decode cc pc = .ok (.aastore, 1))
    (kk : ∀ (H1 : Heap) (locs1 : List Loc), Gd D cy sz ad n (uR S f i x.toNatClampNeg none) s.heap H1 locs1 → W p l e R s m args below meth c H1 locs1 cells slots Q (F0 m (pc + 1) ls rest)) : W p l e R s m args below meth c H locs cells slots Q (F0 m pc ls (.null :: .int x :: .ref (ad f i) :: rest)) := by
  obtain ⟨hx, hb, hr, hml, hown, hw, hlk, hK, hF, hsz⟩ := E
  obtain ⟨q0, hn0, hq⟩ := pool_at (cy := cy) (ad := ad) (S := S) hi
  rw [hsh] at hq
  refine va_astqN (C := "ToolRoom$Tool") hx hb hK G.1 G.2.1 G.2.2 q0 2 hq rfl hin hdg (fun H1 locs1 h1 h2 h3 => ?_)
  have e1 : (pool cy ad n S).set q0 (ad f i, .inl (cy 2, N, .inr (.inr (.inr (.inr (va_up (tq ad (S.2 f i)) x.toNatClampNeg none)))))) = pool cy ad n (uR S f i x.toNatClampNeg none) := by
    rw [← tq_upN, ← hsh, ← pool_set (S' := uR S f i x.toNatClampNeg none) G.2.1 hn0 (fun g j' h => ⟨rfl, wR_ne S f i _ h⟩)]
    rw [show (uR S f i x.toNatClampNeg none).2 f i = va_up (S.2 f i) x.toNatClampNeg none from wR_eq S f i _]
    rfl
  rw [e1] at h1 h2
  exact kk H1 locs1 ⟨h1, h2, h3⟩
theorem tE_cases (r : Nat → Int32) : (r 4 = 0 ∧ tE r = .inr (4, [.int (r 0), .int (r 1), .int (r 2)])) ∨ (r 4 = 1 ∧ tE r = .inr (0, [.int (r 0), .int (r 1), .int (r 2), .int (r 3)])) ∨ (r 4 = 2 ∧ tE r = .inr (1, [.int (r 3), .int (r 0), .int (r 1), .int (r 2)])) ∨ ((¬ r 4 = 0 ∧ ¬ r 4 = 1 ∧ ¬ r 4 = 2) ∧ tE r = .inr (2, [.int (r 0), .int (r 1), .int (r 2)])) := by
  unfold tE
  by_cases h0 : r 4 = 0
  · exact Or.inl ⟨h0, by rw [if_pos h0]⟩
  · by_cases h1 : r 4 = 1
    · exact Or.inr (Or.inl ⟨h1, by rw [if_neg h0, if_pos h1]⟩)
    · by_cases h2 : r 4 = 2
      · exact Or.inr (Or.inr (Or.inl ⟨h2, by rw [if_neg h0, if_neg h1, if_pos h2]⟩))
      · exact Or.inr (Or.inr (Or.inr ⟨⟨h0, h1, h2⟩, by rw [if_neg h0, if_neg h1, if_neg h2]⟩))
/-- a tool is put into an array of tools -/
theorem q_aast (E : En p s m args meth c cc mL rt own D cy sz) (G : Gd D cy sz ad n S s.heap H locs) (f i : Nat) (hi : isC n f i) {N : Nat} (hsh : ∀ q, sh cy ad f i (S.1 f i) q = .inl (cy 2, N, rq (tq ad q))) {t : Nat} (ht : t < n) {x : Int32} (hin : vp_in x N) (hdg : decode cc pc = .ok (.aastore, 1))
    (kk : ∀ (H1 : Heap) (locs1 : List Loc), Gd D cy sz ad n (uR S f i x.toNatClampNeg (some t)) s.heap H1 locs1 → W p l e R s m args below meth c H1 locs1 cells slots Q (F0 m (pc + 1) ls rest)) : W p l e R s m args below meth c H locs cells slots Q (F0 m pc ls (.ref (ad 16 t) :: .int x :: .ref (ad f i) :: rest)) := by
  obtain ⟨hx, hb, hr, hml, hown, hw, hlk, hK, hF, hsz⟩ := E
  obtain ⟨q0, hn0, hq⟩ := pool_at (cy := cy) (ad := ad) (S := S) hi
  rw [hsh] at hq
  have hit : isC n 16 t := ⟨by decide, List.mem_range.mpr ht⟩
  obtain ⟨q1, -, hq1⟩ := pool_at (cy := cy) (ad := ad) (S := S) hit
  have e1 : (pool cy ad n S).set q0 (ad f i, .inl (cy 2, N, .inr (.inr (.inr (.inr (va_up (tq ad (S.2 f i)) x.toNatClampNeg (some (ad 16 t)))))))) = pool cy ad n (uR S f i x.toNatClampNeg (some t)) := by
    rw [← tq_up, ← hsh, ← pool_set (S' := uR S f i x.toNatClampNeg (some t)) G.2.1 hn0 (fun g j' h => ⟨rfl, wR_ne S f i _ h⟩)]
    rw [show (uR S f i x.toNatClampNeg (some t)).2 f i = va_up (S.2 f i) x.toNatClampNeg (some t) from wR_eq S f i _]
    rfl
  have k2 : ∀ (H1 : Heap) (locs1 : List Loc), va_P D vwCl ((pool cy ad n S).set q0 (ad f i, .inl (cy 2, N, .inr (.inr (.inr (.inr (va_up (tq ad (S.2 f i)) x.toNatClampNeg (some (ad 16 t))))))))) H1 → va_D (fun q => sz ≤ q) ((pool cy ad n S).set q0 (ad f i, .inl (cy 2, N, .inr (.inr (.inr (.inr (va_up (tq ad (S.2 f i)) x.toNatClampNeg (some (ad 16 t))))))))) → va_S (fun q => sz ≤ q) s.heap H1 locs1 → W p l e R s m args below meth c H1 locs1 cells slots Q (F0 m (pc + 1) ls rest) := by
    intro H1 locs1 h1 h2 h3
    rw [e1] at h1 h2
    exact kk H1 locs1 ⟨h1, h2, h3⟩
  rcases tE_cases (S.1 16 t) with ⟨-, h⟩ | ⟨-, h⟩ | ⟨-, h⟩ | ⟨-, h⟩ <;> rw [show sh cy ad 16 t (S.1 16 t) (S.2 16 t) = tE (S.1 16 t) from rfl, h] at hq1
  · exact va_astqO (E := "ToolRoom$Tool") (r := (RX4, TX4, 3)) hx hb hK G.1 G.2.1 G.2.2 q0 2 q1 4 hq rfl (hF.1 ("ToolRoom$Hammer", "ToolRoom$Tool") (by decide +kernel)) hq1 rfl hin hdg k2
  · exact va_astqO (E := "ToolRoom$Tool") (r := (RX0, TX0, 4)) hx hb hK G.1 G.2.1 G.2.2 q0 2 q1 0 hq rfl (hF.1 ("ToolRoom$Blade", "ToolRoom$Tool") (by decide +kernel)) hq1 rfl hin hdg k2
  · exact va_astqO (E := "ToolRoom$Tool") (r := (RX1, TX1, 4)) hx hb hK G.1 G.2.1 G.2.2 q0 2 q1 1 hq rfl (hF.1 ("ToolRoom$FileBlade", "ToolRoom$Tool") (by decide +kernel)) hq1 rfl hin hdg k2
  · exact va_astqO (E := "ToolRoom$Tool") (r := (RX2, TX2, 3)) hx hb hK G.1 G.2.1 G.2.2 q0 2 q1 2 hq rfl (hF.1 ("ToolRoom$Gauge", "ToolRoom$Tool") (by decide +kernel)) hq1 rfl hin hdg k2
/-- the length of an array of ints -/
theorem q_alen (E : En p s m args meth c cc mL rt own D cy sz) (G : Gd D cy sz ad n S s.heap H locs) (f i : Nat) (hi : isC n f i) {N : Nat} (hsh : sh cy ad f i (S.1 f i) (S.2 f i) = .inl (cy 0, N, .inl (S.1 f i))) {v : Int32} (hv : Int32.ofNat N = v) (hdg : decode cc pc = .ok (.arraylength, 1))
    (kk : W p l e R s m args below meth c H locs cells slots Q (F0 m (pc + 1) ls (.int v :: rest))) : W p l e R s m args below meth c H locs cells slots Q (F0 m pc ls (.ref (ad f i) :: rest)) := by
  obtain ⟨hx, hb, hr, hml, hown, hw, hlk, hK, hF, hsz⟩ := E
  obtain ⟨q0, -, hq⟩ := pool_at (cy := cy) (ad := ad) (S := S) hi
  rw [hsh] at hq
  exact va_alen hx hb hK G.1 q0 0 hq rfl hv hdg kk
/-- the receiver of a call -/
theorem q_recv (E : En p s m args meth c cc mL rt own D cy sz) (G : Gd D cy sz ad n S s.heap H locs) (f i : Nat) (hi : isC n f i) {ci : Nat} {fs : List Value} (hsh : sh cy ad f i (S.1 f i) (S.2 f i) = .inr (ci, fs)) {q : vw_C} (hc : vwCl[ci]? = some q) : ∃ cell : Cell, H[ad f i]? = some cell ∧ cell.vm.isStatics = false ∧ s.vm.findClass q.1 = some cell.cls := by
  obtain ⟨q0, -, hq⟩ := pool_at (cy := cy) (ad := ad) (S := S) hi
  rw [hsh] at hq
  exact va_recv E.2.2.2.2.2.2.2.1 G.1 hc hq
theorem q_pre (E : En p s m args meth c cc mL rt own D cy sz) (G : Gd D cy sz ad n S s.heap H locs) (av : List Value) : ∀ U : State, U.heap = H → s.WarmedH U.vm → va_Pc av (Pre D cy sz ad n S) av.toArray U := fun U hU hW =>
  ⟨rfl, by rw [hU]; exact G.1, G.2.1, va_K.moved hW.alike E.2.2.2.2.2.2.2.1, Fx.warm hW E.2.2.2.2.2.2.2.2.1, by rw [hU]; exact Nat.le_trans E.2.2.2.2.2.2.2.2.2 G.2.2.1⟩

theorem gB {y : MethodName} {b : ByteArray} {k : Nat} {r : Option FieldType} (h : Cond.code y b k r ∈ wl) : GoodIn wl (wsB y b k r) := fun w hw => by
  rcases List.mem_cons.mp hw with rfl | hw
  · exact ⟨h, wl_good _ h⟩
  · exact ⟨hw, wl_good _ hw⟩
theorem gX {y : MethodName} {b : ByteArray} {k : Nat} {r : Option FieldType} (h : Cond.code y b k r ∈ wl) {pre : List Cond} (hp : ∀ w ∈ pre, w ∈ wl) : GoodIn wl (pre ++ wsB y b k r) := fun w hw => by
  rcases List.mem_append.mp hw with hw | hw
  · exact ⟨hp w hw, wl_good _ (hp w hw)⟩
  · exact gB h w hw
end RW
