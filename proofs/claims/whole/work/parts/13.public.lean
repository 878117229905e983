theorem fw_8 (S : SS) (t : Nat) (x : Int32) (g j h : Nat) (hg : g ≠ 16) : (f_work S t x).2.1 g j h = S.1 g j h := by
  unfold f_work f_X4_work f_X0_work f_X1_work f_X2_work
  split
  · exact uI_nf hg
  · split
    · exact uI_nf hg
    · split
      · rw [uI_nf hg, uI_nf hg]
      · exact uI_nf hg
theorem fw_R (S : SS) (t : Nat) (x : Int32) : (f_work S t x).2.2 = S.2 := by
  unfold f_work f_X4_work f_X0_work f_X1_work f_X2_work
  split
  · rfl
  · split
    · rfl
    · split <;> rfl
theorem cnt_in {x : Int32} (h1 : ¬ x < 1) (h2 : ¬ 6 < x) : vp_in x 7 := by
  have a := Int32.le_iff_toInt_le.mp (Int32.not_lt.mp h1)
  have b := Int32.le_iff_toInt_le.mp (Int32.not_lt.mp h2)
  have e1 : (1 : Int32).toInt = 1 := by decide
  have e6 : (6 : Int32).toInt = 6 := by decide
  exact vp_in_iff.mpr ⟨by omega, by omega⟩
theorem grd_in {x : Int32} (h2 : ¬ 8 < x) (h1 : ¬ x < 0) : vp_in x 9 := by
  have a := Int32.le_iff_toInt_le.mp (Int32.not_lt.mp h1)
  have b := Int32.le_iff_toInt_le.mp (Int32.not_lt.mp h2)
  have e1 : (0 : Int32).toInt = 0 := by decide
  have e6 : (8 : Int32).toInt = 8 := by decide
  exact vp_in_iff.mpr ⟨by omega, by omega⟩
def hon (what k : Int32) : Option (Nat × Nat) := if what = 0 then (if wi k 4 = true then some (8, k.toNatClampNeg) else none) else if what = 1 then (if wi k 4 = true then some (10, k.toNatClampNeg) else none) else (if wi k 2 = true then some (12, k.toNatClampNeg) else none)
theorem hon_ok {what k : Int32} {x : Nat × Nat} (n : Nat) (h : hon what k = some x) : isH x.1 ∧ isC n x.1 x.2 := by
  unfold hon at h
  split at h
  · split at h
    · cases h
      exact ⟨Or.inl rfl, c8 (vp_lt (wi_in (by assumption) (by decide) (by decide)))⟩
    · cases h
  · split at h
    · split at h
      · cases h
        exact ⟨Or.inr (Or.inl rfl), c10 (vp_lt (wi_in (by assumption) (by decide) (by decide)))⟩
      · cases h
    · split at h
      · cases h
        exact ⟨Or.inr (Or.inr (Or.inl rfl)), c12 (vp_lt (wi_in (by assumption) (by decide) (by decide)))⟩
      · cases h
/-- a contract of a method that answers a cell or nothing, and changes nothing -/
abbrev CQ (l : Launch) (y : MethodName) (b : ByteArray) (mL : Nat) (rt : Option FieldType) (fr lo : Nat) (av : List Value) (D : va_G) (cy : Nat → ClassId) (sz : Nat) (ad : Nat → Nat → Nat) (n : Nat) (S : SS) (o : Option (Nat × Nat)) : Prop :=
  Met l y (wsB y b mL rt) (Rm fr lo 0 0) (va_Pc av (Pre D cy sz ad n S)) (va_Qq (fun r u => r = o.map (fun x => ad x.1 x.2) ∧ u = S) (Po D cy sz ad n) (fun q => sz ≤ q)) 0 0 (fun q => sz ≤ q)
section QQ
variable {p : Program} {l : Launch} {e : Env} {R : Room} {s : State} {m : MethodId} {args : Array Value} {below : List Frame} {meth : Method} {c : Code} {H : Heap} {locs : List Loc} {cells slots : Nat} {Q : State → Prop}
variable {cc : ByteArray} {mL : Nat} {rt : Option FieldType} {own : String} {pc : Nat} {ls : Array Slot} {st : List Value} {D : va_G} {cy : Nat → ClassId} {sz : Nat} {ad : Nat → Nat → Nat} {n : Nat} {S : SS}
variable {y : MethodName} {b : ByteArray} {k fr lo index nn : Nat} {r : Option FieldType} {As : List Value} {rest : List Value}
theorem q_aret {fr' : Room} {nm : String} {o : Option (Nat × Nat)} (E : En p s m args meth c cc mL (some (.object nm)) own D cy sz) (G : Gd D cy sz ad n S s.heap H locs) (v : Option Nat) (hF : v = o.map (fun x => ad x.1 x.2)) (hdg : decode cc pc = .ok (.areturn, 1)) :
    W p l e fr' s m args below meth c H locs 0 0 (MQ below (va_Qq (fun r u => r = o.map (fun x => ad x.1 x.2) ∧ u = S) (Po D cy sz ad n) (fun q => sz ≤ q)) args s 0 0 (fun q => sz ≤ q)) (F0 m pc ls [va_rf v]) := by
  obtain ⟨hx, hb, hr, hml, hown, hw, hlk, hK, hF2, hsz⟩ := E
  exact W.aret hx hb hr (Or.inl ⟨_, rfl⟩) (va_rf_or v) (fun t ht hW => ⟨⟨v, S, rfl, ⟨hF, rfl⟩, by rw [ht]; exact G.1, G.2.1⟩, G.2.2.F ht⟩) G.2.2.2.2 hdg hlk
theorem q_cVq {o : Option (Nat × Nat)} (E : En p s m args meth c cc mL rt own D cy sz) (G : Gd D cy sz ad n S s.heap H locs) (f i : Nat) (hi : isC n f i) {ci : Nat} {fs : List Value} (hsh : sh cy ad f i (S.1 f i) (S.2 f i) = .inr (ci, fs)) {C : String} {T : u_T} {N : Nat} (hc : vwCl[ci]? = some (C, T, N))
    (hM : CQ l y b k r fr lo (.ref (ad f i) :: As) D cy sz ad n S o) (h1 : Cond.methodLink own index y ∈ wl) (h2 : Cond.instanceMethod y ∈ wl) (h3 : Cond.selects C y y ∈ wl) (h4 : Cond.initialized C ∈ wl) (h5 : Cond.code y b k r ∈ wl)
    (hd : y.cls = C ∧ y.cls ≠ "java/lang/invoke/MethodHandle" ∧ y.cls ≠ "java/lang/invoke/VarHandle" ∧ (parseMethodDescriptor y.desc).map (fun d => d.parameters.length) = some nn) (hR : fr + 1 ≤ R.frames ∧ 8 + (k + 11) + lo ≤ R.locals) (hn : As.length = nn) (hls : ls.size = mL) (hst : st = As.reverse ++ .ref (ad f i) :: rest) (hrest : (rest.map fun v => v.category).sum ≤ 8)
    (hdg : decode cc pc = .ok (.invokevirtual index, 3)) (hcs : cells ≤ R.cells ∧ slots ≤ R.slots)
    (k0 : o = none → ∀ (H1 : Heap) (locs1 : List Loc), Gd D cy sz ad n S s.heap H1 locs1 → W p l e R s m args below meth c H1 locs1 cells slots Q (F0 m (pc + 3) ls (.null :: rest)))
    (k1 : ∀ x, o = some x → ∀ (H1 : Heap) (locs1 : List Loc), Gd D cy sz ad n S s.heap H1 locs1 → W p l e R s m args below meth c H1 locs1 cells slots Q (F0 m (pc + 3) ls (.ref (ad x.1 x.2) :: rest))) : W p l e R s m args below meth c H locs cells slots Q (F0 m pc ls st) := by
  obtain ⟨hx, hb, hr, hml, hown, hw, hlk, hK, hF, hsz⟩ := id E
  refine va_callq (va_runV (As := As) (rest := rest) ⟨hx, hb, hml, hown, hw⟩ hM (cwV nn hw (gX h5 (fun w hw => by simp only [List.mem_cons, List.not_mem_nil, or_false] at hw; rcases hw with rfl | rfl | rfl | rfl <;> assumption)) rfl rfl rfl hd hR) ⟨Pre.blind, q_recv E G f i hi hsh hc, q_pre E G _⟩ rfl hn hls hst (lv_room hrest) hdg hcs) G.2.2 (fun q _ h => h) (fun q h => h) (fun r1 u t H1 locs1 ht hvm hp hB hz hk hS => ?_)
  obtain ⟨rfl, rfl⟩ := hp
  have G1 : Gd D cy sz ad n u s.heap H1 locs1 := ⟨ht ▸ hB.1, hB.2, hS⟩
  cases o with
  | none => exact k0 rfl H1 locs1 G1
  | some x => exact k1 x rfl H1 locs1 G1
theorem q_aaldN (E : En p s m args meth c cc mL rt own D cy sz) (G : Gd D cy sz ad n S s.heap H locs) (f i : Nat) (hi : isC n f i) {N : Nat} (hsh : sh cy ad f i (S.1 f i) (S.2 f i) = .inl (cy 2, N, rq (tq ad (S.2 f i)))) {x : Int32} (hin : vp_in x N) (hq : S.2 f i x.toNatClampNeg = none) (hdg : decode cc pc = .ok (.aaload, 1))
    (k0 : W p l e R s m args below meth c H locs cells slots Q (F0 m (pc + 1) ls (.null :: rest))) : W p l e R s m args below meth c H locs cells slots Q (F0 m pc ls (.int x :: .ref (ad f i) :: rest)) :=
  q_aaldT E G f i hi hsh hin hdg (fun _ => k0) (fun t h => by rw [hq] at h; cases h)
theorem q_aaldS {t : Nat} (E : En p s m args meth c cc mL rt own D cy sz) (G : Gd D cy sz ad n S s.heap H locs) (f i : Nat) (hi : isC n f i) {N : Nat} (hsh : sh cy ad f i (S.1 f i) (S.2 f i) = .inl (cy 2, N, rq (tq ad (S.2 f i)))) {x : Int32} (hin : vp_in x N) (hq : S.2 f i x.toNatClampNeg = some t) (hdg : decode cc pc = .ok (.aaload, 1))
    (k0 : W p l e R s m args below meth c H locs cells slots Q (F0 m (pc + 1) ls (.ref (ad 16 t) :: rest))) : W p l e R s m args below meth c H locs cells slots Q (F0 m pc ls (.int x :: .ref (ad f i) :: rest)) :=
  q_aaldT E G f i hi hsh hin hdg (fun h => by rw [hq] at h; cases h) (fun t' h => by rw [hq] at h; cases h; exact k0)
theorem q_look2 (hx : p.tables.exec = Jvm.exec) (hb : c.code = cc) {d o0 o1 : Int} {len : Nat} {x : Int32} {t0 t1 t2 : Nat} (hdg : decode cc pc = .ok (.lookupswitch d #[(0, o0), (1, o1)], len)) (h0 : (pc : Int) + o0 = (t0 : Int)) (h1 : (pc : Int) + o1 = (t1 : Int)) (h2 : (pc : Int) + d = (t2 : Int))
    (k0 : x = 0 → W p l e R s m args below meth c H locs cells slots Q (F0 m t0 ls rest)) (k1 : ¬ x = 0 → x = 1 → W p l e R s m args below meth c H locs cells slots Q (F0 m t1 ls rest)) (k2 : ¬ x = 0 → ¬ x = 1 → W p l e R s m args below meth c H locs cells slots Q (F0 m t2 ls rest)) :
    W p l e R s m args below meth c H locs cells slots Q (F0 m pc ls (.int x :: rest)) := by
  by_cases e0 : x = 0
  · subst e0
    exact lv_lookup hx hb hdg (by simp) (by rfl) h0 (k0 rfl)
  · by_cases e1 : x = 1
    · subst e1
      exact lv_lookup hx hb hdg (by simp) (by rfl) h1 (k1 e0 rfl)
    · exact lv_lookup hx hb hdg (by simp) (by show Op.lookupswitch.offset [(0, o0), (1, o1)] d x.toInt = d; rw [lv_osw (k := 0) e0 (by decide), lv_osw (k := 1) e1 (by decide)]; rfl) h2 (k2 e0 e1)
end QQ

set_option maxHeartbeats 4000000 in
set_option maxRecDepth 100000 in
theorem k_X9_holderOrNull (l : Launch) (D : va_G) (cy : Nat → ClassId) (sz : Nat) (ad : Nat → Nat → Nat) (n : Nat) (S : SS) (what k : Int32) : CQ l yX9_holderOrNull cX9_holderOrNull 3 (some (.object "ToolRoom$Holder")) 1 21 [.ref (ad 0 0), .int what, .int k] D cy sz ad n S (hon what k) := by
  refine Met.enter (by decide) (Nat.le_of_ble_eq_true rfl) (fun p e s m args below meth c ls E G hl => ?_)
  have E : En p s m args meth c cX9_holderOrNull 3 (some (.object "ToolRoom$Holder")) RX9 D cy sz := E
  obtain ⟨hx, hb, hrt, hml, hown, hw, hlk, hK, hF, hsz⟩ := id E
  have hl : lv_has ls 3 [(0, .ref (ad 0 0)), (1, .int what), (2, .int k)] := hl
  refine lv_iload_n hx hb dX9_holderOrNull_0 rfl (lv_at hl 1 rfl) ?_
  refine q_look2 (t0 := 28) (t1 := 47) (t2 := 66) hx hb dX9_holderOrNull_1 (by decide) (by decide) (by decide) (fun h1 => ?_) (fun h1 h2 => ?_) (fun h1 h2 => ?_)
  · refine lv_iload_n hx hb dX9_holderOrNull_28 rfl (lv_at hl 2 rfl) ?_
    refine lv_iconst (v := 4) hx hb dX9_holderOrNull_29 (by decide) ?_
    by_cases h3 : wi k 4 = true
    · have v4 : vp_in k 4 := wi_in h3 (by decide) (by decide)
      refine q_cSp E G [] (k_X9_isWithin_t l D cy sz ad n S k 4 h3) tb_117 tb_118 tb_1 tb_119 (nn := 2) (by decide +kernel) ⟨Nat.le_of_ble_eq_true rfl, Nat.le_of_ble_eq_true rfl⟩ rfl hl.1 rfl (Nat.le_of_ble_eq_true rfl) dX9_holderOrNull_30 ⟨Nat.zero_le _, Nat.zero_le _⟩ (fun H locs G => ?_)
      refine lv_if_eq (tgt := 45) hx hb dX9_holderOrNull_33 (by decide) (fun h => absurd h (by decide)) (fun _ => ?_)
      refine lv_aload_n hx hb dX9_holderOrNull_36 rfl (lv_at hl 0 rfl) ?_
      refine q_get (index := 17) (ref := "ToolRoom") E G inX9 0 0 c0 sg_0 rfl 1 (by decide) tb_83 (Or.inl rfl) rfl dX9_holderOrNull_37 ?_
      refine lv_iload_n hx hb dX9_holderOrNull_40 rfl (lv_at hl 2 rfl) ?_
      refine q_aald (C := "ToolRoom$Row") E G 2 0 c2 sa_2 3 rfl v4 dX9_holderOrNull_41 ?_
      refine lv_goto (tgt := 46) hx hb dX9_holderOrNull_42 (by decide) ?_
      exact q_aret E G (some (ad 8 k.toNatClampNeg)) (by unfold hon; simp only [if_pos h1, if_pos h3]; rfl) dX9_holderOrNull_46
    · refine q_cSp E G [] (k_X9_isWithin_f l D cy sz ad n S k 4 h3) tb_117 tb_118 tb_1 tb_119 (nn := 2) (by decide +kernel) ⟨Nat.le_of_ble_eq_true rfl, Nat.le_of_ble_eq_true rfl⟩ rfl hl.1 rfl (Nat.le_of_ble_eq_true rfl) dX9_holderOrNull_30 ⟨Nat.zero_le _, Nat.zero_le _⟩ (fun H locs G => ?_)
      refine lv_if_eq (tgt := 45) hx hb dX9_holderOrNull_33 (by decide) (fun _ => ?_) (fun h => absurd h (by decide))
      refine lv_null hx hb dX9_holderOrNull_45 ?_
      exact q_aret E G none (by unfold hon; simp only [if_pos h1, if_neg h3]; rfl) dX9_holderOrNull_46
  · refine lv_iload_n hx hb dX9_holderOrNull_47 rfl (lv_at hl 2 rfl) ?_
    refine lv_iconst (v := 4) hx hb dX9_holderOrNull_48 (by decide) ?_
    by_cases h5 : wi k 4 = true
    · have v6 : vp_in k 4 := wi_in h5 (by decide) (by decide)
      refine q_cSp E G [] (k_X9_isWithin_t l D cy sz ad n S k 4 h5) tb_117 tb_118 tb_1 tb_119 (nn := 2) (by decide +kernel) ⟨Nat.le_of_ble_eq_true rfl, Nat.le_of_ble_eq_true rfl⟩ rfl hl.1 rfl (Nat.le_of_ble_eq_true rfl) dX9_holderOrNull_49 ⟨Nat.zero_le _, Nat.zero_le _⟩ (fun H locs G => ?_)
      refine lv_if_eq (tgt := 64) hx hb dX9_holderOrNull_52 (by decide) (fun h => absurd h (by decide)) (fun _ => ?_)
      refine lv_aload_n hx hb dX9_holderOrNull_55 rfl (lv_at hl 0 rfl) ?_
      refine q_get (index := 23) (ref := "ToolRoom") E G inX9 0 0 c0 sg_0 rfl 2 (by decide) tb_84 (Or.inl rfl) rfl dX9_holderOrNull_56 ?_
      refine lv_iload_n hx hb dX9_holderOrNull_59 rfl (lv_at hl 2 rfl) ?_
      refine q_aald (C := "ToolRoom$Rack") E G 3 0 c3 sa_3 4 rfl v6 dX9_holderOrNull_60 ?_
      refine lv_goto (tgt := 65) hx hb dX9_holderOrNull_61 (by decide) ?_
      exact q_aret E G (some (ad 10 k.toNatClampNeg)) (by unfold hon; simp only [if_neg h1, if_pos h2, if_pos h5]; rfl) dX9_holderOrNull_65
    · refine q_cSp E G [] (k_X9_isWithin_f l D cy sz ad n S k 4 h5) tb_117 tb_118 tb_1 tb_119 (nn := 2) (by decide +kernel) ⟨Nat.le_of_ble_eq_true rfl, Nat.le_of_ble_eq_true rfl⟩ rfl hl.1 rfl (Nat.le_of_ble_eq_true rfl) dX9_holderOrNull_49 ⟨Nat.zero_le _, Nat.zero_le _⟩ (fun H locs G => ?_)
      refine lv_if_eq (tgt := 64) hx hb dX9_holderOrNull_52 (by decide) (fun _ => ?_) (fun h => absurd h (by decide))
      refine lv_null hx hb dX9_holderOrNull_64 ?_
      exact q_aret E G none (by unfold hon; simp only [if_neg h1, if_pos h2, if_neg h5]; rfl) dX9_holderOrNull_65
  · refine lv_iload_n hx hb dX9_holderOrNull_66 rfl (lv_at hl 2 rfl) ?_
    refine lv_iconst (v := 2) hx hb dX9_holderOrNull_67 (by decide) ?_
    by_cases h7 : wi k 2 = true
    · have v8 : vp_in k 2 := wi_in h7 (by decide) (by decide)
      refine q_cSp E G [] (k_X9_isWithin_t l D cy sz ad n S k 2 h7) tb_117 tb_118 tb_1 tb_119 (nn := 2) (by decide +kernel) ⟨Nat.le_of_ble_eq_true rfl, Nat.le_of_ble_eq_true rfl⟩ rfl hl.1 rfl (Nat.le_of_ble_eq_true rfl) dX9_holderOrNull_68 ⟨Nat.zero_le _, Nat.zero_le _⟩ (fun H locs G => ?_)
      refine lv_if_eq (tgt := 83) hx hb dX9_holderOrNull_71 (by decide) (fun h => absurd h (by decide)) (fun _ => ?_)
      refine lv_aload_n hx hb dX9_holderOrNull_74 rfl (lv_at hl 0 rfl) ?_
      refine q_get (index := 29) (ref := "ToolRoom") E G inX9 0 0 c0 sg_0 rfl 3 (by decide) tb_85 (Or.inl rfl) rfl dX9_holderOrNull_75 ?_
      refine lv_iload_n hx hb dX9_holderOrNull_78 rfl (lv_at hl 2 rfl) ?_
      refine q_aald (C := "ToolRoom$Grid") E G 4 0 c4 sa_4 5 rfl v8 dX9_holderOrNull_79 ?_
      refine lv_goto (tgt := 84) hx hb dX9_holderOrNull_80 (by decide) ?_
      exact q_aret E G (some (ad 12 k.toNatClampNeg)) (by unfold hon; simp only [if_neg h1, if_neg h2, if_pos h7]; rfl) dX9_holderOrNull_84
    · refine q_cSp E G [] (k_X9_isWithin_f l D cy sz ad n S k 2 h7) tb_117 tb_118 tb_1 tb_119 (nn := 2) (by decide +kernel) ⟨Nat.le_of_ble_eq_true rfl, Nat.le_of_ble_eq_true rfl⟩ rfl hl.1 rfl (Nat.le_of_ble_eq_true rfl) dX9_holderOrNull_68 ⟨Nat.zero_le _, Nat.zero_le _⟩ (fun H locs G => ?_)
      refine lv_if_eq (tgt := 83) hx hb dX9_holderOrNull_71 (by decide) (fun _ => ?_) (fun h => absurd h (by decide))
      refine lv_null hx hb dX9_holderOrNull_83 ?_
      exact q_aret E G none (by unfold hon; simp only [if_neg h1, if_neg h2, if_neg h7]; rfl) dX9_holderOrNull_84

def f_X9_edgeOf (S : SS) (t : Nat) : Int32 × SS := if (S.1 16 t 4 = 1 ∨ S.1 16 t 4 = 2) then (f_X9_done S (S.1 16 t 3)) else (f_X9_failWithZero S 4)
set_option maxHeartbeats 4000000 in
set_option maxRecDepth 100000 in
theorem k_X9_edgeOf (l : Launch) (D : va_G) (cy : Nat → ClassId) (sz : Nat) (ad : Nat → Nat → Nat) (n : Nat) (S : SS) (t : Nat) (ht : t < n) : CI l yX9_edgeOf cX9_edgeOf 3 (some .int) 3 63 [.ref (ad 0 0), .ref (ad 16 t)] D cy sz ad n S (f_X9_edgeOf S t) := by
  refine Met.enter (by decide) (Nat.le_of_ble_eq_true rfl) (fun p e s m args below meth c ls E G hl => ?_)
  have E : En p s m args meth c cX9_edgeOf 3 (some .int) RX9 D cy sz := E
  obtain ⟨hx, hb, hrt, hml, hown, hw, hlk, hK, hF, hsz⟩ := id E
  have hl : lv_has ls 3 [(0, .ref (ad 0 0)), (1, .ref (ad 16 t))] := hl
  refine lv_aload_n hx hb dX9_edgeOf_0 rfl (lv_at hl 1 rfl) ?_
  refine q_instB E G ht tb_155 dX9_edgeOf_1 (fun h1 => ?_) (fun h1 => ?_)
  · refine lv_if_eq (tgt := 21) hx hb dX9_edgeOf_4 (by decide) (fun h => absurd h (by decide)) (fun _ => ?_)
    refine lv_aload_n hx hb dX9_edgeOf_7 rfl (lv_at hl 1 rfl) ?_
    refine q_castB E G ht h1 tb_155 dX9_edgeOf_8 ?_
    refine lv_astore_n (lv' := [(2, .ref (ad 16 t)), (0, .ref (ad 0 0)), (1, .ref (ad 16 t))]) hx hb dX9_edgeOf_11 rfl hl (by decide) rfl (fun ls hl => ?_)
    refine lv_aload_n hx hb dX9_edgeOf_12 rfl (lv_at hl 1 rfl) ?_
    refine lv_aload_n hx hb dX9_edgeOf_13 rfl (lv_at hl 0 rfl) ?_
    refine q_getE E G ht h1 tb_164 (Or.inl rfl) dX9_edgeOf_14 ?_
    refine q_cV (rest := []) E G 0 0 c0 sg_0 (C := RX9) (T := TX9) (N := 10) rfl (k_X9_done l D cy sz ad n S (S.1 16 t 3)) tb_192 tb_194 tp_1 tb_1 tb_195 (nn := 1) (by decide +kernel) ⟨Nat.le_of_ble_eq_true rfl, Nat.le_of_ble_eq_true rfl⟩ rfl hl.1 rfl (Nat.le_of_ble_eq_true rfl) dX9_edgeOf_17 ⟨Nat.zero_le _, Nat.zero_le _⟩ (fun H locs G => ?_)
    exact q_iret E G (by unfold f_X9_edgeOf; simp only [if_pos h1, pr_eta]) dX9_edgeOf_20
  · refine lv_if_eq (tgt := 21) hx hb dX9_edgeOf_4 (by decide) (fun _ => ?_) (fun h => absurd h (by decide))
    refine lv_aload_n hx hb dX9_edgeOf_21 rfl (lv_at hl 0 rfl) ?_
    refine lv_iconst (v := 4) hx hb dX9_edgeOf_22 (by decide) ?_
    refine q_cV (rest := []) E G 0 0 c0 sg_0 (C := RX9) (T := TX9) (N := 10) rfl (k_X9_failWithZero l D cy sz ad n S 4 (by unfold vp_in; decide)) tb_247 tb_249 tp_4 tb_1 tb_250 (nn := 1) (by decide +kernel) ⟨Nat.le_of_ble_eq_true rfl, Nat.le_of_ble_eq_true rfl⟩ rfl hl.1 rfl (Nat.le_of_ble_eq_true rfl) dX9_edgeOf_23 ⟨Nat.zero_le _, Nat.zero_le _⟩ (fun H locs G => ?_)
    exact q_iret E G (by unfold f_X9_edgeOf; simp only [if_neg h1, pr_eta]) dX9_edgeOf_26

def f_X9_hang (S : SS) (x1 : Int32) (x2 : Int32) : Int32 × SS := if wi x1 10 = true then (if wi x2 10 = true then (match S.2 1 0 x2.toNatClampNeg with | none => (f_X9_done (uR S 1 0 x1.toNatClampNeg none) 0) | some t5 => (f_X9_done (uR S 1 0 x1.toNatClampNeg (some t5)) 1)) else (f_X9_refuse S (-2))) else (f_X9_refuse S (-2))
set_option maxHeartbeats 4000000 in
set_option maxRecDepth 100000 in
theorem k_X9_hang (l : Launch) (D : va_G) (cy : Nat → ClassId) (sz : Nat) (ad : Nat → Nat → Nat) (n : Nat) (S : SS) (ok : okC n S) (x1 : Int32) (x2 : Int32) : CI l yX9_hang cX9_hang 3 (some .int) 1 21 [.ref (ad 0 0), .int x1, .int x2] D cy sz ad n S (f_X9_hang S x1 x2) := by
  refine Met.enter (by decide) (Nat.le_of_ble_eq_true rfl) (fun p e s m args below meth c ls E G hl => ?_)
  have E : En p s m args meth c cX9_hang 3 (some .int) RX9 D cy sz := E
  obtain ⟨hx, hb, hrt, hml, hown, hw, hlk, hK, hF, hsz⟩ := id E
  have hl : lv_has ls 3 [(0, .ref (ad 0 0)), (1, .int x1), (2, .int x2)] := hl
  refine lv_iload_n hx hb dX9_hang_0 rfl (lv_at hl 1 rfl) ?_
  refine lv_bipush (v := 10) hx hb dX9_hang_1 (by decide) ?_
  by_cases h1 : wi x1 10 = true
  · have v2 : vp_in x1 10 := wi_in h1 (by decide) (by decide)
    refine q_cSp E G [] (k_X9_isWithin_t l D cy sz ad n S x1 10 h1) tb_117 tb_118 tb_1 tb_119 (nn := 2) (by decide +kernel) ⟨Nat.le_of_ble_eq_true rfl, Nat.le_of_ble_eq_true rfl⟩ rfl hl.1 rfl (Nat.le_of_ble_eq_true rfl) dX9_hang_3 ⟨Nat.zero_le _, Nat.zero_le _⟩ (fun H locs G => ?_)
    refine lv_if_eq (tgt := 18) hx hb dX9_hang_6 (by decide) (fun h => absurd h (by decide)) (fun _ => ?_)
    refine lv_iload_n hx hb dX9_hang_9 rfl (lv_at hl 2 rfl) ?_
    refine lv_bipush (v := 10) hx hb dX9_hang_10 (by decide) ?_
    by_cases h3 : wi x2 10 = true
    · have v4 : vp_in x2 10 := wi_in h3 (by decide) (by decide)
      refine q_cSp E G [] (k_X9_isWithin_t l D cy sz ad n S x2 10 h3) tb_117 tb_118 tb_1 tb_119 (nn := 2) (by decide +kernel) ⟨Nat.le_of_ble_eq_true rfl, Nat.le_of_ble_eq_true rfl⟩ rfl hl.1 rfl (Nat.le_of_ble_eq_true rfl) dX9_hang_12 ⟨Nat.zero_le _, Nat.zero_le _⟩ (fun H locs G => ?_)
      refine lv_if_ne (tgt := 25) hx hb dX9_hang_15 (by decide) (fun _ => ?_) (fun h => absurd h (by decide))
      refine lv_aload_n hx hb dX9_hang_25 rfl (lv_at hl 0 rfl) ?_
      refine q_get (index := 11) (ref := "ToolRoom") E G inX9 0 0 c0 sg_0 rfl 0 (by decide) tb_82 (Or.inl rfl) rfl dX9_hang_26 ?_
      refine lv_iload_n hx hb dX9_hang_29 rfl (lv_at hl 1 rfl) ?_
      refine lv_aload_n hx hb dX9_hang_30 rfl (lv_at hl 0 rfl) ?_
      refine q_get (index := 11) (ref := "ToolRoom") E G inX9 0 0 c0 sg_0 rfl 0 (by decide) tb_82 (Or.inl rfl) rfl dX9_hang_31 ?_
      refine lv_iload_n hx hb dX9_hang_34 rfl (lv_at hl 2 rfl) ?_
      refine q_aaldT E G 1 0 c1 sa_1 v4 dX9_hang_35 (fun h5 => ?_) (fun t5 h5 => ?_)
      · refine q_aastN E G 1 0 c1 (fun _ => sa_1) v2 dX9_hang_36 (fun H locs G => ?_)
        refine lv_aload_n hx hb dX9_hang_37 rfl (lv_at hl 0 rfl) ?_
        refine lv_aload_n hx hb dX9_hang_38 rfl (lv_at hl 0 rfl) ?_
        refine q_get (index := 11) (ref := "ToolRoom") E G inX9 0 0 c0 sg_0 rfl 0 (by decide) tb_82 (Or.inl rfl) rfl dX9_hang_39 ?_
        refine lv_iload_n hx hb dX9_hang_42 rfl (lv_at hl 1 rfl) ?_
        refine q_aaldN E G 1 0 c1 rfl v2 (by simp [uR_at]) dX9_hang_43 ?_
        refine lv_ifnullN (tgt := 51) hx hb dX9_hang_44 (by decide) ?_
        refine lv_iconst (v := 0) hx hb dX9_hang_51 (by decide) ?_
        refine q_cV (rest := []) E G 0 0 c0 sg_0 (C := RX9) (T := TX9) (N := 10) rfl (k_X9_done l D cy sz ad n (uR S 1 0 x1.toNatClampNeg none) 0) tb_192 tb_194 tp_1 tb_1 tb_195 (nn := 1) (by decide +kernel) ⟨Nat.le_of_ble_eq_true rfl, Nat.le_of_ble_eq_true rfl⟩ rfl hl.1 rfl (Nat.le_of_ble_eq_true rfl) dX9_hang_52 ⟨Nat.zero_le _, Nat.zero_le _⟩ (fun H locs G => ?_)
        exact q_iret E G (by unfold f_X9_hang; simp only [if_pos h1, if_pos h3, h5, pr_eta]) dX9_hang_55
      · have kt5 : t5 < n := ok.1 _ _ _ _ h5
        refine q_aast E G 1 0 c1 (fun _ => sa_1) kt5 v2 dX9_hang_36 (fun H locs G => ?_)
        refine lv_aload_n hx hb dX9_hang_37 rfl (lv_at hl 0 rfl) ?_
        refine lv_aload_n hx hb dX9_hang_38 rfl (lv_at hl 0 rfl) ?_
        refine q_get (index := 11) (ref := "ToolRoom") E G inX9 0 0 c0 sg_0 rfl 0 (by decide) tb_82 (Or.inl rfl) rfl dX9_hang_39 ?_
        refine lv_iload_n hx hb dX9_hang_42 rfl (lv_at hl 1 rfl) ?_
        refine q_aaldS (t := t5) E G 1 0 c1 rfl v2 (by simp [uR_at]) dX9_hang_43 ?_
        refine lv_ifnull hx hb dX9_hang_44 ?_
        refine lv_iconst (v := 1) hx hb dX9_hang_47 (by decide) ?_
        refine lv_goto (tgt := 52) hx hb dX9_hang_48 (by decide) ?_
        refine q_cV (rest := []) E G 0 0 c0 sg_0 (C := RX9) (T := TX9) (N := 10) rfl (k_X9_done l D cy sz ad n (uR S 1 0 x1.toNatClampNeg (some t5)) 1) tb_192 tb_194 tp_1 tb_1 tb_195 (nn := 1) (by decide +kernel) ⟨Nat.le_of_ble_eq_true rfl, Nat.le_of_ble_eq_true rfl⟩ rfl hl.1 rfl (Nat.le_of_ble_eq_true rfl) dX9_hang_52 ⟨Nat.zero_le _, Nat.zero_le _⟩ (fun H locs G => ?_)
        exact q_iret E G (by unfold f_X9_hang; simp only [if_pos h1, if_pos h3, h5, pr_eta]) dX9_hang_55
    · refine q_cSp E G [] (k_X9_isWithin_f l D cy sz ad n S x2 10 h3) tb_117 tb_118 tb_1 tb_119 (nn := 2) (by decide +kernel) ⟨Nat.le_of_ble_eq_true rfl, Nat.le_of_ble_eq_true rfl⟩ rfl hl.1 rfl (Nat.le_of_ble_eq_true rfl) dX9_hang_12 ⟨Nat.zero_le _, Nat.zero_le _⟩ (fun H locs G => ?_)
      refine lv_if_ne (tgt := 25) hx hb dX9_hang_15 (by decide) (fun h => absurd h (by decide)) (fun _ => ?_)
      refine lv_aload_n hx hb dX9_hang_18 rfl (lv_at hl 0 rfl) ?_
      refine lv_bipush (v := (-2)) hx hb dX9_hang_19 (by decide) ?_
      refine q_cV (rest := []) E G 0 0 c0 sg_0 (C := RX9) (T := TX9) (N := 10) rfl (k_X9_refuse l D cy sz ad n S (-2)) tb_120 tb_122 tp_0 tb_1 tb_123 (nn := 1) (by decide +kernel) ⟨Nat.le_of_ble_eq_true rfl, Nat.le_of_ble_eq_true rfl⟩ rfl hl.1 rfl (Nat.le_of_ble_eq_true rfl) dX9_hang_21 ⟨Nat.zero_le _, Nat.zero_le _⟩ (fun H locs G => ?_)
      exact q_iret E G (by unfold f_X9_hang; simp only [if_pos h1, if_neg h3, pr_eta]) dX9_hang_24
  · refine q_cSp E G [] (k_X9_isWithin_f l D cy sz ad n S x1 10 h1) tb_117 tb_118 tb_1 tb_119 (nn := 2) (by decide +kernel) ⟨Nat.le_of_ble_eq_true rfl, Nat.le_of_ble_eq_true rfl⟩ rfl hl.1 rfl (Nat.le_of_ble_eq_true rfl) dX9_hang_3 ⟨Nat.zero_le _, Nat.zero_le _⟩ (fun H locs G => ?_)
    refine lv_if_eq (tgt := 18) hx hb dX9_hang_6 (by decide) (fun _ => ?_) (fun h => absurd h (by decide))
    refine lv_aload_n hx hb dX9_hang_18 rfl (lv_at hl 0 rfl) ?_
    refine lv_bipush (v := (-2)) hx hb dX9_hang_19 (by decide) ?_
    refine q_cV (rest := []) E G 0 0 c0 sg_0 (C := RX9) (T := TX9) (N := 10) rfl (k_X9_refuse l D cy sz ad n S (-2)) tb_120 tb_122 tp_0 tb_1 tb_123 (nn := 1) (by decide +kernel) ⟨Nat.le_of_ble_eq_true rfl, Nat.le_of_ble_eq_true rfl⟩ rfl hl.1 rfl (Nat.le_of_ble_eq_true rfl) dX9_hang_21 ⟨Nat.zero_le _, Nat.zero_le _⟩ (fun H locs G => ?_)
    exact q_iret E G (by unfold f_X9_hang; simp only [if_neg h1, pr_eta]) dX9_hang_24

def f_X9_unhang (S : SS) (x1 : Int32) : Int32 × SS := if wi x1 10 = true then (match S.2 1 0 x1.toNatClampNeg with | none => (f_X9_done (uR S 1 0 x1.toNatClampNeg none) 0) | some t3 => (f_X9_done (uR S 1 0 x1.toNatClampNeg none) 1)) else (f_X9_refuse S (-2))
set_option maxHeartbeats 4000000 in
set_option maxRecDepth 100000 in
theorem k_X9_unhang (l : Launch) (D : va_G) (cy : Nat → ClassId) (sz : Nat) (ad : Nat → Nat → Nat) (n : Nat) (S : SS) (ok : okC n S) (x1 : Int32) : CI l yX9_unhang cX9_unhang 3 (some .int) 1 21 [.ref (ad 0 0), .int x1] D cy sz ad n S (f_X9_unhang S x1) := by
  refine Met.enter (by decide) (Nat.le_of_ble_eq_true rfl) (fun p e s m args below meth c ls E G hl => ?_)
  have E : En p s m args meth c cX9_unhang 3 (some .int) RX9 D cy sz := E
  obtain ⟨hx, hb, hrt, hml, hown, hw, hlk, hK, hF, hsz⟩ := id E
  have hl : lv_has ls 3 [(0, .ref (ad 0 0)), (1, .int x1)] := hl
  refine lv_iload_n hx hb dX9_unhang_0 rfl (lv_at hl 1 rfl) ?_
  refine lv_bipush (v := 10) hx hb dX9_unhang_1 (by decide) ?_
  by_cases h1 : wi x1 10 = true
  · have v2 : vp_in x1 10 := wi_in h1 (by decide) (by decide)
    refine q_cSp E G [] (k_X9_isWithin_t l D cy sz ad n S x1 10 h1) tb_117 tb_118 tb_1 tb_119 (nn := 2) (by decide +kernel) ⟨Nat.le_of_ble_eq_true rfl, Nat.le_of_ble_eq_true rfl⟩ rfl hl.1 rfl (Nat.le_of_ble_eq_true rfl) dX9_unhang_3 ⟨Nat.zero_le _, Nat.zero_le _⟩ (fun H locs G => ?_)
    refine lv_if_ne (tgt := 16) hx hb dX9_unhang_6 (by decide) (fun _ => ?_) (fun h => absurd h (by decide))
    refine lv_aload_n hx hb dX9_unhang_16 rfl (lv_at hl 0 rfl) ?_
    refine q_get (index := 11) (ref := "ToolRoom") E G inX9 0 0 c0 sg_0 rfl 0 (by decide) tb_82 (Or.inl rfl) rfl dX9_unhang_17 ?_
    refine lv_iload_n hx hb dX9_unhang_20 rfl (lv_at hl 1 rfl) ?_
    refine q_aaldT E G 1 0 c1 sa_1 v2 dX9_unhang_21 (fun h3 => ?_) (fun t3 h3 => ?_)
    · refine lv_ifnullN (tgt := 29) hx hb dX9_unhang_22 (by decide) ?_
      refine lv_iconst (v := 0) hx hb dX9_unhang_29 (by decide) ?_
      refine lv_istore_n (lv' := [(2, .int 0), (0, .ref (ad 0 0)), (1, .int x1)]) hx hb dX9_unhang_30 rfl hl (by decide) rfl (fun ls hl => ?_)
      refine lv_aload_n hx hb dX9_unhang_31 rfl (lv_at hl 1 rfl) ?_
      refine q_get (index := 11) (ref := "ToolRoom") E G inX9 0 0 c0 sg_0 rfl 0 (by decide) tb_82 (Or.inl rfl) rfl dX9_unhang_32 ?_
      refine lv_iload_n hx hb dX9_unhang_35 rfl (lv_at hl 2 rfl) ?_
      refine lv_null hx hb dX9_unhang_36 ?_
      refine q_aastN E G 1 0 c1 (fun _ => sa_1) v2 dX9_unhang_37 (fun H locs G => ?_)
      refine lv_aload_n hx hb dX9_unhang_38 rfl (lv_at hl 1 rfl) ?_
      refine lv_iload_n hx hb dX9_unhang_39 rfl (lv_at hl 0 rfl) ?_
      refine lv_if_eq (tgt := 47) hx hb dX9_unhang_40 (by decide) (fun _ => ?_) (fun h => absurd h (by decide))
      refine lv_iconst (v := 0) hx hb dX9_unhang_47 (by decide) ?_
      refine q_cV (rest := []) E G 0 0 c0 sg_0 (C := RX9) (T := TX9) (N := 10) rfl (k_X9_done l D cy sz ad n (uR S 1 0 x1.toNatClampNeg none) 0) tb_192 tb_194 tp_1 tb_1 tb_195 (nn := 1) (by decide +kernel) ⟨Nat.le_of_ble_eq_true rfl, Nat.le_of_ble_eq_true rfl⟩ rfl hl.1 rfl (Nat.le_of_ble_eq_true rfl) dX9_unhang_48 ⟨Nat.zero_le _, Nat.zero_le _⟩ (fun H locs G => ?_)
      exact q_iret E G (by unfold f_X9_unhang; simp only [if_pos h1, h3, pr_eta]) dX9_unhang_51
    · have kt3 : t3 < n := ok.1 _ _ _ _ h3
      refine lv_ifnull hx hb dX9_unhang_22 ?_
      refine lv_iconst (v := 1) hx hb dX9_unhang_25 (by decide) ?_
      refine lv_goto (tgt := 30) hx hb dX9_unhang_26 (by decide) ?_
      refine lv_istore_n (lv' := [(2, .int 1), (0, .ref (ad 0 0)), (1, .int x1)]) hx hb dX9_unhang_30 rfl hl (by decide) rfl (fun ls hl => ?_)
      refine lv_aload_n hx hb dX9_unhang_31 rfl (lv_at hl 1 rfl) ?_
      refine q_get (index := 11) (ref := "ToolRoom") E G inX9 0 0 c0 sg_0 rfl 0 (by decide) tb_82 (Or.inl rfl) rfl dX9_unhang_32 ?_
      refine lv_iload_n hx hb dX9_unhang_35 rfl (lv_at hl 2 rfl) ?_
      refine lv_null hx hb dX9_unhang_36 ?_
      refine q_aastN E G 1 0 c1 (fun _ => sa_1) v2 dX9_unhang_37 (fun H locs G => ?_)
      refine lv_aload_n hx hb dX9_unhang_38 rfl (lv_at hl 1 rfl) ?_
      refine lv_iload_n hx hb dX9_unhang_39 rfl (lv_at hl 0 rfl) ?_
      refine lv_if_eq (tgt := 47) hx hb dX9_unhang_40 (by decide) (fun h => absurd h (by decide)) (fun _ => ?_)
      refine lv_iconst (v := 1) hx hb dX9_unhang_43 (by decide) ?_
      refine lv_goto (tgt := 48) hx hb dX9_unhang_44 (by decide) ?_
      refine q_cV (rest := []) E G 0 0 c0 sg_0 (C := RX9) (T := TX9) (N := 10) rfl (k_X9_done l D cy sz ad n (uR S 1 0 x1.toNatClampNeg none) 1) tb_192 tb_194 tp_1 tb_1 tb_195 (nn := 1) (by decide +kernel) ⟨Nat.le_of_ble_eq_true rfl, Nat.le_of_ble_eq_true rfl⟩ rfl hl.1 rfl (Nat.le_of_ble_eq_true rfl) dX9_unhang_48 ⟨Nat.zero_le _, Nat.zero_le _⟩ (fun H locs G => ?_)
      exact q_iret E G (by unfold f_X9_unhang; simp only [if_pos h1, h3, pr_eta]) dX9_unhang_51
  · refine q_cSp E G [] (k_X9_isWithin_f l D cy sz ad n S x1 10 h1) tb_117 tb_118 tb_1 tb_119 (nn := 2) (by decide +kernel) ⟨Nat.le_of_ble_eq_true rfl, Nat.le_of_ble_eq_true rfl⟩ rfl hl.1 rfl (Nat.le_of_ble_eq_true rfl) dX9_unhang_3 ⟨Nat.zero_le _, Nat.zero_le _⟩ (fun H locs G => ?_)
    refine lv_if_ne (tgt := 16) hx hb dX9_unhang_6 (by decide) (fun h => absurd h (by decide)) (fun _ => ?_)
    refine lv_aload_n hx hb dX9_unhang_9 rfl (lv_at hl 0 rfl) ?_
    refine lv_bipush (v := (-2)) hx hb dX9_unhang_10 (by decide) ?_
    refine q_cV (rest := []) E G 0 0 c0 sg_0 (C := RX9) (T := TX9) (N := 10) rfl (k_X9_refuse l D cy sz ad n S (-2)) tb_120 tb_122 tp_0 tb_1 tb_123 (nn := 1) (by decide +kernel) ⟨Nat.le_of_ble_eq_true rfl, Nat.le_of_ble_eq_true rfl⟩ rfl hl.1 rfl (Nat.le_of_ble_eq_true rfl) dX9_unhang_12 ⟨Nat.zero_le _, Nat.zero_le _⟩ (fun H locs G => ?_)
    exact q_iret E G (by unfold f_X9_unhang; simp only [if_neg h1, pr_eta]) dX9_unhang_15

def f_X9_kind (S : SS) (x1 : Int32) : Int32 × SS := if wi x1 10 = true then (match S.2 1 0 x1.toNatClampNeg with | none => (f_X9_done S (-1)) | some t3 => (f_X9_done S (vK S t3))) else (f_X9_refuse S (-2))
set_option maxHeartbeats 4000000 in
set_option maxRecDepth 100000 in
theorem k_X9_kind (l : Launch) (D : va_G) (cy : Nat → ClassId) (sz : Nat) (ad : Nat → Nat → Nat) (n : Nat) (S : SS) (ok : okC n S) (x1 : Int32) : CI l yX9_kind cX9_kind 3 (some .int) 2 43 [.ref (ad 0 0), .int x1] D cy sz ad n S (f_X9_kind S x1) := by
  refine Met.enter (by decide) (Nat.le_of_ble_eq_true rfl) (fun p e s m args below meth c ls E G hl => ?_)
  have E : En p s m args meth c cX9_kind 3 (some .int) RX9 D cy sz := E
  obtain ⟨hx, hb, hrt, hml, hown, hw, hlk, hK, hF, hsz⟩ := id E
  have hl : lv_has ls 3 [(0, .ref (ad 0 0)), (1, .int x1)] := hl
  refine lv_iload_n hx hb dX9_kind_0 rfl (lv_at hl 1 rfl) ?_
  refine lv_bipush (v := 10) hx hb dX9_kind_1 (by decide) ?_
  by_cases h1 : wi x1 10 = true
  · have v2 : vp_in x1 10 := wi_in h1 (by decide) (by decide)
    refine q_cSp E G [] (k_X9_isWithin_t l D cy sz ad n S x1 10 h1) tb_117 tb_118 tb_1 tb_119 (nn := 2) (by decide +kernel) ⟨Nat.le_of_ble_eq_true rfl, Nat.le_of_ble_eq_true rfl⟩ rfl hl.1 rfl (Nat.le_of_ble_eq_true rfl) dX9_kind_3 ⟨Nat.zero_le _, Nat.zero_le _⟩ (fun H locs G => ?_)
    refine lv_if_ne (tgt := 16) hx hb dX9_kind_6 (by decide) (fun _ => ?_) (fun h => absurd h (by decide))
    refine lv_aload_n hx hb dX9_kind_16 rfl (lv_at hl 0 rfl) ?_
    refine q_get (index := 11) (ref := "ToolRoom") E G inX9 0 0 c0 sg_0 rfl 0 (by decide) tb_82 (Or.inl rfl) rfl dX9_kind_17 ?_
    refine lv_iload_n hx hb dX9_kind_20 rfl (lv_at hl 1 rfl) ?_
    refine q_aaldT E G 1 0 c1 sa_1 v2 dX9_kind_21 (fun h3 => ?_) (fun t3 h3 => ?_)
    · refine lv_astore_nN (lv' := [(2, .null), (0, .ref (ad 0 0)), (1, .int x1)]) hx hb dX9_kind_22 rfl hl (by decide) rfl (fun ls hl => ?_)
      refine lv_aload_n hx hb dX9_kind_23 rfl (lv_at hl 1 rfl) ?_
      refine lv_aload_nN hx hb dX9_kind_24 rfl (lv_at hl 0 rfl) ?_
      refine lv_ifnonnullN hx hb dX9_kind_25 ?_
      refine lv_iconst (v := (-1)) hx hb dX9_kind_28 (by decide) ?_
      refine lv_goto (tgt := 36) hx hb dX9_kind_29 (by decide) ?_
      refine q_cV (rest := []) E G 0 0 c0 sg_0 (C := RX9) (T := TX9) (N := 10) rfl (k_X9_done l D cy sz ad n S (-1)) tb_192 tb_194 tp_1 tb_1 tb_195 (nn := 1) (by decide +kernel) ⟨Nat.le_of_ble_eq_true rfl, Nat.le_of_ble_eq_true rfl⟩ rfl hl.1 rfl (Nat.le_of_ble_eq_true rfl) dX9_kind_36 ⟨Nat.zero_le _, Nat.zero_le _⟩ (fun H locs G => ?_)
      exact q_iret E G (by unfold f_X9_kind; simp only [if_pos h1, h3, pr_eta]) dX9_kind_39
    · have kt3 : t3 < n := ok.1 _ _ _ _ h3
      refine lv_astore_n (lv' := [(2, .ref (ad 16 t3)), (0, .ref (ad 0 0)), (1, .int x1)]) hx hb dX9_kind_22 rfl hl (by decide) rfl (fun ls hl => ?_)
      refine lv_aload_n hx hb dX9_kind_23 rfl (lv_at hl 1 rfl) ?_
      refine lv_aload_n hx hb dX9_kind_24 rfl (lv_at hl 0 rfl) ?_
      refine lv_ifnonnull (tgt := 32) hx hb dX9_kind_25 (by decide) ?_
      refine lv_aload_n hx hb dX9_kind_32 rfl (lv_at hl 0 rfl) ?_
      refine q_t_kindNumber E G kt3 [.ref (ad 0 0)] ⟨Nat.le_of_ble_eq_true rfl, Nat.le_of_ble_eq_true rfl⟩ hl.1 rfl (Nat.le_of_ble_eq_true rfl) dX9_kind_33 ⟨Nat.zero_le _, Nat.zero_le _⟩ (fun H locs G => ?_)
      refine q_cV (rest := []) E G 0 0 c0 sg_0 (C := RX9) (T := TX9) (N := 10) rfl (k_X9_done l D cy sz ad n S (vK S t3)) tb_192 tb_194 tp_1 tb_1 tb_195 (nn := 1) (by decide +kernel) ⟨Nat.le_of_ble_eq_true rfl, Nat.le_of_ble_eq_true rfl⟩ rfl hl.1 rfl (Nat.le_of_ble_eq_true rfl) dX9_kind_36 ⟨Nat.zero_le _, Nat.zero_le _⟩ (fun H locs G => ?_)
      exact q_iret E G (by unfold f_X9_kind; simp only [if_pos h1, h3, pr_eta]) dX9_kind_39
  · refine q_cSp E G [] (k_X9_isWithin_f l D cy sz ad n S x1 10 h1) tb_117 tb_118 tb_1 tb_119 (nn := 2) (by decide +kernel) ⟨Nat.le_of_ble_eq_true rfl, Nat.le_of_ble_eq_true rfl⟩ rfl hl.1 rfl (Nat.le_of_ble_eq_true rfl) dX9_kind_3 ⟨Nat.zero_le _, Nat.zero_le _⟩ (fun H locs G => ?_)
    refine lv_if_ne (tgt := 16) hx hb dX9_kind_6 (by decide) (fun h => absurd h (by decide)) (fun _ => ?_)
    refine lv_aload_n hx hb dX9_kind_9 rfl (lv_at hl 0 rfl) ?_
    refine lv_bipush (v := (-2)) hx hb dX9_kind_10 (by decide) ?_
    refine q_cV (rest := []) E G 0 0 c0 sg_0 (C := RX9) (T := TX9) (N := 10) rfl (k_X9_refuse l D cy sz ad n S (-2)) tb_120 tb_122 tp_0 tb_1 tb_123 (nn := 1) (by decide +kernel) ⟨Nat.le_of_ble_eq_true rfl, Nat.le_of_ble_eq_true rfl⟩ rfl hl.1 rfl (Nat.le_of_ble_eq_true rfl) dX9_kind_12 ⟨Nat.zero_le _, Nat.zero_le _⟩ (fun H locs G => ?_)
    exact q_iret E G (by unfold f_X9_kind; simp only [if_neg h1, pr_eta]) dX9_kind_15

def f_X9_card (S : SS) (x1 : Int32) (x2 : Int32) : Int32 × SS := if wi x1 10 = true then (match S.2 1 0 x1.toNatClampNeg with | none => (f_X9_fail S 1) | some t3 => (f_X9_done (uI (uI S 16 t3 1 1) 16 t3 2 x2) 1)) else (f_X9_refuse S (-2))
set_option maxHeartbeats 4000000 in
set_option maxRecDepth 100000 in
theorem k_X9_card (l : Launch) (D : va_G) (cy : Nat → ClassId) (sz : Nat) (ad : Nat → Nat → Nat) (n : Nat) (S : SS) (ok : okC n S) (x1 : Int32) (x2 : Int32) : CI l yX9_card cX9_card 4 (some .int) 2 42 [.ref (ad 0 0), .int x1, .int x2] D cy sz ad n S (f_X9_card S x1 x2) := by
  refine Met.enter (by decide) (Nat.le_of_ble_eq_true rfl) (fun p e s m args below meth c ls E G hl => ?_)
  have E : En p s m args meth c cX9_card 4 (some .int) RX9 D cy sz := E
  obtain ⟨hx, hb, hrt, hml, hown, hw, hlk, hK, hF, hsz⟩ := id E
  have hl : lv_has ls 4 [(0, .ref (ad 0 0)), (1, .int x1), (2, .int x2)] := hl
  refine lv_iload_n hx hb dX9_card_0 rfl (lv_at hl 1 rfl) ?_
  refine lv_bipush (v := 10) hx hb dX9_card_1 (by decide) ?_
  by_cases h1 : wi x1 10 = true
  · have v2 : vp_in x1 10 := wi_in h1 (by decide) (by decide)
    refine q_cSp E G [] (k_X9_isWithin_t l D cy sz ad n S x1 10 h1) tb_117 tb_118 tb_1 tb_119 (nn := 2) (by decide +kernel) ⟨Nat.le_of_ble_eq_true rfl, Nat.le_of_ble_eq_true rfl⟩ rfl hl.1 rfl (Nat.le_of_ble_eq_true rfl) dX9_card_3 ⟨Nat.zero_le _, Nat.zero_le _⟩ (fun H locs G => ?_)
    refine lv_if_ne (tgt := 16) hx hb dX9_card_6 (by decide) (fun _ => ?_) (fun h => absurd h (by decide))
    refine lv_aload_n hx hb dX9_card_16 rfl (lv_at hl 0 rfl) ?_
    refine q_get (index := 11) (ref := "ToolRoom") E G inX9 0 0 c0 sg_0 rfl 0 (by decide) tb_82 (Or.inl rfl) rfl dX9_card_17 ?_
    refine lv_iload_n hx hb dX9_card_20 rfl (lv_at hl 1 rfl) ?_
    refine q_aaldT E G 1 0 c1 sa_1 v2 dX9_card_21 (fun h3 => ?_) (fun t3 h3 => ?_)
    · refine lv_astore_nN (lv' := [(3, .null), (0, .ref (ad 0 0)), (1, .int x1), (2, .int x2)]) hx hb dX9_card_22 rfl hl (by decide) rfl (fun ls hl => ?_)
      refine lv_aload_nN hx hb dX9_card_23 rfl (lv_at hl 0 rfl) ?_
      refine lv_ifnonnullN hx hb dX9_card_24 ?_
      refine lv_aload_n hx hb dX9_card_27 rfl (lv_at hl 1 rfl) ?_
      refine lv_iconst (v := 1) hx hb dX9_card_28 (by decide) ?_
      refine q_cV (rest := []) E G 0 0 c0 sg_0 (C := RX9) (T := TX9) (N := 10) rfl (k_X9_fail l D cy sz ad n S 1 (by unfold vp_in; decide)) tb_227 tb_229 tp_2 tb_1 tb_230 (nn := 1) (by decide +kernel) ⟨Nat.le_of_ble_eq_true rfl, Nat.le_of_ble_eq_true rfl⟩ rfl hl.1 rfl (Nat.le_of_ble_eq_true rfl) dX9_card_29 ⟨Nat.zero_le _, Nat.zero_le _⟩ (fun H locs G => ?_)
      exact q_iret E G (by unfold f_X9_card; simp only [if_pos h1, h3, pr_eta]) dX9_card_32
    · have kt3 : t3 < n := ok.1 _ _ _ _ h3
      refine lv_astore_n (lv' := [(3, .ref (ad 16 t3)), (0, .ref (ad 0 0)), (1, .int x1), (2, .int x2)]) hx hb dX9_card_22 rfl hl (by decide) rfl (fun ls hl => ?_)
      refine lv_aload_n hx hb dX9_card_23 rfl (lv_at hl 0 rfl) ?_
      refine lv_ifnonnull (tgt := 33) hx hb dX9_card_24 (by decide) ?_
      refine lv_aload_n hx hb dX9_card_33 rfl (lv_at hl 0 rfl) ?_
      refine lv_iconst (v := 1) hx hb dX9_card_34 (by decide) ?_
      refine q_putT E G kt3 1 (by decide) rfl rfl rfl rfl tb_145 (Or.inl rfl) (ty := .boolean) (by decide +kernel) rfl rfl dX9_card_35 (fun H locs G => ?_)
      refine lv_aload_n hx hb dX9_card_38 rfl (lv_at hl 0 rfl) ?_
      refine lv_iload_n hx hb dX9_card_39 rfl (lv_at hl 3 rfl) ?_
      refine q_putT E G kt3 2 (by decide) rfl rfl rfl rfl tb_147 (Or.inl rfl) (ty := .int) (by decide +kernel) rfl rfl dX9_card_40 (fun H locs G => ?_)
      refine lv_aload_n hx hb dX9_card_43 rfl (lv_at hl 1 rfl) ?_
      refine lv_iconst (v := 1) hx hb dX9_card_44 (by decide) ?_
      refine q_cV (rest := []) E G 0 0 c0 sg_0 (C := RX9) (T := TX9) (N := 10) rfl (k_X9_done l D cy sz ad n (uI (uI S 16 t3 1 1) 16 t3 2 x2) 1) tb_192 tb_194 tp_1 tb_1 tb_195 (nn := 1) (by decide +kernel) ⟨Nat.le_of_ble_eq_true rfl, Nat.le_of_ble_eq_true rfl⟩ rfl hl.1 rfl (Nat.le_of_ble_eq_true rfl) dX9_card_45 ⟨Nat.zero_le _, Nat.zero_le _⟩ (fun H locs G => ?_)
      exact q_iret E G (by unfold f_X9_card; simp only [if_pos h1, h3, pr_eta]) dX9_card_48
  · refine q_cSp E G [] (k_X9_isWithin_f l D cy sz ad n S x1 10 h1) tb_117 tb_118 tb_1 tb_119 (nn := 2) (by decide +kernel) ⟨Nat.le_of_ble_eq_true rfl, Nat.le_of_ble_eq_true rfl⟩ rfl hl.1 rfl (Nat.le_of_ble_eq_true rfl) dX9_card_3 ⟨Nat.zero_le _, Nat.zero_le _⟩ (fun H locs G => ?_)
    refine lv_if_ne (tgt := 16) hx hb dX9_card_6 (by decide) (fun h => absurd h (by decide)) (fun _ => ?_)
    refine lv_aload_n hx hb dX9_card_9 rfl (lv_at hl 0 rfl) ?_
    refine lv_bipush (v := (-2)) hx hb dX9_card_10 (by decide) ?_
    refine q_cV (rest := []) E G 0 0 c0 sg_0 (C := RX9) (T := TX9) (N := 10) rfl (k_X9_refuse l D cy sz ad n S (-2)) tb_120 tb_122 tp_0 tb_1 tb_123 (nn := 1) (by decide +kernel) ⟨Nat.le_of_ble_eq_true rfl, Nat.le_of_ble_eq_true rfl⟩ rfl hl.1 rfl (Nat.le_of_ble_eq_true rfl) dX9_card_12 ⟨Nat.zero_le _, Nat.zero_le _⟩ (fun H locs G => ?_)
    exact q_iret E G (by unfold f_X9_card; simp only [if_neg h1, pr_eta]) dX9_card_15

def f_X9_uncard (S : SS) (x1 : Int32) : Int32 × SS := if wi x1 10 = true then (match S.2 1 0 x1.toNatClampNeg with | none => (f_X9_fail S 1) | some t3 => (f_X9_done (uI S 16 t3 1 0) 1)) else (f_X9_refuse S (-2))
set_option maxHeartbeats 4000000 in
set_option maxRecDepth 100000 in
theorem k_X9_uncard (l : Launch) (D : va_G) (cy : Nat → ClassId) (sz : Nat) (ad : Nat → Nat → Nat) (n : Nat) (S : SS) (ok : okC n S) (x1 : Int32) : CI l yX9_uncard cX9_uncard 3 (some .int) 2 42 [.ref (ad 0 0), .int x1] D cy sz ad n S (f_X9_uncard S x1) := by
  refine Met.enter (by decide) (Nat.le_of_ble_eq_true rfl) (fun p e s m args below meth c ls E G hl => ?_)
  have E : En p s m args meth c cX9_uncard 3 (some .int) RX9 D cy sz := E
  obtain ⟨hx, hb, hrt, hml, hown, hw, hlk, hK, hF, hsz⟩ := id E
  have hl : lv_has ls 3 [(0, .ref (ad 0 0)), (1, .int x1)] := hl
  refine lv_iload_n hx hb dX9_uncard_0 rfl (lv_at hl 1 rfl) ?_
  refine lv_bipush (v := 10) hx hb dX9_uncard_1 (by decide) ?_
  by_cases h1 : wi x1 10 = true
  · have v2 : vp_in x1 10 := wi_in h1 (by decide) (by decide)
    refine q_cSp E G [] (k_X9_isWithin_t l D cy sz ad n S x1 10 h1) tb_117 tb_118 tb_1 tb_119 (nn := 2) (by decide +kernel) ⟨Nat.le_of_ble_eq_true rfl, Nat.le_of_ble_eq_true rfl⟩ rfl hl.1 rfl (Nat.le_of_ble_eq_true rfl) dX9_uncard_3 ⟨Nat.zero_le _, Nat.zero_le _⟩ (fun H locs G => ?_)
    refine lv_if_ne (tgt := 16) hx hb dX9_uncard_6 (by decide) (fun _ => ?_) (fun h => absurd h (by decide))
    refine lv_aload_n hx hb dX9_uncard_16 rfl (lv_at hl 0 rfl) ?_
    refine q_get (index := 11) (ref := "ToolRoom") E G inX9 0 0 c0 sg_0 rfl 0 (by decide) tb_82 (Or.inl rfl) rfl dX9_uncard_17 ?_
    refine lv_iload_n hx hb dX9_uncard_20 rfl (lv_at hl 1 rfl) ?_
    refine q_aaldT E G 1 0 c1 sa_1 v2 dX9_uncard_21 (fun h3 => ?_) (fun t3 h3 => ?_)
    · refine lv_astore_nN (lv' := [(2, .null), (0, .ref (ad 0 0)), (1, .int x1)]) hx hb dX9_uncard_22 rfl hl (by decide) rfl (fun ls hl => ?_)
      refine lv_aload_nN hx hb dX9_uncard_23 rfl (lv_at hl 0 rfl) ?_
      refine lv_ifnonnullN hx hb dX9_uncard_24 ?_
      refine lv_aload_n hx hb dX9_uncard_27 rfl (lv_at hl 1 rfl) ?_
      refine lv_iconst (v := 1) hx hb dX9_uncard_28 (by decide) ?_
      refine q_cV (rest := []) E G 0 0 c0 sg_0 (C := RX9) (T := TX9) (N := 10) rfl (k_X9_fail l D cy sz ad n S 1 (by unfold vp_in; decide)) tb_227 tb_229 tp_2 tb_1 tb_230 (nn := 1) (by decide +kernel) ⟨Nat.le_of_ble_eq_true rfl, Nat.le_of_ble_eq_true rfl⟩ rfl hl.1 rfl (Nat.le_of_ble_eq_true rfl) dX9_uncard_29 ⟨Nat.zero_le _, Nat.zero_le _⟩ (fun H locs G => ?_)
      exact q_iret E G (by unfold f_X9_uncard; simp only [if_pos h1, h3, pr_eta]) dX9_uncard_32
    · have kt3 : t3 < n := ok.1 _ _ _ _ h3
      refine lv_astore_n (lv' := [(2, .ref (ad 16 t3)), (0, .ref (ad 0 0)), (1, .int x1)]) hx hb dX9_uncard_22 rfl hl (by decide) rfl (fun ls hl => ?_)
      refine lv_aload_n hx hb dX9_uncard_23 rfl (lv_at hl 0 rfl) ?_
      refine lv_ifnonnull (tgt := 33) hx hb dX9_uncard_24 (by decide) ?_
      refine lv_aload_n hx hb dX9_uncard_33 rfl (lv_at hl 0 rfl) ?_
      refine lv_iconst (v := 0) hx hb dX9_uncard_34 (by decide) ?_
      refine q_putT E G kt3 1 (by decide) rfl rfl rfl rfl tb_145 (Or.inl rfl) (ty := .boolean) (by decide +kernel) rfl rfl dX9_uncard_35 (fun H locs G => ?_)
      refine lv_aload_n hx hb dX9_uncard_38 rfl (lv_at hl 1 rfl) ?_
      refine lv_iconst (v := 1) hx hb dX9_uncard_39 (by decide) ?_
      refine q_cV (rest := []) E G 0 0 c0 sg_0 (C := RX9) (T := TX9) (N := 10) rfl (k_X9_done l D cy sz ad n (uI S 16 t3 1 0) 1) tb_192 tb_194 tp_1 tb_1 tb_195 (nn := 1) (by decide +kernel) ⟨Nat.le_of_ble_eq_true rfl, Nat.le_of_ble_eq_true rfl⟩ rfl hl.1 rfl (Nat.le_of_ble_eq_true rfl) dX9_uncard_40 ⟨Nat.zero_le _, Nat.zero_le _⟩ (fun H locs G => ?_)
      exact q_iret E G (by unfold f_X9_uncard; simp only [if_pos h1, h3, pr_eta]) dX9_uncard_43
  · refine q_cSp E G [] (k_X9_isWithin_f l D cy sz ad n S x1 10 h1) tb_117 tb_118 tb_1 tb_119 (nn := 2) (by decide +kernel) ⟨Nat.le_of_ble_eq_true rfl, Nat.le_of_ble_eq_true rfl⟩ rfl hl.1 rfl (Nat.le_of_ble_eq_true rfl) dX9_uncard_3 ⟨Nat.zero_le _, Nat.zero_le _⟩ (fun H locs G => ?_)
    refine lv_if_ne (tgt := 16) hx hb dX9_uncard_6 (by decide) (fun h => absurd h (by decide)) (fun _ => ?_)
    refine lv_aload_n hx hb dX9_uncard_9 rfl (lv_at hl 0 rfl) ?_
    refine lv_bipush (v := (-2)) hx hb dX9_uncard_10 (by decide) ?_
    refine q_cV (rest := []) E G 0 0 c0 sg_0 (C := RX9) (T := TX9) (N := 10) rfl (k_X9_refuse l D cy sz ad n S (-2)) tb_120 tb_122 tp_0 tb_1 tb_123 (nn := 1) (by decide +kernel) ⟨Nat.le_of_ble_eq_true rfl, Nat.le_of_ble_eq_true rfl⟩ rfl hl.1 rfl (Nat.le_of_ble_eq_true rfl) dX9_uncard_12 ⟨Nat.zero_le _, Nat.zero_le _⟩ (fun H locs G => ?_)
    exact q_iret E G (by unfold f_X9_uncard; simp only [if_neg h1, pr_eta]) dX9_uncard_15

def f_X9_rename (S : SS) (x1 : Int32) (x2 : Int32) : Int32 × SS := if wi x1 10 = true then (match S.2 1 0 x1.toNatClampNeg with | none => (f_X9_fail S 1) | some t3 => if (S.1 16 t3 1) = 0 then (f_X9_fail S 1) else (f_X9_done (uI S 16 t3 2 x2) 1)) else (f_X9_refuse S (-2))
set_option maxHeartbeats 4000000 in
set_option maxRecDepth 100000 in
theorem k_X9_rename (l : Launch) (D : va_G) (cy : Nat → ClassId) (sz : Nat) (ad : Nat → Nat → Nat) (n : Nat) (S : SS) (ok : okC n S) (x1 : Int32) (x2 : Int32) : CI l yX9_rename cX9_rename 4 (some .int) 2 42 [.ref (ad 0 0), .int x1, .int x2] D cy sz ad n S (f_X9_rename S x1 x2) := by
  refine Met.enter (by decide) (Nat.le_of_ble_eq_true rfl) (fun p e s m args below meth c ls E G hl => ?_)
  have E : En p s m args meth c cX9_rename 4 (some .int) RX9 D cy sz := E
  obtain ⟨hx, hb, hrt, hml, hown, hw, hlk, hK, hF, hsz⟩ := id E
  have hl : lv_has ls 4 [(0, .ref (ad 0 0)), (1, .int x1), (2, .int x2)] := hl
  refine lv_iload_n hx hb dX9_rename_0 rfl (lv_at hl 1 rfl) ?_
  refine lv_bipush (v := 10) hx hb dX9_rename_1 (by decide) ?_
  by_cases h1 : wi x1 10 = true
  · have v2 : vp_in x1 10 := wi_in h1 (by decide) (by decide)
    refine q_cSp E G [] (k_X9_isWithin_t l D cy sz ad n S x1 10 h1) tb_117 tb_118 tb_1 tb_119 (nn := 2) (by decide +kernel) ⟨Nat.le_of_ble_eq_true rfl, Nat.le_of_ble_eq_true rfl⟩ rfl hl.1 rfl (Nat.le_of_ble_eq_true rfl) dX9_rename_3 ⟨Nat.zero_le _, Nat.zero_le _⟩ (fun H locs G => ?_)
    refine lv_if_ne (tgt := 16) hx hb dX9_rename_6 (by decide) (fun _ => ?_) (fun h => absurd h (by decide))
    refine lv_aload_n hx hb dX9_rename_16 rfl (lv_at hl 0 rfl) ?_
    refine q_get (index := 11) (ref := "ToolRoom") E G inX9 0 0 c0 sg_0 rfl 0 (by decide) tb_82 (Or.inl rfl) rfl dX9_rename_17 ?_
    refine lv_iload_n hx hb dX9_rename_20 rfl (lv_at hl 1 rfl) ?_
    refine q_aaldT E G 1 0 c1 sa_1 v2 dX9_rename_21 (fun h3 => ?_) (fun t3 h3 => ?_)
    · refine lv_astore_nN (lv' := [(3, .null), (0, .ref (ad 0 0)), (1, .int x1), (2, .int x2)]) hx hb dX9_rename_22 rfl hl (by decide) rfl (fun ls hl => ?_)
      refine lv_aload_nN hx hb dX9_rename_23 rfl (lv_at hl 0 rfl) ?_
      refine lv_ifnullN (tgt := 34) hx hb dX9_rename_24 (by decide) ?_
      refine lv_aload_n hx hb dX9_rename_34 rfl (lv_at hl 1 rfl) ?_
      refine lv_iconst (v := 1) hx hb dX9_rename_35 (by decide) ?_
      refine q_cV (rest := []) E G 0 0 c0 sg_0 (C := RX9) (T := TX9) (N := 10) rfl (k_X9_fail l D cy sz ad n S 1 (by unfold vp_in; decide)) tb_227 tb_229 tp_2 tb_1 tb_230 (nn := 1) (by decide +kernel) ⟨Nat.le_of_ble_eq_true rfl, Nat.le_of_ble_eq_true rfl⟩ rfl hl.1 rfl (Nat.le_of_ble_eq_true rfl) dX9_rename_36 ⟨Nat.zero_le _, Nat.zero_le _⟩ (fun H locs G => ?_)
      exact q_iret E G (by unfold f_X9_rename; simp only [if_pos h1, h3, pr_eta]) dX9_rename_39
    · have kt3 : t3 < n := ok.1 _ _ _ _ h3
      refine lv_astore_n (lv' := [(3, .ref (ad 16 t3)), (0, .ref (ad 0 0)), (1, .int x1), (2, .int x2)]) hx hb dX9_rename_22 rfl hl (by decide) rfl (fun ls hl => ?_)
      refine lv_aload_n hx hb dX9_rename_23 rfl (lv_at hl 0 rfl) ?_
      refine lv_ifnull hx hb dX9_rename_24 ?_
      refine lv_aload_n hx hb dX9_rename_27 rfl (lv_at hl 0 rfl) ?_
      refine q_getT E G kt3 1 (by decide) rfl rfl rfl rfl tb_145 (Or.inl rfl) dX9_rename_28 ?_
      refine lv_if_ne (tgt := 40) hx hb dX9_rename_31 (by decide) (fun h4 => ?_) (fun h4 => ?_)
      · refine lv_aload_n hx hb dX9_rename_40 rfl (lv_at hl 0 rfl) ?_
        refine lv_iload_n hx hb dX9_rename_41 rfl (lv_at hl 3 rfl) ?_
        refine q_putT E G kt3 2 (by decide) rfl rfl rfl rfl tb_147 (Or.inl rfl) (ty := .int) (by decide +kernel) rfl rfl dX9_rename_42 (fun H locs G => ?_)
        refine lv_aload_n hx hb dX9_rename_45 rfl (lv_at hl 1 rfl) ?_
        refine lv_iconst (v := 1) hx hb dX9_rename_46 (by decide) ?_
        refine q_cV (rest := []) E G 0 0 c0 sg_0 (C := RX9) (T := TX9) (N := 10) rfl (k_X9_done l D cy sz ad n (uI S 16 t3 2 x2) 1) tb_192 tb_194 tp_1 tb_1 tb_195 (nn := 1) (by decide +kernel) ⟨Nat.le_of_ble_eq_true rfl, Nat.le_of_ble_eq_true rfl⟩ rfl hl.1 rfl (Nat.le_of_ble_eq_true rfl) dX9_rename_47 ⟨Nat.zero_le _, Nat.zero_le _⟩ (fun H locs G => ?_)
        exact q_iret E G (by unfold f_X9_rename; simp only [if_pos h1, h3, if_neg h4, pr_eta]) dX9_rename_50
      · refine lv_aload_n hx hb dX9_rename_34 rfl (lv_at hl 1 rfl) ?_
        refine lv_iconst (v := 1) hx hb dX9_rename_35 (by decide) ?_
        refine q_cV (rest := []) E G 0 0 c0 sg_0 (C := RX9) (T := TX9) (N := 10) rfl (k_X9_fail l D cy sz ad n S 1 (by unfold vp_in; decide)) tb_227 tb_229 tp_2 tb_1 tb_230 (nn := 1) (by decide +kernel) ⟨Nat.le_of_ble_eq_true rfl, Nat.le_of_ble_eq_true rfl⟩ rfl hl.1 rfl (Nat.le_of_ble_eq_true rfl) dX9_rename_36 ⟨Nat.zero_le _, Nat.zero_le _⟩ (fun H locs G => ?_)
        exact q_iret E G (by unfold f_X9_rename; simp only [if_pos h1, h3, if_pos h4, pr_eta]) dX9_rename_39
  · refine q_cSp E G [] (k_X9_isWithin_f l D cy sz ad n S x1 10 h1) tb_117 tb_118 tb_1 tb_119 (nn := 2) (by decide +kernel) ⟨Nat.le_of_ble_eq_true rfl, Nat.le_of_ble_eq_true rfl⟩ rfl hl.1 rfl (Nat.le_of_ble_eq_true rfl) dX9_rename_3 ⟨Nat.zero_le _, Nat.zero_le _⟩ (fun H locs G => ?_)
    refine lv_if_ne (tgt := 16) hx hb dX9_rename_6 (by decide) (fun h => absurd h (by decide)) (fun _ => ?_)
    refine lv_aload_n hx hb dX9_rename_9 rfl (lv_at hl 0 rfl) ?_
    refine lv_bipush (v := (-2)) hx hb dX9_rename_10 (by decide) ?_
    refine q_cV (rest := []) E G 0 0 c0 sg_0 (C := RX9) (T := TX9) (N := 10) rfl (k_X9_refuse l D cy sz ad n S (-2)) tb_120 tb_122 tp_0 tb_1 tb_123 (nn := 1) (by decide +kernel) ⟨Nat.le_of_ble_eq_true rfl, Nat.le_of_ble_eq_true rfl⟩ rfl hl.1 rfl (Nat.le_of_ble_eq_true rfl) dX9_rename_12 ⟨Nat.zero_le _, Nat.zero_le _⟩ (fun H locs G => ?_)
    exact q_iret E G (by unfold f_X9_rename; simp only [if_neg h1, pr_eta]) dX9_rename_15

def f_X9_of (S : SS) (x1 : Int32) (x2 : Int32) : Int32 × SS := if wi x1 10 = true then (if wi x2 4 = true then (match S.2 1 0 x1.toNatClampNeg with | none => (f_X9_failWithZero S 1) | some t5 => if x2 = 0 then (if (S.1 16 t5 1) = 0 then (f_X9_failWithZero S 1) else (f_X9_done S (S.1 16 t5 2))) else (if x2 = 1 then (f_X9_done S (S.1 16 t5 0)) else (if x2 = 2 then (f_X9_done S (vW S t5)) else (f_X9_edgeOf S t5)))) else (f_X9_refuseWithZero S (-3))) else (f_X9_refuseWithZero S (-2))
set_option maxHeartbeats 4000000 in
set_option maxRecDepth 100000 in
theorem k_X9_of (l : Launch) (D : va_G) (cy : Nat → ClassId) (sz : Nat) (ad : Nat → Nat → Nat) (n : Nat) (S : SS) (ok : okC n S) (x1 : Int32) (x2 : Int32) : CI l yX9_of cX9_of 4 (some .int) 4 85 [.ref (ad 0 0), .int x1, .int x2] D cy sz ad n S (f_X9_of S x1 x2) := by
  refine Met.enter (by decide) (Nat.le_of_ble_eq_true rfl) (fun p e s m args below meth c ls E G hl => ?_)
  have E : En p s m args meth c cX9_of 4 (some .int) RX9 D cy sz := E
  obtain ⟨hx, hb, hrt, hml, hown, hw, hlk, hK, hF, hsz⟩ := id E
  have hl : lv_has ls 4 [(0, .ref (ad 0 0)), (1, .int x1), (2, .int x2)] := hl
  refine lv_iload_n hx hb dX9_of_0 rfl (lv_at hl 1 rfl) ?_
  refine lv_bipush (v := 10) hx hb dX9_of_1 (by decide) ?_
  by_cases h1 : wi x1 10 = true
  · have v2 : vp_in x1 10 := wi_in h1 (by decide) (by decide)
    refine q_cSp E G [] (k_X9_isWithin_t l D cy sz ad n S x1 10 h1) tb_117 tb_118 tb_1 tb_119 (nn := 2) (by decide +kernel) ⟨Nat.le_of_ble_eq_true rfl, Nat.le_of_ble_eq_true rfl⟩ rfl hl.1 rfl (Nat.le_of_ble_eq_true rfl) dX9_of_3 ⟨Nat.zero_le _, Nat.zero_le _⟩ (fun H locs G => ?_)
    refine lv_if_ne (tgt := 16) hx hb dX9_of_6 (by decide) (fun _ => ?_) (fun h => absurd h (by decide))
    refine lv_iload_n hx hb dX9_of_16 rfl (lv_at hl 2 rfl) ?_
    refine lv_iconst (v := 4) hx hb dX9_of_17 (by decide) ?_
    by_cases h3 : wi x2 4 = true
    · have v4 : vp_in x2 4 := wi_in h3 (by decide) (by decide)
      refine q_cSp E G [] (k_X9_isWithin_t l D cy sz ad n S x2 4 h3) tb_117 tb_118 tb_1 tb_119 (nn := 2) (by decide +kernel) ⟨Nat.le_of_ble_eq_true rfl, Nat.le_of_ble_eq_true rfl⟩ rfl hl.1 rfl (Nat.le_of_ble_eq_true rfl) dX9_of_18 ⟨Nat.zero_le _, Nat.zero_le _⟩ (fun H locs G => ?_)
      refine lv_if_ne (tgt := 31) hx hb dX9_of_21 (by decide) (fun _ => ?_) (fun h => absurd h (by decide))
      refine lv_aload_n hx hb dX9_of_31 rfl (lv_at hl 0 rfl) ?_
      refine q_get (index := 11) (ref := "ToolRoom") E G inX9 0 0 c0 sg_0 rfl 0 (by decide) tb_82 (Or.inl rfl) rfl dX9_of_32 ?_
      refine lv_iload_n hx hb dX9_of_35 rfl (lv_at hl 1 rfl) ?_
      refine q_aaldT E G 1 0 c1 sa_1 v2 dX9_of_36 (fun h5 => ?_) (fun t5 h5 => ?_)
      · refine lv_astore_nN (lv' := [(3, .null), (0, .ref (ad 0 0)), (1, .int x1), (2, .int x2)]) hx hb dX9_of_37 rfl hl (by decide) rfl (fun ls hl => ?_)
        refine lv_aload_nN hx hb dX9_of_38 rfl (lv_at hl 0 rfl) ?_
        refine lv_ifnonnullN hx hb dX9_of_39 ?_
        refine lv_aload_n hx hb dX9_of_42 rfl (lv_at hl 1 rfl) ?_
        refine lv_iconst (v := 1) hx hb dX9_of_43 (by decide) ?_
        refine q_cV (rest := []) E G 0 0 c0 sg_0 (C := RX9) (T := TX9) (N := 10) rfl (k_X9_failWithZero l D cy sz ad n S 1 (by unfold vp_in; decide)) tb_247 tb_249 tp_4 tb_1 tb_250 (nn := 1) (by decide +kernel) ⟨Nat.le_of_ble_eq_true rfl, Nat.le_of_ble_eq_true rfl⟩ rfl hl.1 rfl (Nat.le_of_ble_eq_true rfl) dX9_of_44 ⟨Nat.zero_le _, Nat.zero_le _⟩ (fun H locs G => ?_)
        exact q_iret E G (by unfold f_X9_of; simp only [if_pos h1, if_pos h3, h5, pr_eta]) dX9_of_47
      · have kt5 : t5 < n := ok.1 _ _ _ _ h5
        refine lv_astore_n (lv' := [(3, .ref (ad 16 t5)), (0, .ref (ad 0 0)), (1, .int x1), (2, .int x2)]) hx hb dX9_of_37 rfl hl (by decide) rfl (fun ls hl => ?_)
        refine lv_aload_n hx hb dX9_of_38 rfl (lv_at hl 0 rfl) ?_
        refine lv_ifnonnull (tgt := 48) hx hb dX9_of_39 (by decide) ?_
        refine lv_iload_n hx hb dX9_of_48 rfl (lv_at hl 3 rfl) ?_
        refine q_tab3 (t0 := 76) (t1 := 100) (t2 := 109) (t3 := 118) hx hb dX9_of_49 (by decide) (by decide) (by decide) (by decide) (fun h6 => ?_) (fun h6 h7 => ?_) (fun h6 h7 h8 => ?_) (fun h6 h7 h8 => ?_)
        · refine lv_aload_n hx hb dX9_of_76 rfl (lv_at hl 0 rfl) ?_
          refine q_getT E G kt5 1 (by decide) rfl rfl rfl rfl tb_145 (Or.inl rfl) dX9_of_77 ?_
          refine lv_if_eq (tgt := 94) hx hb dX9_of_80 (by decide) (fun h9 => ?_) (fun h9 => ?_)
          · refine lv_aload_n hx hb dX9_of_94 rfl (lv_at hl 1 rfl) ?_
            refine lv_iconst (v := 1) hx hb dX9_of_95 (by decide) ?_
            refine q_cV (rest := []) E G 0 0 c0 sg_0 (C := RX9) (T := TX9) (N := 10) rfl (k_X9_failWithZero l D cy sz ad n S 1 (by unfold vp_in; decide)) tb_247 tb_249 tp_4 tb_1 tb_250 (nn := 1) (by decide +kernel) ⟨Nat.le_of_ble_eq_true rfl, Nat.le_of_ble_eq_true rfl⟩ rfl hl.1 rfl (Nat.le_of_ble_eq_true rfl) dX9_of_96 ⟨Nat.zero_le _, Nat.zero_le _⟩ (fun H locs G => ?_)
            exact q_iret E G (by unfold f_X9_of; simp only [if_pos h1, if_pos h3, h5, if_pos h6, if_pos h9, pr_eta]) dX9_of_99
          · refine lv_aload_n hx hb dX9_of_83 rfl (lv_at hl 1 rfl) ?_
            refine lv_aload_n hx hb dX9_of_84 rfl (lv_at hl 0 rfl) ?_
            refine q_getT E G kt5 2 (by decide) rfl rfl rfl rfl tb_147 (Or.inl rfl) dX9_of_85 ?_
            refine q_cV (rest := []) E G 0 0 c0 sg_0 (C := RX9) (T := TX9) (N := 10) rfl (k_X9_done l D cy sz ad n S (S.1 16 t5 2)) tb_192 tb_194 tp_1 tb_1 tb_195 (nn := 1) (by decide +kernel) ⟨Nat.le_of_ble_eq_true rfl, Nat.le_of_ble_eq_true rfl⟩ rfl hl.1 rfl (Nat.le_of_ble_eq_true rfl) dX9_of_88 ⟨Nat.zero_le _, Nat.zero_le _⟩ (fun H locs G => ?_)
            refine lv_goto (tgt := 99) hx hb dX9_of_91 (by decide) ?_
            exact q_iret E G (by unfold f_X9_of; simp only [if_pos h1, if_pos h3, h5, if_pos h6, if_neg h9, pr_eta]) dX9_of_99
        · refine lv_aload_n hx hb dX9_of_100 rfl (lv_at hl 1 rfl) ?_
          refine lv_aload_n hx hb dX9_of_101 rfl (lv_at hl 0 rfl) ?_
          refine q_getT E G kt5 0 (by decide) rfl rfl rfl rfl tb_143 (Or.inl rfl) dX9_of_102 ?_
          refine q_cV (rest := []) E G 0 0 c0 sg_0 (C := RX9) (T := TX9) (N := 10) rfl (k_X9_done l D cy sz ad n S (S.1 16 t5 0)) tb_192 tb_194 tp_1 tb_1 tb_195 (nn := 1) (by decide +kernel) ⟨Nat.le_of_ble_eq_true rfl, Nat.le_of_ble_eq_true rfl⟩ rfl hl.1 rfl (Nat.le_of_ble_eq_true rfl) dX9_of_105 ⟨Nat.zero_le _, Nat.zero_le _⟩ (fun H locs G => ?_)
          exact q_iret E G (by unfold f_X9_of; simp only [if_pos h1, if_pos h3, h5, if_neg h6, if_pos h7, pr_eta]) dX9_of_108
        · refine lv_aload_n hx hb dX9_of_109 rfl (lv_at hl 1 rfl) ?_
          refine lv_aload_n hx hb dX9_of_110 rfl (lv_at hl 0 rfl) ?_
          refine q_t_weight E G kt5 [.ref (ad 0 0)] ⟨Nat.le_of_ble_eq_true rfl, Nat.le_of_ble_eq_true rfl⟩ hl.1 rfl (Nat.le_of_ble_eq_true rfl) dX9_of_111 ⟨Nat.zero_le _, Nat.zero_le _⟩ (fun H locs G => ?_)
          refine q_cV (rest := []) E G 0 0 c0 sg_0 (C := RX9) (T := TX9) (N := 10) rfl (k_X9_done l D cy sz ad n S (vW S t5)) tb_192 tb_194 tp_1 tb_1 tb_195 (nn := 1) (by decide +kernel) ⟨Nat.le_of_ble_eq_true rfl, Nat.le_of_ble_eq_true rfl⟩ rfl hl.1 rfl (Nat.le_of_ble_eq_true rfl) dX9_of_114 ⟨Nat.zero_le _, Nat.zero_le _⟩ (fun H locs G => ?_)
          exact q_iret E G (by unfold f_X9_of; simp only [if_pos h1, if_pos h3, h5, if_neg h6, if_neg h7, if_pos h8, pr_eta]) dX9_of_117
        · refine lv_aload_n hx hb dX9_of_118 rfl (lv_at hl 1 rfl) ?_
          refine lv_aload_n hx hb dX9_of_119 rfl (lv_at hl 0 rfl) ?_
          refine q_cV (rest := []) E G 0 0 c0 sg_0 (C := RX9) (T := TX9) (N := 10) rfl (k_X9_edgeOf l D cy sz ad n S t5 kt5) tb_266 tb_268 tp_5 tb_1 tb_269 (nn := 1) (by decide +kernel) ⟨Nat.le_of_ble_eq_true rfl, Nat.le_of_ble_eq_true rfl⟩ rfl hl.1 rfl (Nat.le_of_ble_eq_true rfl) dX9_of_120 ⟨Nat.zero_le _, Nat.zero_le _⟩ (fun H locs G => ?_)
          exact q_iret E G (by unfold f_X9_of; simp only [if_pos h1, if_pos h3, h5, if_neg h6, if_neg h7, if_neg h8, pr_eta]) dX9_of_123
    · refine q_cSp E G [] (k_X9_isWithin_f l D cy sz ad n S x2 4 h3) tb_117 tb_118 tb_1 tb_119 (nn := 2) (by decide +kernel) ⟨Nat.le_of_ble_eq_true rfl, Nat.le_of_ble_eq_true rfl⟩ rfl hl.1 rfl (Nat.le_of_ble_eq_true rfl) dX9_of_18 ⟨Nat.zero_le _, Nat.zero_le _⟩ (fun H locs G => ?_)
      refine lv_if_ne (tgt := 31) hx hb dX9_of_21 (by decide) (fun h => absurd h (by decide)) (fun _ => ?_)
      refine lv_aload_n hx hb dX9_of_24 rfl (lv_at hl 0 rfl) ?_
      refine lv_bipush (v := (-3)) hx hb dX9_of_25 (by decide) ?_
      refine q_cV (rest := []) E G 0 0 c0 sg_0 (C := RX9) (T := TX9) (N := 10) rfl (k_X9_refuseWithZero l D cy sz ad n S (-3)) tb_243 tb_245 tp_3 tb_1 tb_246 (nn := 1) (by decide +kernel) ⟨Nat.le_of_ble_eq_true rfl, Nat.le_of_ble_eq_true rfl⟩ rfl hl.1 rfl (Nat.le_of_ble_eq_true rfl) dX9_of_27 ⟨Nat.zero_le _, Nat.zero_le _⟩ (fun H locs G => ?_)
      exact q_iret E G (by unfold f_X9_of; simp only [if_pos h1, if_neg h3, pr_eta]) dX9_of_30
  · refine q_cSp E G [] (k_X9_isWithin_f l D cy sz ad n S x1 10 h1) tb_117 tb_118 tb_1 tb_119 (nn := 2) (by decide +kernel) ⟨Nat.le_of_ble_eq_true rfl, Nat.le_of_ble_eq_true rfl⟩ rfl hl.1 rfl (Nat.le_of_ble_eq_true rfl) dX9_of_3 ⟨Nat.zero_le _, Nat.zero_le _⟩ (fun H locs G => ?_)
    refine lv_if_ne (tgt := 16) hx hb dX9_of_6 (by decide) (fun h => absurd h (by decide)) (fun _ => ?_)
    refine lv_aload_n hx hb dX9_of_9 rfl (lv_at hl 0 rfl) ?_
    refine lv_bipush (v := (-2)) hx hb dX9_of_10 (by decide) ?_
    refine q_cV (rest := []) E G 0 0 c0 sg_0 (C := RX9) (T := TX9) (N := 10) rfl (k_X9_refuseWithZero l D cy sz ad n S (-2)) tb_243 tb_245 tp_3 tb_1 tb_246 (nn := 1) (by decide +kernel) ⟨Nat.le_of_ble_eq_true rfl, Nat.le_of_ble_eq_true rfl⟩ rfl hl.1 rfl (Nat.le_of_ble_eq_true rfl) dX9_of_12 ⟨Nat.zero_le _, Nat.zero_le _⟩ (fun H locs G => ?_)
    exact q_iret E G (by unfold f_X9_of; simp only [if_neg h1, pr_eta]) dX9_of_15

def f_X9_hone (S : SS) (x1 : Int32) (x2 : Int32) : Int32 × SS := if wi x1 10 = true then (match S.2 1 0 x1.toNatClampNeg with | none => (f_X9_fail S 1) | some t3 => if (S.1 16 t3 4 = 1 ∨ S.1 16 t3 4 = 2) then (f_X9_done (uI S 16 t3 3 x2) 1) else (f_X9_fail S 4)) else (f_X9_refuse S (-2))
set_option maxHeartbeats 4000000 in
set_option maxRecDepth 100000 in
theorem k_X9_hone (l : Launch) (D : va_G) (cy : Nat → ClassId) (sz : Nat) (ad : Nat → Nat → Nat) (n : Nat) (S : SS) (ok : okC n S) (x1 : Int32) (x2 : Int32) : CI l yX9_hone cX9_hone 5 (some .int) 2 42 [.ref (ad 0 0), .int x1, .int x2] D cy sz ad n S (f_X9_hone S x1 x2) := by
  refine Met.enter (by decide) (Nat.le_of_ble_eq_true rfl) (fun p e s m args below meth c ls E G hl => ?_)
  have E : En p s m args meth c cX9_hone 5 (some .int) RX9 D cy sz := E
  obtain ⟨hx, hb, hrt, hml, hown, hw, hlk, hK, hF, hsz⟩ := id E
  have hl : lv_has ls 5 [(0, .ref (ad 0 0)), (1, .int x1), (2, .int x2)] := hl
  refine lv_iload_n hx hb dX9_hone_0 rfl (lv_at hl 1 rfl) ?_
  refine lv_bipush (v := 10) hx hb dX9_hone_1 (by decide) ?_
  by_cases h1 : wi x1 10 = true
  · have v2 : vp_in x1 10 := wi_in h1 (by decide) (by decide)
    refine q_cSp E G [] (k_X9_isWithin_t l D cy sz ad n S x1 10 h1) tb_117 tb_118 tb_1 tb_119 (nn := 2) (by decide +kernel) ⟨Nat.le_of_ble_eq_true rfl, Nat.le_of_ble_eq_true rfl⟩ rfl hl.1 rfl (Nat.le_of_ble_eq_true rfl) dX9_hone_3 ⟨Nat.zero_le _, Nat.zero_le _⟩ (fun H locs G => ?_)
    refine lv_if_ne (tgt := 16) hx hb dX9_hone_6 (by decide) (fun _ => ?_) (fun h => absurd h (by decide))
    refine lv_aload_n hx hb dX9_hone_16 rfl (lv_at hl 0 rfl) ?_
    refine q_get (index := 11) (ref := "ToolRoom") E G inX9 0 0 c0 sg_0 rfl 0 (by decide) tb_82 (Or.inl rfl) rfl dX9_hone_17 ?_
    refine lv_iload_n hx hb dX9_hone_20 rfl (lv_at hl 1 rfl) ?_
    refine q_aaldT E G 1 0 c1 sa_1 v2 dX9_hone_21 (fun h3 => ?_) (fun t3 h3 => ?_)
    · refine lv_astore_nN (lv' := [(3, .null), (0, .ref (ad 0 0)), (1, .int x1), (2, .int x2)]) hx hb dX9_hone_22 rfl hl (by decide) rfl (fun ls hl => ?_)
      refine lv_aload_nN hx hb dX9_hone_23 rfl (lv_at hl 0 rfl) ?_
      refine lv_ifnonnullN hx hb dX9_hone_24 ?_
      refine lv_aload_n hx hb dX9_hone_27 rfl (lv_at hl 1 rfl) ?_
      refine lv_iconst (v := 1) hx hb dX9_hone_28 (by decide) ?_
      refine q_cV (rest := []) E G 0 0 c0 sg_0 (C := RX9) (T := TX9) (N := 10) rfl (k_X9_fail l D cy sz ad n S 1 (by unfold vp_in; decide)) tb_227 tb_229 tp_2 tb_1 tb_230 (nn := 1) (by decide +kernel) ⟨Nat.le_of_ble_eq_true rfl, Nat.le_of_ble_eq_true rfl⟩ rfl hl.1 rfl (Nat.le_of_ble_eq_true rfl) dX9_hone_29 ⟨Nat.zero_le _, Nat.zero_le _⟩ (fun H locs G => ?_)
      exact q_iret E G (by unfold f_X9_hone; simp only [if_pos h1, h3, pr_eta]) dX9_hone_32
    · have kt3 : t3 < n := ok.1 _ _ _ _ h3
      refine lv_astore_n (lv' := [(3, .ref (ad 16 t3)), (0, .ref (ad 0 0)), (1, .int x1), (2, .int x2)]) hx hb dX9_hone_22 rfl hl (by decide) rfl (fun ls hl => ?_)
      refine lv_aload_n hx hb dX9_hone_23 rfl (lv_at hl 0 rfl) ?_
      refine lv_ifnonnull (tgt := 33) hx hb dX9_hone_24 (by decide) ?_
      refine lv_aload_n hx hb dX9_hone_33 rfl (lv_at hl 0 rfl) ?_
      refine q_instB E G kt3 tb_155 dX9_hone_34 (fun h4 => ?_) (fun h4 => ?_)
      · refine lv_if_eq (tgt := 58) hx hb dX9_hone_37 (by decide) (fun h => absurd h (by decide)) (fun _ => ?_)
        refine lv_aload_n hx hb dX9_hone_40 rfl (lv_at hl 0 rfl) ?_
        refine q_castB E G kt3 h4 tb_155 dX9_hone_41 ?_
        refine lv_astore (lv' := [(4, .ref (ad 16 t3)), (3, .ref (ad 16 t3)), (0, .ref (ad 0 0)), (1, .int x1), (2, .int x2)]) hx hb dX9_hone_44 hl (by decide) rfl (fun ls hl => ?_)
        refine lv_aload hx hb dX9_hone_46 (lv_at hl 0 rfl) ?_
        refine lv_iload_n hx hb dX9_hone_48 rfl (lv_at hl 4 rfl) ?_
        refine q_putE E G kt3 h4 tb_164 (Or.inl rfl) dX9_hone_49 (fun H locs G => ?_)
        refine lv_aload_n hx hb dX9_hone_52 rfl (lv_at hl 2 rfl) ?_
        refine lv_iconst (v := 1) hx hb dX9_hone_53 (by decide) ?_
        refine q_cV (rest := []) E G 0 0 c0 sg_0 (C := RX9) (T := TX9) (N := 10) rfl (k_X9_done l D cy sz ad n (uI S 16 t3 3 x2) 1) tb_192 tb_194 tp_1 tb_1 tb_195 (nn := 1) (by decide +kernel) ⟨Nat.le_of_ble_eq_true rfl, Nat.le_of_ble_eq_true rfl⟩ rfl hl.1 rfl (Nat.le_of_ble_eq_true rfl) dX9_hone_54 ⟨Nat.zero_le _, Nat.zero_le _⟩ (fun H locs G => ?_)
        exact q_iret E G (by unfold f_X9_hone; simp only [if_pos h1, h3, if_pos h4, pr_eta]) dX9_hone_57
      · refine lv_if_eq (tgt := 58) hx hb dX9_hone_37 (by decide) (fun _ => ?_) (fun h => absurd h (by decide))
        refine lv_aload_n hx hb dX9_hone_58 rfl (lv_at hl 1 rfl) ?_
        refine lv_iconst (v := 4) hx hb dX9_hone_59 (by decide) ?_
        refine q_cV (rest := []) E G 0 0 c0 sg_0 (C := RX9) (T := TX9) (N := 10) rfl (k_X9_fail l D cy sz ad n S 4 (by unfold vp_in; decide)) tb_227 tb_229 tp_2 tb_1 tb_230 (nn := 1) (by decide +kernel) ⟨Nat.le_of_ble_eq_true rfl, Nat.le_of_ble_eq_true rfl⟩ rfl hl.1 rfl (Nat.le_of_ble_eq_true rfl) dX9_hone_60 ⟨Nat.zero_le _, Nat.zero_le _⟩ (fun H locs G => ?_)
        exact q_iret E G (by unfold f_X9_hone; simp only [if_pos h1, h3, if_neg h4, pr_eta]) dX9_hone_63
  · refine q_cSp E G [] (k_X9_isWithin_f l D cy sz ad n S x1 10 h1) tb_117 tb_118 tb_1 tb_119 (nn := 2) (by decide +kernel) ⟨Nat.le_of_ble_eq_true rfl, Nat.le_of_ble_eq_true rfl⟩ rfl hl.1 rfl (Nat.le_of_ble_eq_true rfl) dX9_hone_3 ⟨Nat.zero_le _, Nat.zero_le _⟩ (fun H locs G => ?_)
    refine lv_if_ne (tgt := 16) hx hb dX9_hone_6 (by decide) (fun h => absurd h (by decide)) (fun _ => ?_)
    refine lv_aload_n hx hb dX9_hone_9 rfl (lv_at hl 0 rfl) ?_
    refine lv_bipush (v := (-2)) hx hb dX9_hone_10 (by decide) ?_
    refine q_cV (rest := []) E G 0 0 c0 sg_0 (C := RX9) (T := TX9) (N := 10) rfl (k_X9_refuse l D cy sz ad n S (-2)) tb_120 tb_122 tp_0 tb_1 tb_123 (nn := 1) (by decide +kernel) ⟨Nat.le_of_ble_eq_true rfl, Nat.le_of_ble_eq_true rfl⟩ rfl hl.1 rfl (Nat.le_of_ble_eq_true rfl) dX9_hone_12 ⟨Nat.zero_le _, Nat.zero_le _⟩ (fun H locs G => ?_)
    exact q_iret E G (by unfold f_X9_hone; simp only [if_neg h1, pr_eta]) dX9_hone_15

def f_X9_use (S : SS) (x1 : Int32) (x2 : Int32) : Int32 × SS := if wi x1 10 = true then (match S.2 1 0 x1.toNatClampNeg with | none => (f_X9_failWithZero S 1) | some t3 => (f_X9_done ((f_work (uI S 0 0 8 ((S.1 0 0 8) + 1)) t3 x2).2) ((f_work (uI S 0 0 8 ((S.1 0 0 8) + 1)) t3 x2).1))) else (f_X9_refuseWithZero S (-2))
set_option maxHeartbeats 4000000 in
set_option maxRecDepth 100000 in
theorem k_X9_use (l : Launch) (D : va_G) (cy : Nat → ClassId) (sz : Nat) (ad : Nat → Nat → Nat) (n : Nat) (S : SS) (ok : okC n S) (x1 : Int32) (x2 : Int32) : CI l yX9_use cX9_use 4 (some .int) 3 63 [.ref (ad 0 0), .int x1, .int x2] D cy sz ad n S (f_X9_use S x1 x2) := by
  refine Met.enter (by decide) (Nat.le_of_ble_eq_true rfl) (fun p e s m args below meth c ls E G hl => ?_)
  have E : En p s m args meth c cX9_use 4 (some .int) RX9 D cy sz := E
  obtain ⟨hx, hb, hrt, hml, hown, hw, hlk, hK, hF, hsz⟩ := id E
  have hl : lv_has ls 4 [(0, .ref (ad 0 0)), (1, .int x1), (2, .int x2)] := hl
  refine lv_iload_n hx hb dX9_use_0 rfl (lv_at hl 1 rfl) ?_
  refine lv_bipush (v := 10) hx hb dX9_use_1 (by decide) ?_
  by_cases h1 : wi x1 10 = true
  · have v2 : vp_in x1 10 := wi_in h1 (by decide) (by decide)
    refine q_cSp E G [] (k_X9_isWithin_t l D cy sz ad n S x1 10 h1) tb_117 tb_118 tb_1 tb_119 (nn := 2) (by decide +kernel) ⟨Nat.le_of_ble_eq_true rfl, Nat.le_of_ble_eq_true rfl⟩ rfl hl.1 rfl (Nat.le_of_ble_eq_true rfl) dX9_use_3 ⟨Nat.zero_le _, Nat.zero_le _⟩ (fun H locs G => ?_)
    refine lv_if_ne (tgt := 16) hx hb dX9_use_6 (by decide) (fun _ => ?_) (fun h => absurd h (by decide))
    refine lv_aload_n hx hb dX9_use_16 rfl (lv_at hl 0 rfl) ?_
    refine q_get (index := 11) (ref := "ToolRoom") E G inX9 0 0 c0 sg_0 rfl 0 (by decide) tb_82 (Or.inl rfl) rfl dX9_use_17 ?_
    refine lv_iload_n hx hb dX9_use_20 rfl (lv_at hl 1 rfl) ?_
    refine q_aaldT E G 1 0 c1 sa_1 v2 dX9_use_21 (fun h3 => ?_) (fun t3 h3 => ?_)
    · refine lv_astore_nN (lv' := [(3, .null), (0, .ref (ad 0 0)), (1, .int x1), (2, .int x2)]) hx hb dX9_use_22 rfl hl (by decide) rfl (fun ls hl => ?_)
      refine lv_aload_nN hx hb dX9_use_23 rfl (lv_at hl 0 rfl) ?_
      refine lv_ifnonnullN hx hb dX9_use_24 ?_
      refine lv_aload_n hx hb dX9_use_27 rfl (lv_at hl 1 rfl) ?_
      refine lv_iconst (v := 1) hx hb dX9_use_28 (by decide) ?_
      refine q_cV (rest := []) E G 0 0 c0 sg_0 (C := RX9) (T := TX9) (N := 10) rfl (k_X9_failWithZero l D cy sz ad n S 1 (by unfold vp_in; decide)) tb_247 tb_249 tp_4 tb_1 tb_250 (nn := 1) (by decide +kernel) ⟨Nat.le_of_ble_eq_true rfl, Nat.le_of_ble_eq_true rfl⟩ rfl hl.1 rfl (Nat.le_of_ble_eq_true rfl) dX9_use_29 ⟨Nat.zero_le _, Nat.zero_le _⟩ (fun H locs G => ?_)
      exact q_iret E G (by unfold f_X9_use; simp only [if_pos h1, h3, pr_eta]) dX9_use_32
    · have kt3 : t3 < n := ok.1 _ _ _ _ h3
      refine lv_astore_n (lv' := [(3, .ref (ad 16 t3)), (0, .ref (ad 0 0)), (1, .int x1), (2, .int x2)]) hx hb dX9_use_22 rfl hl (by decide) rfl (fun ls hl => ?_)
      refine lv_aload_n hx hb dX9_use_23 rfl (lv_at hl 0 rfl) ?_
      refine lv_ifnonnull (tgt := 33) hx hb dX9_use_24 (by decide) ?_
      refine lv_aload_n hx hb dX9_use_33 rfl (lv_at hl 1 rfl) ?_
      refine lv_dup hx hb dX9_use_34 rfl ?_
      refine q_get (index := 48) (ref := "ToolRoom") E G inX9 0 0 c0 sg_0 rfl 8 (by decide) tb_90 (Or.inl rfl) rfl dX9_use_35 ?_
      refine lv_iconst (v := 1) hx hb dX9_use_38 (by decide) ?_
      refine lv_iadd hx hb dX9_use_39 ?_
      refine q_put (index := 48) (ref := "ToolRoom") E G inX9 tyX9 tyX9_ok nmX9 0 0 c0 8 sg_0 rfl 8 (by decide) tb_90 (Or.inl rfl) rfl (ty := .int) (by decide +kernel) rfl rfl (Nat.le_of_ble_eq_true rfl) sp_0_8 dX9_use_40 (fun H locs G => ?_)
      refine lv_aload_n hx hb dX9_use_43 rfl (lv_at hl 1 rfl) ?_
      refine lv_aload_n hx hb dX9_use_44 rfl (lv_at hl 0 rfl) ?_
      refine lv_iload_n hx hb dX9_use_45 rfl (lv_at hl 3 rfl) ?_
      refine q_t_work E G kt3 [.ref (ad 0 0)] ⟨Nat.le_of_ble_eq_true rfl, Nat.le_of_ble_eq_true rfl⟩ hl.1 rfl (Nat.le_of_ble_eq_true rfl) dX9_use_46 ⟨Nat.zero_le _, Nat.zero_le _⟩ (fun H locs G => ?_)
      refine q_cV (rest := []) E G 0 0 c0 sg_0 (C := RX9) (T := TX9) (N := 10) rfl (k_X9_done l D cy sz ad n ((f_work (uI S 0 0 8 ((S.1 0 0 8) + 1)) t3 x2).2) ((f_work (uI S 0 0 8 ((S.1 0 0 8) + 1)) t3 x2).1)) tb_192 tb_194 tp_1 tb_1 tb_195 (nn := 1) (by decide +kernel) ⟨Nat.le_of_ble_eq_true rfl, Nat.le_of_ble_eq_true rfl⟩ rfl hl.1 rfl (Nat.le_of_ble_eq_true rfl) dX9_use_49 ⟨Nat.zero_le _, Nat.zero_le _⟩ (fun H locs G => ?_)
      exact q_iret E G (by unfold f_X9_use; simp only [if_pos h1, h3, pr_eta]) dX9_use_52
  · refine q_cSp E G [] (k_X9_isWithin_f l D cy sz ad n S x1 10 h1) tb_117 tb_118 tb_1 tb_119 (nn := 2) (by decide +kernel) ⟨Nat.le_of_ble_eq_true rfl, Nat.le_of_ble_eq_true rfl⟩ rfl hl.1 rfl (Nat.le_of_ble_eq_true rfl) dX9_use_3 ⟨Nat.zero_le _, Nat.zero_le _⟩ (fun H locs G => ?_)
    refine lv_if_ne (tgt := 16) hx hb dX9_use_6 (by decide) (fun h => absurd h (by decide)) (fun _ => ?_)
    refine lv_aload_n hx hb dX9_use_9 rfl (lv_at hl 0 rfl) ?_
    refine lv_bipush (v := (-2)) hx hb dX9_use_10 (by decide) ?_
    refine q_cV (rest := []) E G 0 0 c0 sg_0 (C := RX9) (T := TX9) (N := 10) rfl (k_X9_refuseWithZero l D cy sz ad n S (-2)) tb_243 tb_245 tp_3 tb_1 tb_246 (nn := 1) (by decide +kernel) ⟨Nat.le_of_ble_eq_true rfl, Nat.le_of_ble_eq_true rfl⟩ rfl hl.1 rfl (Nat.le_of_ble_eq_true rfl) dX9_use_12 ⟨Nat.zero_le _, Nat.zero_le _⟩ (fun H locs G => ?_)
    exact q_iret E G (by unfold f_X9_use; simp only [if_neg h1, pr_eta]) dX9_use_15

def f_X9_tray (S : SS) (x1 : Int32) (x2 : Int32) : Int32 × SS := if wi x1 4 = true then (if x2 ≤ 20 then (if 0 ≤ x2 then (f_X9_done (f_row8 S x1.toNatClampNeg x2) x2) else (f_X9_fail S 3)) else (f_X9_refuse S (-3))) else (f_X9_refuse S (-2))
set_option maxHeartbeats 4000000 in
set_option maxRecDepth 100000 in
theorem k_X9_tray (l : Launch) (D : va_G) (cy : Nat → ClassId) (sz : Nat) (ad : Nat → Nat → Nat) (n : Nat) (S : SS) (ok : okC n S) (x1 : Int32) (x2 : Int32) : CI l yX9_tray cX9_tray 3 (some .int) 2 42 [.ref (ad 0 0), .int x1, .int x2] D cy sz ad n S (f_X9_tray S x1 x2) := by
  refine Met.enter (by decide) (Nat.le_of_ble_eq_true rfl) (fun p e s m args below meth c ls E G hl => ?_)
  have E : En p s m args meth c cX9_tray 3 (some .int) RX9 D cy sz := E
  obtain ⟨hx, hb, hrt, hml, hown, hw, hlk, hK, hF, hsz⟩ := id E
  have hl : lv_has ls 3 [(0, .ref (ad 0 0)), (1, .int x1), (2, .int x2)] := hl
  refine lv_iload_n hx hb dX9_tray_0 rfl (lv_at hl 1 rfl) ?_
  refine lv_iconst (v := 4) hx hb dX9_tray_1 (by decide) ?_
  by_cases h1 : wi x1 4 = true
  · have v2 : vp_in x1 4 := wi_in h1 (by decide) (by decide)
    refine q_cSp E G [] (k_X9_isWithin_t l D cy sz ad n S x1 4 h1) tb_117 tb_118 tb_1 tb_119 (nn := 2) (by decide +kernel) ⟨Nat.le_of_ble_eq_true rfl, Nat.le_of_ble_eq_true rfl⟩ rfl hl.1 rfl (Nat.le_of_ble_eq_true rfl) dX9_tray_2 ⟨Nat.zero_le _, Nat.zero_le _⟩ (fun H locs G => ?_)
    refine lv_if_ne (tgt := 15) hx hb dX9_tray_5 (by decide) (fun _ => ?_) (fun h => absurd h (by decide))
    refine lv_iload_n hx hb dX9_tray_15 rfl (lv_at hl 2 rfl) ?_
    refine lv_bipush (v := 20) hx hb dX9_tray_16 (by decide) ?_
    refine lv_icmp_le (tgt := 28) hx hb dX9_tray_18 (by decide) (fun h3 => ?_) (fun h3 => ?_)
    · refine lv_iload_n hx hb dX9_tray_28 rfl (lv_at hl 2 rfl) ?_
      refine lv_if_ge (tgt := 38) hx hb dX9_tray_29 (by decide) (fun h4 => ?_) (fun h4 => ?_)
      · refine lv_aload_n hx hb dX9_tray_38 rfl (lv_at hl 0 rfl) ?_
        refine q_get (index := 17) (ref := "ToolRoom") E G inX9 0 0 c0 sg_0 rfl 1 (by decide) tb_83 (Or.inl rfl) rfl dX9_tray_39 ?_
        refine lv_iload_n hx hb dX9_tray_42 rfl (lv_at hl 1 rfl) ?_
        refine q_aald (C := "ToolRoom$Row") E G 2 0 c2 sa_2 3 rfl v2 dX9_tray_43 ?_
        refine lv_iload_n hx hb dX9_tray_44 rfl (lv_at hl 2 rfl) ?_
        refine q_cVv (rest := []) E G 8 x1.toNatClampNeg (c8 (vp_lt v2)) sg_8 (C := RX7) (T := TX7) (N := 2) rfl (k_X7_renew_8 l D cy sz ad n S x1.toNatClampNeg (vp_lt v2) x2) tb_316 tb_317 tb_318 tb_3 tb_319 (nn := 1) (by decide +kernel) ⟨Nat.le_of_ble_eq_true rfl, Nat.le_of_ble_eq_true rfl⟩ rfl hl.1 rfl (Nat.le_of_ble_eq_true rfl) dX9_tray_45 ⟨Nat.zero_le _, Nat.zero_le _⟩ (fun H locs G => ?_)
        refine lv_aload_n hx hb dX9_tray_48 rfl (lv_at hl 0 rfl) ?_
        refine lv_iload_n hx hb dX9_tray_49 rfl (lv_at hl 2 rfl) ?_
        refine q_cV (rest := []) E G 0 0 c0 sg_0 (C := RX9) (T := TX9) (N := 10) rfl (k_X9_done l D cy sz ad n (f_row8 S x1.toNatClampNeg x2) x2) tb_192 tb_194 tp_1 tb_1 tb_195 (nn := 1) (by decide +kernel) ⟨Nat.le_of_ble_eq_true rfl, Nat.le_of_ble_eq_true rfl⟩ rfl hl.1 rfl (Nat.le_of_ble_eq_true rfl) dX9_tray_50 ⟨Nat.zero_le _, Nat.zero_le _⟩ (fun H locs G => ?_)
        exact q_iret E G (by unfold f_X9_tray; simp only [if_pos h1, if_pos h3, if_pos h4, pr_eta]) dX9_tray_53
      · refine lv_aload_n hx hb dX9_tray_32 rfl (lv_at hl 0 rfl) ?_
        refine lv_iconst (v := 3) hx hb dX9_tray_33 (by decide) ?_
        refine q_cV (rest := []) E G 0 0 c0 sg_0 (C := RX9) (T := TX9) (N := 10) rfl (k_X9_fail l D cy sz ad n S 3 (by unfold vp_in; decide)) tb_227 tb_229 tp_2 tb_1 tb_230 (nn := 1) (by decide +kernel) ⟨Nat.le_of_ble_eq_true rfl, Nat.le_of_ble_eq_true rfl⟩ rfl hl.1 rfl (Nat.le_of_ble_eq_true rfl) dX9_tray_34 ⟨Nat.zero_le _, Nat.zero_le _⟩ (fun H locs G => ?_)
        exact q_iret E G (by unfold f_X9_tray; simp only [if_pos h1, if_pos h3, if_neg h4, pr_eta]) dX9_tray_37
    · refine lv_aload_n hx hb dX9_tray_21 rfl (lv_at hl 0 rfl) ?_
      refine lv_bipush (v := (-3)) hx hb dX9_tray_22 (by decide) ?_
      refine q_cV (rest := []) E G 0 0 c0 sg_0 (C := RX9) (T := TX9) (N := 10) rfl (k_X9_refuse l D cy sz ad n S (-3)) tb_120 tb_122 tp_0 tb_1 tb_123 (nn := 1) (by decide +kernel) ⟨Nat.le_of_ble_eq_true rfl, Nat.le_of_ble_eq_true rfl⟩ rfl hl.1 rfl (Nat.le_of_ble_eq_true rfl) dX9_tray_24 ⟨Nat.zero_le _, Nat.zero_le _⟩ (fun H locs G => ?_)
      exact q_iret E G (by unfold f_X9_tray; simp only [if_pos h1, if_neg h3, pr_eta]) dX9_tray_27
  · refine q_cSp E G [] (k_X9_isWithin_f l D cy sz ad n S x1 4 h1) tb_117 tb_118 tb_1 tb_119 (nn := 2) (by decide +kernel) ⟨Nat.le_of_ble_eq_true rfl, Nat.le_of_ble_eq_true rfl⟩ rfl hl.1 rfl (Nat.le_of_ble_eq_true rfl) dX9_tray_2 ⟨Nat.zero_le _, Nat.zero_le _⟩ (fun H locs G => ?_)
    refine lv_if_ne (tgt := 15) hx hb dX9_tray_5 (by decide) (fun h => absurd h (by decide)) (fun _ => ?_)
    refine lv_aload_n hx hb dX9_tray_8 rfl (lv_at hl 0 rfl) ?_
    refine lv_bipush (v := (-2)) hx hb dX9_tray_9 (by decide) ?_
    refine q_cV (rest := []) E G 0 0 c0 sg_0 (C := RX9) (T := TX9) (N := 10) rfl (k_X9_refuse l D cy sz ad n S (-2)) tb_120 tb_122 tp_0 tb_1 tb_123 (nn := 1) (by decide +kernel) ⟨Nat.le_of_ble_eq_true rfl, Nat.le_of_ble_eq_true rfl⟩ rfl hl.1 rfl (Nat.le_of_ble_eq_true rfl) dX9_tray_11 ⟨Nat.zero_le _, Nat.zero_le _⟩ (fun H locs G => ?_)
    exact q_iret E G (by unfold f_X9_tray; simp only [if_neg h1, pr_eta]) dX9_tray_14

def f_X9_lose (S : SS) (x1 : Int32) (x2 : Int32) : Int32 × SS := if wi x1 3 = true then (match hon x1 x2 with | none => (f_X9_refuse S (-2)) | some x => if (f_X5_vanish S x.1 x.2).1 = 0 then (f_X9_done ((f_X5_vanish S x.1 x.2).2) 0) else (f_X9_done ((f_X5_vanish S x.1 x.2).2) 1)) else (f_X9_refuse S (-3))
set_option maxHeartbeats 4000000 in
set_option maxRecDepth 100000 in
theorem k_X9_lose (l : Launch) (D : va_G) (cy : Nat → ClassId) (sz : Nat) (ad : Nat → Nat → Nat) (n : Nat) (S : SS) (ok : okC n S) (x1 : Int32) (x2 : Int32) : CI l yX9_lose cX9_lose 4 (some .int) 2 43 [.ref (ad 0 0), .int x1, .int x2] D cy sz ad n S (f_X9_lose S x1 x2) := by
  refine Met.enter (by decide) (Nat.le_of_ble_eq_true rfl) (fun p e s m args below meth c ls E G hl => ?_)
  have E : En p s m args meth c cX9_lose 4 (some .int) RX9 D cy sz := E
  obtain ⟨hx, hb, hrt, hml, hown, hw, hlk, hK, hF, hsz⟩ := id E
  have hl : lv_has ls 4 [(0, .ref (ad 0 0)), (1, .int x1), (2, .int x2)] := hl
  refine lv_iload_n hx hb dX9_lose_0 rfl (lv_at hl 1 rfl) ?_
  refine lv_iconst (v := 3) hx hb dX9_lose_1 (by decide) ?_
  by_cases h1 : wi x1 3 = true
  · have v2 : vp_in x1 3 := wi_in h1 (by decide) (by decide)
    refine q_cSp E G [] (k_X9_isWithin_t l D cy sz ad n S x1 3 h1) tb_117 tb_118 tb_1 tb_119 (nn := 2) (by decide +kernel) ⟨Nat.le_of_ble_eq_true rfl, Nat.le_of_ble_eq_true rfl⟩ rfl hl.1 rfl (Nat.le_of_ble_eq_true rfl) dX9_lose_2 ⟨Nat.zero_le _, Nat.zero_le _⟩ (fun H locs G => ?_)
    refine lv_if_ne (tgt := 15) hx hb dX9_lose_5 (by decide) (fun _ => ?_) (fun h => absurd h (by decide))
    refine lv_aload_n hx hb dX9_lose_15 rfl (lv_at hl 0 rfl) ?_
    refine lv_iload_n hx hb dX9_lose_16 rfl (lv_at hl 1 rfl) ?_
    refine lv_iload_n hx hb dX9_lose_17 rfl (lv_at hl 2 rfl) ?_
    refine q_cVq (rest := []) E G 0 0 c0 rfl (C := RX9) (T := TX9) (N := 10) rfl (k_X9_holderOrNull l D cy sz ad n S x1 x2) tb_324 tb_326 tp_7 tb_1 tb_327 (nn := 2) (by decide +kernel) ⟨Nat.le_of_ble_eq_true rfl, Nat.le_of_ble_eq_true rfl⟩ rfl hl.1 rfl (Nat.le_of_ble_eq_true rfl) dX9_lose_18 ⟨Nat.zero_le _, Nat.zero_le _⟩ (fun h3 H locs G => ?_) (fun x h3 H locs G => ?_)
    · refine lv_astore_nN (lv' := [(3, .null), (0, .ref (ad 0 0)), (1, .int x1), (2, .int x2)]) hx hb dX9_lose_21 rfl hl (by decide) rfl (fun ls hl => ?_)
      refine lv_aload_nN hx hb dX9_lose_22 rfl (lv_at hl 0 rfl) ?_
      refine lv_ifnonnullN hx hb dX9_lose_23 ?_
      refine lv_aload_n hx hb dX9_lose_26 rfl (lv_at hl 1 rfl) ?_
      refine lv_bipush (v := (-2)) hx hb dX9_lose_27 (by decide) ?_
      refine q_cV (rest := []) E G 0 0 c0 sg_0 (C := RX9) (T := TX9) (N := 10) rfl (k_X9_refuse l D cy sz ad n S (-2)) tb_120 tb_122 tp_0 tb_1 tb_123 (nn := 1) (by decide +kernel) ⟨Nat.le_of_ble_eq_true rfl, Nat.le_of_ble_eq_true rfl⟩ rfl hl.1 rfl (Nat.le_of_ble_eq_true rfl) dX9_lose_29 ⟨Nat.zero_le _, Nat.zero_le _⟩ (fun H locs G => ?_)
      exact q_iret E G (by unfold f_X9_lose; simp only [if_pos h1, h3, pr_eta]) dX9_lose_32
    · obtain ⟨hfx, hix⟩ := hon_ok n h3
      refine lv_astore_n (lv' := [(3, .ref (ad x.1 x.2)), (0, .ref (ad 0 0)), (1, .int x1), (2, .int x2)]) hx hb dX9_lose_21 rfl hl (by decide) rfl (fun ls hl => ?_)
      refine lv_aload_n hx hb dX9_lose_22 rfl (lv_at hl 0 rfl) ?_
      refine lv_ifnonnull (tgt := 33) hx hb dX9_lose_23 (by decide) ?_
      refine lv_aload_n hx hb dX9_lose_33 rfl (lv_at hl 1 rfl) ?_
      refine lv_aload_n hx hb dX9_lose_34 rfl (lv_at hl 0 rfl) ?_
      refine q_cH (x := yX5_vanish) (rest := [.ref (ad 0 0)]) E G x.1 x.2 hfx hix (k_X5_vanish l D cy sz ad n S x.1 x.2 hfx hix) tb_328 tb_330 tb_331 tb_332 tb_333 tb_329 tb_2 tb_334 rfl (nn := 0) (by decide +kernel) ⟨Nat.le_of_ble_eq_true rfl, Nat.le_of_ble_eq_true rfl⟩ rfl hl.1 rfl (Nat.le_of_ble_eq_true rfl) dX9_lose_35 ⟨Nat.zero_le _, Nat.zero_le _⟩ (fun H locs G => ?_)
      refine lv_if_eq (tgt := 45) hx hb dX9_lose_38 (by decide) (fun h4 => ?_) (fun h4 => ?_)
      · refine lv_iconst (v := 0) hx hb dX9_lose_45 (by decide) ?_
        refine q_cV (rest := []) E G 0 0 c0 sg_0 (C := RX9) (T := TX9) (N := 10) rfl (k_X9_done l D cy sz ad n ((f_X5_vanish S x.1 x.2).2) 0) tb_192 tb_194 tp_1 tb_1 tb_195 (nn := 1) (by decide +kernel) ⟨Nat.le_of_ble_eq_true rfl, Nat.le_of_ble_eq_true rfl⟩ rfl hl.1 rfl (Nat.le_of_ble_eq_true rfl) dX9_lose_46 ⟨Nat.zero_le _, Nat.zero_le _⟩ (fun H locs G => ?_)
        exact q_iret E G (by unfold f_X9_lose; simp only [if_pos h1, h3, if_pos h4, pr_eta]) dX9_lose_49
      · refine lv_iconst (v := 1) hx hb dX9_lose_41 (by decide) ?_
        refine lv_goto (tgt := 46) hx hb dX9_lose_42 (by decide) ?_
        refine q_cV (rest := []) E G 0 0 c0 sg_0 (C := RX9) (T := TX9) (N := 10) rfl (k_X9_done l D cy sz ad n ((f_X5_vanish S x.1 x.2).2) 1) tb_192 tb_194 tp_1 tb_1 tb_195 (nn := 1) (by decide +kernel) ⟨Nat.le_of_ble_eq_true rfl, Nat.le_of_ble_eq_true rfl⟩ rfl hl.1 rfl (Nat.le_of_ble_eq_true rfl) dX9_lose_46 ⟨Nat.zero_le _, Nat.zero_le _⟩ (fun H locs G => ?_)
        exact q_iret E G (by unfold f_X9_lose; simp only [if_pos h1, h3, if_neg h4, pr_eta]) dX9_lose_49
  · refine q_cSp E G [] (k_X9_isWithin_f l D cy sz ad n S x1 3 h1) tb_117 tb_118 tb_1 tb_119 (nn := 2) (by decide +kernel) ⟨Nat.le_of_ble_eq_true rfl, Nat.le_of_ble_eq_true rfl⟩ rfl hl.1 rfl (Nat.le_of_ble_eq_true rfl) dX9_lose_2 ⟨Nat.zero_le _, Nat.zero_le _⟩ (fun H locs G => ?_)
    refine lv_if_ne (tgt := 15) hx hb dX9_lose_5 (by decide) (fun h => absurd h (by decide)) (fun _ => ?_)
    refine lv_aload_n hx hb dX9_lose_8 rfl (lv_at hl 0 rfl) ?_
    refine lv_bipush (v := (-3)) hx hb dX9_lose_9 (by decide) ?_
    refine q_cV (rest := []) E G 0 0 c0 sg_0 (C := RX9) (T := TX9) (N := 10) rfl (k_X9_refuse l D cy sz ad n S (-3)) tb_120 tb_122 tp_0 tb_1 tb_123 (nn := 1) (by decide +kernel) ⟨Nat.le_of_ble_eq_true rfl, Nat.le_of_ble_eq_true rfl⟩ rfl hl.1 rfl (Nat.le_of_ble_eq_true rfl) dX9_lose_11 ⟨Nat.zero_le _, Nat.zero_le _⟩ (fun H locs G => ?_)
    exact q_iret E G (by unfold f_X9_lose; simp only [if_neg h1, pr_eta]) dX9_lose_14

def f_X9_put (S : SS) (x1 : Int32) (x2 : Int32) (x3 : Int32) : Int32 × SS := if wi x1 4 = true then (if (pA S 8 x1.toNatClampNeg x2) = 0 then (f_X9_done (uI S 9 x1.toNatClampNeg x2.toNatClampNeg x3) 1) else (f_X9_fail S (pA S 8 x1.toNatClampNeg x2))) else (f_X9_refuse S (-2))
set_option maxHeartbeats 4000000 in
set_option maxRecDepth 100000 in
theorem k_X9_put (l : Launch) (D : va_G) (cy : Nat → ClassId) (sz : Nat) (ad : Nat → Nat → Nat) (n : Nat) (S : SS) (ok : okC n S) (x1 : Int32) (x2 : Int32) (x3 : Int32) : CI l yX9_put cX9_put 6 (some .int) 2 42 [.ref (ad 0 0), .int x1, .int x2, .int x3] D cy sz ad n S (f_X9_put S x1 x2 x3) := by
  refine Met.enter (by decide) (Nat.le_of_ble_eq_true rfl) (fun p e s m args below meth c ls E G hl => ?_)
  have E : En p s m args meth c cX9_put 6 (some .int) RX9 D cy sz := E
  obtain ⟨hx, hb, hrt, hml, hown, hw, hlk, hK, hF, hsz⟩ := id E
  have hl : lv_has ls 6 [(0, .ref (ad 0 0)), (1, .int x1), (2, .int x2), (3, .int x3)] := hl
  refine lv_iload_n hx hb dX9_put_0 rfl (lv_at hl 1 rfl) ?_
  refine lv_iconst (v := 4) hx hb dX9_put_1 (by decide) ?_
  by_cases h1 : wi x1 4 = true
  · have v2 : vp_in x1 4 := wi_in h1 (by decide) (by decide)
    refine q_cSp E G [] (k_X9_isWithin_t l D cy sz ad n S x1 4 h1) tb_117 tb_118 tb_1 tb_119 (nn := 2) (by decide +kernel) ⟨Nat.le_of_ble_eq_true rfl, Nat.le_of_ble_eq_true rfl⟩ rfl hl.1 rfl (Nat.le_of_ble_eq_true rfl) dX9_put_2 ⟨Nat.zero_le _, Nat.zero_le _⟩ (fun H locs G => ?_)
    refine lv_if_ne (tgt := 15) hx hb dX9_put_5 (by decide) (fun _ => ?_) (fun h => absurd h (by decide))
    refine lv_aload_n hx hb dX9_put_15 rfl (lv_at hl 0 rfl) ?_
    refine q_get (index := 17) (ref := "ToolRoom") E G inX9 0 0 c0 sg_0 rfl 1 (by decide) tb_83 (Or.inl rfl) rfl dX9_put_16 ?_
    refine lv_iload_n hx hb dX9_put_19 rfl (lv_at hl 1 rfl) ?_
    refine q_aald (C := "ToolRoom$Row") E G 2 0 c2 sa_2 3 rfl v2 dX9_put_20 ?_
    refine lv_astore (lv' := [(4, .ref (ad 8 x1.toNatClampNeg)), (0, .ref (ad 0 0)), (1, .int x1), (2, .int x2), (3, .int x3)]) hx hb dX9_put_21 hl (by decide) rfl (fun ls hl => ?_)
    refine lv_aload hx hb dX9_put_23 (lv_at hl 0 rfl) ?_
    refine lv_iload_n hx hb dX9_put_25 rfl (lv_at hl 3 rfl) ?_
    refine q_cSp E G [] (k_X9_failureAt l D cy sz ad n S 8 x1.toNatClampNeg (Or.inl rfl) (c8 (vp_lt v2)) x2) tb_302 tb_303 tb_1 tb_304 (nn := 2) (by decide +kernel) ⟨Nat.le_of_ble_eq_true rfl, Nat.le_of_ble_eq_true rfl⟩ rfl hl.1 rfl (Nat.le_of_ble_eq_true rfl) dX9_put_26 ⟨Nat.zero_le _, Nat.zero_le _⟩ (fun H locs G => ?_)
    refine lv_istore (lv' := [(5, .int (pA S 8 x1.toNatClampNeg x2)), (4, .ref (ad 8 x1.toNatClampNeg)), (0, .ref (ad 0 0)), (1, .int x1), (2, .int x2), (3, .int x3)]) hx hb dX9_put_29 hl (by decide) rfl (fun ls hl => ?_)
    refine lv_iload hx hb dX9_put_31 (lv_at hl 0 rfl) ?_
    refine lv_if_eq (tgt := 43) hx hb dX9_put_33 (by decide) (fun h3 => ?_) (fun h3 => ?_)
    · have v4 : vp_in x2 20 := wi_le (pA_0 h3) (ok.2.1 _ (vp_lt v2)) (by decide)
      refine lv_aload hx hb dX9_put_43 (lv_at hl 1 rfl) ?_
      refine q_get (index := 120) (ref := "ToolRoom$Row") E G inX7 8 x1.toNatClampNeg (c8 (vp_lt v2)) sg_8 rfl 1 (by decide) tb_37 (Or.inl rfl) rfl dX9_put_45 ?_
      refine lv_iload_n hx hb dX9_put_48 rfl (lv_at hl 4 rfl) ?_
      refine lv_iload_n hx hb dX9_put_49 rfl (lv_at hl 5 rfl) ?_
      refine q_iast E G 9 x1.toNatClampNeg (c9 (vp_lt v2)) (fun _ => sa_9) v4 dX9_put_50 (fun H locs G => ?_)
      refine lv_aload_n hx hb dX9_put_51 rfl (lv_at hl 2 rfl) ?_
      refine lv_iconst (v := 1) hx hb dX9_put_52 (by decide) ?_
      refine q_cV (rest := []) E G 0 0 c0 sg_0 (C := RX9) (T := TX9) (N := 10) rfl (k_X9_done l D cy sz ad n (uI S 9 x1.toNatClampNeg x2.toNatClampNeg x3) 1) tb_192 tb_194 tp_1 tb_1 tb_195 (nn := 1) (by decide +kernel) ⟨Nat.le_of_ble_eq_true rfl, Nat.le_of_ble_eq_true rfl⟩ rfl hl.1 rfl (Nat.le_of_ble_eq_true rfl) dX9_put_53 ⟨Nat.zero_le _, Nat.zero_le _⟩ (fun H locs G => ?_)
      exact q_iret E G (by unfold f_X9_put; simp only [if_pos h1, if_pos h3, pr_eta]) dX9_put_56
    · refine lv_aload_n hx hb dX9_put_36 rfl (lv_at hl 2 rfl) ?_
      refine lv_iload hx hb dX9_put_37 (lv_at hl 0 rfl) ?_
      refine q_cV (rest := []) E G 0 0 c0 sg_0 (C := RX9) (T := TX9) (N := 10) rfl (k_X9_fail l D cy sz ad n S (pA S 8 x1.toNatClampNeg x2) pA_in) tb_227 tb_229 tp_2 tb_1 tb_230 (nn := 1) (by decide +kernel) ⟨Nat.le_of_ble_eq_true rfl, Nat.le_of_ble_eq_true rfl⟩ rfl hl.1 rfl (Nat.le_of_ble_eq_true rfl) dX9_put_39 ⟨Nat.zero_le _, Nat.zero_le _⟩ (fun H locs G => ?_)
      exact q_iret E G (by unfold f_X9_put; simp only [if_pos h1, if_neg h3, pr_eta]) dX9_put_42
  · refine q_cSp E G [] (k_X9_isWithin_f l D cy sz ad n S x1 4 h1) tb_117 tb_118 tb_1 tb_119 (nn := 2) (by decide +kernel) ⟨Nat.le_of_ble_eq_true rfl, Nat.le_of_ble_eq_true rfl⟩ rfl hl.1 rfl (Nat.le_of_ble_eq_true rfl) dX9_put_2 ⟨Nat.zero_le _, Nat.zero_le _⟩ (fun H locs G => ?_)
    refine lv_if_ne (tgt := 15) hx hb dX9_put_5 (by decide) (fun h => absurd h (by decide)) (fun _ => ?_)
    refine lv_aload_n hx hb dX9_put_8 rfl (lv_at hl 0 rfl) ?_
    refine lv_bipush (v := (-2)) hx hb dX9_put_9 (by decide) ?_
    refine q_cV (rest := []) E G 0 0 c0 sg_0 (C := RX9) (T := TX9) (N := 10) rfl (k_X9_refuse l D cy sz ad n S (-2)) tb_120 tb_122 tp_0 tb_1 tb_123 (nn := 1) (by decide +kernel) ⟨Nat.le_of_ble_eq_true rfl, Nat.le_of_ble_eq_true rfl⟩ rfl hl.1 rfl (Nat.le_of_ble_eq_true rfl) dX9_put_11 ⟨Nat.zero_le _, Nat.zero_le _⟩ (fun H locs G => ?_)
    exact q_iret E G (by unfold f_X9_put; simp only [if_neg h1, pr_eta]) dX9_put_14

def f_X9_get (S : SS) (x1 : Int32) (x2 : Int32) : Int32 × SS := if wi x1 4 = true then (if (pA S 8 x1.toNatClampNeg x2) = 0 then (f_X9_done S (S.1 9 x1.toNatClampNeg x2.toNatClampNeg)) else (f_X9_failWithZero S (pA S 8 x1.toNatClampNeg x2))) else (f_X9_refuseWithZero S (-2))
set_option maxHeartbeats 4000000 in
set_option maxRecDepth 100000 in
theorem k_X9_get (l : Launch) (D : va_G) (cy : Nat → ClassId) (sz : Nat) (ad : Nat → Nat → Nat) (n : Nat) (S : SS) (ok : okC n S) (x1 : Int32) (x2 : Int32) : CI l yX9_get cX9_get 5 (some .int) 3 63 [.ref (ad 0 0), .int x1, .int x2] D cy sz ad n S (f_X9_get S x1 x2) := by
  refine Met.enter (by decide) (Nat.le_of_ble_eq_true rfl) (fun p e s m args below meth c ls E G hl => ?_)
  have E : En p s m args meth c cX9_get 5 (some .int) RX9 D cy sz := E
  obtain ⟨hx, hb, hrt, hml, hown, hw, hlk, hK, hF, hsz⟩ := id E
  have hl : lv_has ls 5 [(0, .ref (ad 0 0)), (1, .int x1), (2, .int x2)] := hl
  refine lv_iload_n hx hb dX9_get_0 rfl (lv_at hl 1 rfl) ?_
  refine lv_iconst (v := 4) hx hb dX9_get_1 (by decide) ?_
  by_cases h1 : wi x1 4 = true
  · have v2 : vp_in x1 4 := wi_in h1 (by decide) (by decide)
    refine q_cSp E G [] (k_X9_isWithin_t l D cy sz ad n S x1 4 h1) tb_117 tb_118 tb_1 tb_119 (nn := 2) (by decide +kernel) ⟨Nat.le_of_ble_eq_true rfl, Nat.le_of_ble_eq_true rfl⟩ rfl hl.1 rfl (Nat.le_of_ble_eq_true rfl) dX9_get_2 ⟨Nat.zero_le _, Nat.zero_le _⟩ (fun H locs G => ?_)
    refine lv_if_ne (tgt := 15) hx hb dX9_get_5 (by decide) (fun _ => ?_) (fun h => absurd h (by decide))
    refine lv_aload_n hx hb dX9_get_15 rfl (lv_at hl 0 rfl) ?_
    refine q_get (index := 17) (ref := "ToolRoom") E G inX9 0 0 c0 sg_0 rfl 1 (by decide) tb_83 (Or.inl rfl) rfl dX9_get_16 ?_
    refine lv_iload_n hx hb dX9_get_19 rfl (lv_at hl 1 rfl) ?_
    refine q_aald (C := "ToolRoom$Row") E G 2 0 c2 sa_2 3 rfl v2 dX9_get_20 ?_
    refine lv_astore_n (lv' := [(3, .ref (ad 8 x1.toNatClampNeg)), (0, .ref (ad 0 0)), (1, .int x1), (2, .int x2)]) hx hb dX9_get_21 rfl hl (by decide) rfl (fun ls hl => ?_)
    refine lv_aload_n hx hb dX9_get_22 rfl (lv_at hl 0 rfl) ?_
    refine lv_iload_n hx hb dX9_get_23 rfl (lv_at hl 3 rfl) ?_
    refine q_cSp E G [] (k_X9_failureAt l D cy sz ad n S 8 x1.toNatClampNeg (Or.inl rfl) (c8 (vp_lt v2)) x2) tb_302 tb_303 tb_1 tb_304 (nn := 2) (by decide +kernel) ⟨Nat.le_of_ble_eq_true rfl, Nat.le_of_ble_eq_true rfl⟩ rfl hl.1 rfl (Nat.le_of_ble_eq_true rfl) dX9_get_24 ⟨Nat.zero_le _, Nat.zero_le _⟩ (fun H locs G => ?_)
    refine lv_istore (lv' := [(4, .int (pA S 8 x1.toNatClampNeg x2)), (3, .ref (ad 8 x1.toNatClampNeg)), (0, .ref (ad 0 0)), (1, .int x1), (2, .int x2)]) hx hb dX9_get_27 hl (by decide) rfl (fun ls hl => ?_)
    refine lv_iload hx hb dX9_get_29 (lv_at hl 0 rfl) ?_
    refine lv_if_eq (tgt := 41) hx hb dX9_get_31 (by decide) (fun h3 => ?_) (fun h3 => ?_)
    · have v4 : vp_in x2 20 := wi_le (pA_0 h3) (ok.2.1 _ (vp_lt v2)) (by decide)
      refine lv_aload_n hx hb dX9_get_41 rfl (lv_at hl 2 rfl) ?_
      refine lv_aload_n hx hb dX9_get_42 rfl (lv_at hl 1 rfl) ?_
      refine q_get (index := 120) (ref := "ToolRoom$Row") E G inX7 8 x1.toNatClampNeg (c8 (vp_lt v2)) sg_8 rfl 1 (by decide) tb_37 (Or.inl rfl) rfl dX9_get_43 ?_
      refine lv_iload_n hx hb dX9_get_46 rfl (lv_at hl 4 rfl) ?_
      refine q_iald E G 9 x1.toNatClampNeg (c9 (vp_lt v2)) sa_9 v4 dX9_get_47 ?_
      refine q_cV (rest := []) E G 0 0 c0 sg_0 (C := RX9) (T := TX9) (N := 10) rfl (k_X9_done l D cy sz ad n S (S.1 9 x1.toNatClampNeg x2.toNatClampNeg)) tb_192 tb_194 tp_1 tb_1 tb_195 (nn := 1) (by decide +kernel) ⟨Nat.le_of_ble_eq_true rfl, Nat.le_of_ble_eq_true rfl⟩ rfl hl.1 rfl (Nat.le_of_ble_eq_true rfl) dX9_get_48 ⟨Nat.zero_le _, Nat.zero_le _⟩ (fun H locs G => ?_)
      exact q_iret E G (by unfold f_X9_get; simp only [if_pos h1, if_pos h3, pr_eta]) dX9_get_51
    · refine lv_aload_n hx hb dX9_get_34 rfl (lv_at hl 2 rfl) ?_
      refine lv_iload hx hb dX9_get_35 (lv_at hl 0 rfl) ?_
      refine q_cV (rest := []) E G 0 0 c0 sg_0 (C := RX9) (T := TX9) (N := 10) rfl (k_X9_failWithZero l D cy sz ad n S (pA S 8 x1.toNatClampNeg x2) pA_in) tb_247 tb_249 tp_4 tb_1 tb_250 (nn := 1) (by decide +kernel) ⟨Nat.le_of_ble_eq_true rfl, Nat.le_of_ble_eq_true rfl⟩ rfl hl.1 rfl (Nat.le_of_ble_eq_true rfl) dX9_get_37 ⟨Nat.zero_le _, Nat.zero_le _⟩ (fun H locs G => ?_)
      exact q_iret E G (by unfold f_X9_get; simp only [if_pos h1, if_neg h3, pr_eta]) dX9_get_40
  · refine q_cSp E G [] (k_X9_isWithin_f l D cy sz ad n S x1 4 h1) tb_117 tb_118 tb_1 tb_119 (nn := 2) (by decide +kernel) ⟨Nat.le_of_ble_eq_true rfl, Nat.le_of_ble_eq_true rfl⟩ rfl hl.1 rfl (Nat.le_of_ble_eq_true rfl) dX9_get_2 ⟨Nat.zero_le _, Nat.zero_le _⟩ (fun H locs G => ?_)
    refine lv_if_ne (tgt := 15) hx hb dX9_get_5 (by decide) (fun h => absurd h (by decide)) (fun _ => ?_)
    refine lv_aload_n hx hb dX9_get_8 rfl (lv_at hl 0 rfl) ?_
    refine lv_bipush (v := (-2)) hx hb dX9_get_9 (by decide) ?_
    refine q_cV (rest := []) E G 0 0 c0 sg_0 (C := RX9) (T := TX9) (N := 10) rfl (k_X9_refuseWithZero l D cy sz ad n S (-2)) tb_243 tb_245 tp_3 tb_1 tb_246 (nn := 1) (by decide +kernel) ⟨Nat.le_of_ble_eq_true rfl, Nat.le_of_ble_eq_true rfl⟩ rfl hl.1 rfl (Nat.le_of_ble_eq_true rfl) dX9_get_11 ⟨Nat.zero_le _, Nat.zero_le _⟩ (fun H locs G => ?_)
    exact q_iret E G (by unfold f_X9_get; simp only [if_neg h1, pr_eta]) dX9_get_14

def f_X9_length (S : SS) (x1 : Int32) (x2 : Int32) : Int32 × SS := if wi x1 3 = true then (match hon x1 x2 with | none => (f_X9_refuse S (-2)) | some x => if S.1 x.1 x.2 0 = -1 then (f_X9_fail S 1) else (f_X9_done S (S.1 x.1 x.2 0))) else (f_X9_refuse S (-3))
set_option maxHeartbeats 4000000 in
set_option maxRecDepth 100000 in
theorem k_X9_length (l : Launch) (D : va_G) (cy : Nat → ClassId) (sz : Nat) (ad : Nat → Nat → Nat) (n : Nat) (S : SS) (ok : okC n S) (x1 : Int32) (x2 : Int32) : CI l yX9_length cX9_length 4 (some .int) 2 43 [.ref (ad 0 0), .int x1, .int x2] D cy sz ad n S (f_X9_length S x1 x2) := by
  refine Met.enter (by decide) (Nat.le_of_ble_eq_true rfl) (fun p e s m args below meth c ls E G hl => ?_)
  have E : En p s m args meth c cX9_length 4 (some .int) RX9 D cy sz := E
  obtain ⟨hx, hb, hrt, hml, hown, hw, hlk, hK, hF, hsz⟩ := id E
  have hl : lv_has ls 4 [(0, .ref (ad 0 0)), (1, .int x1), (2, .int x2)] := hl
  refine lv_iload_n hx hb dX9_length_0 rfl (lv_at hl 1 rfl) ?_
  refine lv_iconst (v := 3) hx hb dX9_length_1 (by decide) ?_
  by_cases h1 : wi x1 3 = true
  · have v2 : vp_in x1 3 := wi_in h1 (by decide) (by decide)
    refine q_cSp E G [] (k_X9_isWithin_t l D cy sz ad n S x1 3 h1) tb_117 tb_118 tb_1 tb_119 (nn := 2) (by decide +kernel) ⟨Nat.le_of_ble_eq_true rfl, Nat.le_of_ble_eq_true rfl⟩ rfl hl.1 rfl (Nat.le_of_ble_eq_true rfl) dX9_length_2 ⟨Nat.zero_le _, Nat.zero_le _⟩ (fun H locs G => ?_)
    refine lv_if_ne (tgt := 15) hx hb dX9_length_5 (by decide) (fun _ => ?_) (fun h => absurd h (by decide))
    refine lv_aload_n hx hb dX9_length_15 rfl (lv_at hl 0 rfl) ?_
    refine lv_iload_n hx hb dX9_length_16 rfl (lv_at hl 1 rfl) ?_
    refine lv_iload_n hx hb dX9_length_17 rfl (lv_at hl 2 rfl) ?_
    refine q_cVq (rest := []) E G 0 0 c0 rfl (C := RX9) (T := TX9) (N := 10) rfl (k_X9_holderOrNull l D cy sz ad n S x1 x2) tb_324 tb_326 tp_7 tb_1 tb_327 (nn := 2) (by decide +kernel) ⟨Nat.le_of_ble_eq_true rfl, Nat.le_of_ble_eq_true rfl⟩ rfl hl.1 rfl (Nat.le_of_ble_eq_true rfl) dX9_length_18 ⟨Nat.zero_le _, Nat.zero_le _⟩ (fun h3 H locs G => ?_) (fun x h3 H locs G => ?_)
    · refine lv_astore_nN (lv' := [(3, .null), (0, .ref (ad 0 0)), (1, .int x1), (2, .int x2)]) hx hb dX9_length_21 rfl hl (by decide) rfl (fun ls hl => ?_)
      refine lv_aload_nN hx hb dX9_length_22 rfl (lv_at hl 0 rfl) ?_
      refine lv_ifnonnullN hx hb dX9_length_23 ?_
      refine lv_aload_n hx hb dX9_length_26 rfl (lv_at hl 1 rfl) ?_
      refine lv_bipush (v := (-2)) hx hb dX9_length_27 (by decide) ?_
      refine q_cV (rest := []) E G 0 0 c0 sg_0 (C := RX9) (T := TX9) (N := 10) rfl (k_X9_refuse l D cy sz ad n S (-2)) tb_120 tb_122 tp_0 tb_1 tb_123 (nn := 1) (by decide +kernel) ⟨Nat.le_of_ble_eq_true rfl, Nat.le_of_ble_eq_true rfl⟩ rfl hl.1 rfl (Nat.le_of_ble_eq_true rfl) dX9_length_29 ⟨Nat.zero_le _, Nat.zero_le _⟩ (fun H locs G => ?_)
      exact q_iret E G (by unfold f_X9_length; simp only [if_pos h1, h3, pr_eta]) dX9_length_32
    · obtain ⟨hfx, hix⟩ := hon_ok n h3
      refine lv_astore_n (lv' := [(3, .ref (ad x.1 x.2)), (0, .ref (ad 0 0)), (1, .int x1), (2, .int x2)]) hx hb dX9_length_21 rfl hl (by decide) rfl (fun ls hl => ?_)
      refine lv_aload_n hx hb dX9_length_22 rfl (lv_at hl 0 rfl) ?_
      refine lv_ifnonnull (tgt := 33) hx hb dX9_length_23 (by decide) ?_
      refine lv_aload_n hx hb dX9_length_33 rfl (lv_at hl 0 rfl) ?_
      by_cases h4 : S.1 x.1 x.2 0 = -1
      · refine q_cHp E G x.1 x.2 hfx hix [] (k_X5_isMissing_t l D cy sz ad n S x.1 x.2 hfx hix h4) tb_305 tb_307 tb_308 tb_309 tb_310 tb_306 tb_2 tb_311 rfl (nn := 0) (by decide +kernel) ⟨Nat.le_of_ble_eq_true rfl, Nat.le_of_ble_eq_true rfl⟩ rfl hl.1 rfl (Nat.le_of_ble_eq_true rfl) dX9_length_34 ⟨Nat.zero_le _, Nat.zero_le _⟩ (fun H locs G => ?_)
        refine lv_if_eq (tgt := 48) hx hb dX9_length_37 (by decide) (fun h => absurd h (by decide)) (fun _ => ?_)
        refine lv_aload_n hx hb dX9_length_40 rfl (lv_at hl 1 rfl) ?_
        refine lv_iconst (v := 1) hx hb dX9_length_41 (by decide) ?_
        refine q_cV (rest := []) E G 0 0 c0 sg_0 (C := RX9) (T := TX9) (N := 10) rfl (k_X9_fail l D cy sz ad n S 1 (by unfold vp_in; decide)) tb_227 tb_229 tp_2 tb_1 tb_230 (nn := 1) (by decide +kernel) ⟨Nat.le_of_ble_eq_true rfl, Nat.le_of_ble_eq_true rfl⟩ rfl hl.1 rfl (Nat.le_of_ble_eq_true rfl) dX9_length_42 ⟨Nat.zero_le _, Nat.zero_le _⟩ (fun H locs G => ?_)
        refine lv_goto (tgt := 56) hx hb dX9_length_45 (by decide) ?_
        exact q_iret E G (by unfold f_X9_length; simp only [if_pos h1, h3, if_pos h4, pr_eta]) dX9_length_56
      · refine q_cHp E G x.1 x.2 hfx hix [] (k_X5_isMissing_f l D cy sz ad n S x.1 x.2 hfx hix h4) tb_305 tb_307 tb_308 tb_309 tb_310 tb_306 tb_2 tb_311 rfl (nn := 0) (by decide +kernel) ⟨Nat.le_of_ble_eq_true rfl, Nat.le_of_ble_eq_true rfl⟩ rfl hl.1 rfl (Nat.le_of_ble_eq_true rfl) dX9_length_34 ⟨Nat.zero_le _, Nat.zero_le _⟩ (fun H locs G => ?_)
        refine lv_if_eq (tgt := 48) hx hb dX9_length_37 (by decide) (fun _ => ?_) (fun h => absurd h (by decide))
        refine lv_aload_n hx hb dX9_length_48 rfl (lv_at hl 1 rfl) ?_
        refine lv_aload_n hx hb dX9_length_49 rfl (lv_at hl 0 rfl) ?_
        refine q_getH E G x.1 x.2 hfx hix tb_45 (Or.inl rfl) dX9_length_50 ?_
        refine q_cV (rest := []) E G 0 0 c0 sg_0 (C := RX9) (T := TX9) (N := 10) rfl (k_X9_done l D cy sz ad n S (S.1 x.1 x.2 0)) tb_192 tb_194 tp_1 tb_1 tb_195 (nn := 1) (by decide +kernel) ⟨Nat.le_of_ble_eq_true rfl, Nat.le_of_ble_eq_true rfl⟩ rfl hl.1 rfl (Nat.le_of_ble_eq_true rfl) dX9_length_53 ⟨Nat.zero_le _, Nat.zero_le _⟩ (fun H locs G => ?_)
        exact q_iret E G (by unfold f_X9_length; simp only [if_pos h1, h3, if_neg h4, pr_eta]) dX9_length_56
  · refine q_cSp E G [] (k_X9_isWithin_f l D cy sz ad n S x1 3 h1) tb_117 tb_118 tb_1 tb_119 (nn := 2) (by decide +kernel) ⟨Nat.le_of_ble_eq_true rfl, Nat.le_of_ble_eq_true rfl⟩ rfl hl.1 rfl (Nat.le_of_ble_eq_true rfl) dX9_length_2 ⟨Nat.zero_le _, Nat.zero_le _⟩ (fun H locs G => ?_)
    refine lv_if_ne (tgt := 15) hx hb dX9_length_5 (by decide) (fun h => absurd h (by decide)) (fun _ => ?_)
    refine lv_aload_n hx hb dX9_length_8 rfl (lv_at hl 0 rfl) ?_
    refine lv_bipush (v := (-3)) hx hb dX9_length_9 (by decide) ?_
    refine q_cV (rest := []) E G 0 0 c0 sg_0 (C := RX9) (T := TX9) (N := 10) rfl (k_X9_refuse l D cy sz ad n S (-3)) tb_120 tb_122 tp_0 tb_1 tb_123 (nn := 1) (by decide +kernel) ⟨Nat.le_of_ble_eq_true rfl, Nat.le_of_ble_eq_true rfl⟩ rfl hl.1 rfl (Nat.le_of_ble_eq_true rfl) dX9_length_11 ⟨Nat.zero_le _, Nat.zero_le _⟩ (fun H locs G => ?_)
    exact q_iret E G (by unfold f_X9_length; simp only [if_neg h1, pr_eta]) dX9_length_14

def f_X9_rack (S : SS) (x1 : Int32) (x2 : Int32) (x3 : Int32) : Int32 × SS := if wi x1 4 = true then (if wi x2 3 = true then (if x3 ≤ 10 then (if 0 ≤ x3 then (f_X9_done (f_rack S x1.toNatClampNeg x2 x3) x3) else (f_X9_fail S 3)) else (f_X9_refuse S (-3))) else (f_X9_refuse S (-3))) else (f_X9_refuse S (-2))
set_option maxHeartbeats 4000000 in
set_option maxRecDepth 100000 in
theorem k_X9_rack (l : Launch) (D : va_G) (cy : Nat → ClassId) (sz : Nat) (ad : Nat → Nat → Nat) (n : Nat) (S : SS) (ok : okC n S) (x1 : Int32) (x2 : Int32) (x3 : Int32) : CI l yX9_rack cX9_rack 4 (some .int) 2 42 [.ref (ad 0 0), .int x1, .int x2, .int x3] D cy sz ad n S (f_X9_rack S x1 x2 x3) := by
  refine Met.enter (by decide) (Nat.le_of_ble_eq_true rfl) (fun p e s m args below meth c ls E G hl => ?_)
  have E : En p s m args meth c cX9_rack 4 (some .int) RX9 D cy sz := E
  obtain ⟨hx, hb, hrt, hml, hown, hw, hlk, hK, hF, hsz⟩ := id E
  have hl : lv_has ls 4 [(0, .ref (ad 0 0)), (1, .int x1), (2, .int x2), (3, .int x3)] := hl
  refine lv_iload_n hx hb dX9_rack_0 rfl (lv_at hl 1 rfl) ?_
  refine lv_iconst (v := 4) hx hb dX9_rack_1 (by decide) ?_
  by_cases h1 : wi x1 4 = true
  · have v2 : vp_in x1 4 := wi_in h1 (by decide) (by decide)
    refine q_cSp E G [] (k_X9_isWithin_t l D cy sz ad n S x1 4 h1) tb_117 tb_118 tb_1 tb_119 (nn := 2) (by decide +kernel) ⟨Nat.le_of_ble_eq_true rfl, Nat.le_of_ble_eq_true rfl⟩ rfl hl.1 rfl (Nat.le_of_ble_eq_true rfl) dX9_rack_2 ⟨Nat.zero_le _, Nat.zero_le _⟩ (fun H locs G => ?_)
    refine lv_if_ne (tgt := 15) hx hb dX9_rack_5 (by decide) (fun _ => ?_) (fun h => absurd h (by decide))
    refine lv_iload_n hx hb dX9_rack_15 rfl (lv_at hl 2 rfl) ?_
    refine lv_iconst (v := 3) hx hb dX9_rack_16 (by decide) ?_
    by_cases h3 : wi x2 3 = true
    · have v4 : vp_in x2 3 := wi_in h3 (by decide) (by decide)
      refine q_cSp E G [] (k_X9_isWithin_t l D cy sz ad n S x2 3 h3) tb_117 tb_118 tb_1 tb_119 (nn := 2) (by decide +kernel) ⟨Nat.le_of_ble_eq_true rfl, Nat.le_of_ble_eq_true rfl⟩ rfl hl.1 rfl (Nat.le_of_ble_eq_true rfl) dX9_rack_17 ⟨Nat.zero_le _, Nat.zero_le _⟩ (fun H locs G => ?_)
      refine lv_if_eq (tgt := 29) hx hb dX9_rack_20 (by decide) (fun h => absurd h (by decide)) (fun _ => ?_)
      refine lv_iload_n hx hb dX9_rack_23 rfl (lv_at hl 3 rfl) ?_
      refine lv_bipush (v := 10) hx hb dX9_rack_24 (by decide) ?_
      refine lv_icmp_le (tgt := 36) hx hb dX9_rack_26 (by decide) (fun h5 => ?_) (fun h5 => ?_)
      · refine lv_iload_n hx hb dX9_rack_36 rfl (lv_at hl 3 rfl) ?_
        refine lv_if_ge (tgt := 46) hx hb dX9_rack_37 (by decide) (fun h6 => ?_) (fun h6 => ?_)
        · refine lv_aload_n hx hb dX9_rack_46 rfl (lv_at hl 0 rfl) ?_
          refine q_get (index := 23) (ref := "ToolRoom") E G inX9 0 0 c0 sg_0 rfl 2 (by decide) tb_84 (Or.inl rfl) rfl dX9_rack_47 ?_
          refine lv_iload_n hx hb dX9_rack_50 rfl (lv_at hl 1 rfl) ?_
          refine q_aald (C := "ToolRoom$Rack") E G 3 0 c3 sa_3 4 rfl v2 dX9_rack_51 ?_
          refine lv_iload_n hx hb dX9_rack_52 rfl (lv_at hl 2 rfl) ?_
          refine lv_iload_n hx hb dX9_rack_53 rfl (lv_at hl 3 rfl) ?_
          refine q_cVv (rest := []) E G 10 x1.toNatClampNeg (c10 (vp_lt v2)) sg_10 (C := RX6) (T := TX6) (N := 3) rfl (k_X6_renew l D cy sz ad n S x1.toNatClampNeg (vp_lt v2) x2 x3) tb_352 tb_353 tb_354 tb_4 tb_355 (nn := 2) (by decide +kernel) ⟨Nat.le_of_ble_eq_true rfl, Nat.le_of_ble_eq_true rfl⟩ rfl hl.1 rfl (Nat.le_of_ble_eq_true rfl) dX9_rack_54 ⟨Nat.zero_le _, Nat.zero_le _⟩ (fun H locs G => ?_)
          refine lv_aload_n hx hb dX9_rack_57 rfl (lv_at hl 0 rfl) ?_
          refine lv_iload_n hx hb dX9_rack_58 rfl (lv_at hl 3 rfl) ?_
          refine q_cV (rest := []) E G 0 0 c0 sg_0 (C := RX9) (T := TX9) (N := 10) rfl (k_X9_done l D cy sz ad n (f_rack S x1.toNatClampNeg x2 x3) x3) tb_192 tb_194 tp_1 tb_1 tb_195 (nn := 1) (by decide +kernel) ⟨Nat.le_of_ble_eq_true rfl, Nat.le_of_ble_eq_true rfl⟩ rfl hl.1 rfl (Nat.le_of_ble_eq_true rfl) dX9_rack_59 ⟨Nat.zero_le _, Nat.zero_le _⟩ (fun H locs G => ?_)
          exact q_iret E G (by unfold f_X9_rack; simp only [if_pos h1, if_pos h3, if_pos h5, if_pos h6, pr_eta]) dX9_rack_62
        · refine lv_aload_n hx hb dX9_rack_40 rfl (lv_at hl 0 rfl) ?_
          refine lv_iconst (v := 3) hx hb dX9_rack_41 (by decide) ?_
          refine q_cV (rest := []) E G 0 0 c0 sg_0 (C := RX9) (T := TX9) (N := 10) rfl (k_X9_fail l D cy sz ad n S 3 (by unfold vp_in; decide)) tb_227 tb_229 tp_2 tb_1 tb_230 (nn := 1) (by decide +kernel) ⟨Nat.le_of_ble_eq_true rfl, Nat.le_of_ble_eq_true rfl⟩ rfl hl.1 rfl (Nat.le_of_ble_eq_true rfl) dX9_rack_42 ⟨Nat.zero_le _, Nat.zero_le _⟩ (fun H locs G => ?_)
          exact q_iret E G (by unfold f_X9_rack; simp only [if_pos h1, if_pos h3, if_pos h5, if_neg h6, pr_eta]) dX9_rack_45
      · refine lv_aload_n hx hb dX9_rack_29 rfl (lv_at hl 0 rfl) ?_
        refine lv_bipush (v := (-3)) hx hb dX9_rack_30 (by decide) ?_
        refine q_cV (rest := []) E G 0 0 c0 sg_0 (C := RX9) (T := TX9) (N := 10) rfl (k_X9_refuse l D cy sz ad n S (-3)) tb_120 tb_122 tp_0 tb_1 tb_123 (nn := 1) (by decide +kernel) ⟨Nat.le_of_ble_eq_true rfl, Nat.le_of_ble_eq_true rfl⟩ rfl hl.1 rfl (Nat.le_of_ble_eq_true rfl) dX9_rack_32 ⟨Nat.zero_le _, Nat.zero_le _⟩ (fun H locs G => ?_)
        exact q_iret E G (by unfold f_X9_rack; simp only [if_pos h1, if_pos h3, if_neg h5, pr_eta]) dX9_rack_35
    · refine q_cSp E G [] (k_X9_isWithin_f l D cy sz ad n S x2 3 h3) tb_117 tb_118 tb_1 tb_119 (nn := 2) (by decide +kernel) ⟨Nat.le_of_ble_eq_true rfl, Nat.le_of_ble_eq_true rfl⟩ rfl hl.1 rfl (Nat.le_of_ble_eq_true rfl) dX9_rack_17 ⟨Nat.zero_le _, Nat.zero_le _⟩ (fun H locs G => ?_)
      refine lv_if_eq (tgt := 29) hx hb dX9_rack_20 (by decide) (fun _ => ?_) (fun h => absurd h (by decide))
      refine lv_aload_n hx hb dX9_rack_29 rfl (lv_at hl 0 rfl) ?_
      refine lv_bipush (v := (-3)) hx hb dX9_rack_30 (by decide) ?_
      refine q_cV (rest := []) E G 0 0 c0 sg_0 (C := RX9) (T := TX9) (N := 10) rfl (k_X9_refuse l D cy sz ad n S (-3)) tb_120 tb_122 tp_0 tb_1 tb_123 (nn := 1) (by decide +kernel) ⟨Nat.le_of_ble_eq_true rfl, Nat.le_of_ble_eq_true rfl⟩ rfl hl.1 rfl (Nat.le_of_ble_eq_true rfl) dX9_rack_32 ⟨Nat.zero_le _, Nat.zero_le _⟩ (fun H locs G => ?_)
      exact q_iret E G (by unfold f_X9_rack; simp only [if_pos h1, if_neg h3, pr_eta]) dX9_rack_35
  · refine q_cSp E G [] (k_X9_isWithin_f l D cy sz ad n S x1 4 h1) tb_117 tb_118 tb_1 tb_119 (nn := 2) (by decide +kernel) ⟨Nat.le_of_ble_eq_true rfl, Nat.le_of_ble_eq_true rfl⟩ rfl hl.1 rfl (Nat.le_of_ble_eq_true rfl) dX9_rack_2 ⟨Nat.zero_le _, Nat.zero_le _⟩ (fun H locs G => ?_)
    refine lv_if_ne (tgt := 15) hx hb dX9_rack_5 (by decide) (fun h => absurd h (by decide)) (fun _ => ?_)
    refine lv_aload_n hx hb dX9_rack_8 rfl (lv_at hl 0 rfl) ?_
    refine lv_bipush (v := (-2)) hx hb dX9_rack_9 (by decide) ?_
    refine q_cV (rest := []) E G 0 0 c0 sg_0 (C := RX9) (T := TX9) (N := 10) rfl (k_X9_refuse l D cy sz ad n S (-2)) tb_120 tb_122 tp_0 tb_1 tb_123 (nn := 1) (by decide +kernel) ⟨Nat.le_of_ble_eq_true rfl, Nat.le_of_ble_eq_true rfl⟩ rfl hl.1 rfl (Nat.le_of_ble_eq_true rfl) dX9_rack_11 ⟨Nat.zero_le _, Nat.zero_le _⟩ (fun H locs G => ?_)
    exact q_iret E G (by unfold f_X9_rack; simp only [if_neg h1, pr_eta]) dX9_rack_14

def f_X9_lay (S : SS) (x1 : Int32) (x2 : Int32) (x3 : Int32) : Int32 × SS := if wi x1 4 = true then (if wi x3 10 = true then (if (pA S 10 x1.toNatClampNeg x2) = 0 then (match S.2 1 0 x3.toNatClampNeg with | none => if (pS S none (S.1 10 x1.toNatClampNeg 2)) = 0 then (f_X9_fail S 5) else (f_X9_done (uR S 11 x1.toNatClampNeg x2.toNatClampNeg none) 1) | some t7 => if (pS S (some t7) (S.1 10 x1.toNatClampNeg 2)) = 0 then (f_X9_fail S 5) else (f_X9_done (uR S 11 x1.toNatClampNeg x2.toNatClampNeg (some t7)) 1)) else (f_X9_fail S (pA S 10 x1.toNatClampNeg x2))) else (f_X9_refuse S (-2))) else (f_X9_refuse S (-2))
set_option maxHeartbeats 4000000 in
set_option maxRecDepth 100000 in
theorem k_X9_lay (l : Launch) (D : va_G) (cy : Nat → ClassId) (sz : Nat) (ad : Nat → Nat → Nat) (n : Nat) (S : SS) (ok : okC n S) (x1 : Int32) (x2 : Int32) (x3 : Int32) : CI l yX9_lay cX9_lay 7 (some .int) 2 42 [.ref (ad 0 0), .int x1, .int x2, .int x3] D cy sz ad n S (f_X9_lay S x1 x2 x3) := by
  refine Met.enter (by decide) (Nat.le_of_ble_eq_true rfl) (fun p e s m args below meth c ls E G hl => ?_)
  have E : En p s m args meth c cX9_lay 7 (some .int) RX9 D cy sz := E
  obtain ⟨hx, hb, hrt, hml, hown, hw, hlk, hK, hF, hsz⟩ := id E
  have hl : lv_has ls 7 [(0, .ref (ad 0 0)), (1, .int x1), (2, .int x2), (3, .int x3)] := hl
  refine lv_iload_n hx hb dX9_lay_0 rfl (lv_at hl 1 rfl) ?_
  refine lv_iconst (v := 4) hx hb dX9_lay_1 (by decide) ?_
  by_cases h1 : wi x1 4 = true
  · have v2 : vp_in x1 4 := wi_in h1 (by decide) (by decide)
    refine q_cSp E G [] (k_X9_isWithin_t l D cy sz ad n S x1 4 h1) tb_117 tb_118 tb_1 tb_119 (nn := 2) (by decide +kernel) ⟨Nat.le_of_ble_eq_true rfl, Nat.le_of_ble_eq_true rfl⟩ rfl hl.1 rfl (Nat.le_of_ble_eq_true rfl) dX9_lay_2 ⟨Nat.zero_le _, Nat.zero_le _⟩ (fun H locs G => ?_)
    refine lv_if_eq (tgt := 17) hx hb dX9_lay_5 (by decide) (fun h => absurd h (by decide)) (fun _ => ?_)
    refine lv_iload_n hx hb dX9_lay_8 rfl (lv_at hl 3 rfl) ?_
    refine lv_bipush (v := 10) hx hb dX9_lay_9 (by decide) ?_
    by_cases h3 : wi x3 10 = true
    · have v4 : vp_in x3 10 := wi_in h3 (by decide) (by decide)
      refine q_cSp E G [] (k_X9_isWithin_t l D cy sz ad n S x3 10 h3) tb_117 tb_118 tb_1 tb_119 (nn := 2) (by decide +kernel) ⟨Nat.le_of_ble_eq_true rfl, Nat.le_of_ble_eq_true rfl⟩ rfl hl.1 rfl (Nat.le_of_ble_eq_true rfl) dX9_lay_11 ⟨Nat.zero_le _, Nat.zero_le _⟩ (fun H locs G => ?_)
      refine lv_if_ne (tgt := 24) hx hb dX9_lay_14 (by decide) (fun _ => ?_) (fun h => absurd h (by decide))
      refine lv_aload_n hx hb dX9_lay_24 rfl (lv_at hl 0 rfl) ?_
      refine q_get (index := 23) (ref := "ToolRoom") E G inX9 0 0 c0 sg_0 rfl 2 (by decide) tb_84 (Or.inl rfl) rfl dX9_lay_25 ?_
      refine lv_iload_n hx hb dX9_lay_28 rfl (lv_at hl 1 rfl) ?_
      refine q_aald (C := "ToolRoom$Rack") E G 3 0 c3 sa_3 4 rfl v2 dX9_lay_29 ?_
      refine lv_astore (lv' := [(4, .ref (ad 10 x1.toNatClampNeg)), (0, .ref (ad 0 0)), (1, .int x1), (2, .int x2), (3, .int x3)]) hx hb dX9_lay_30 hl (by decide) rfl (fun ls hl => ?_)
      refine lv_aload hx hb dX9_lay_32 (lv_at hl 0 rfl) ?_
      refine lv_iload_n hx hb dX9_lay_34 rfl (lv_at hl 3 rfl) ?_
      refine q_cSp E G [] (k_X9_failureAt l D cy sz ad n S 10 x1.toNatClampNeg (Or.inr (Or.inl rfl)) (c10 (vp_lt v2)) x2) tb_302 tb_303 tb_1 tb_304 (nn := 2) (by decide +kernel) ⟨Nat.le_of_ble_eq_true rfl, Nat.le_of_ble_eq_true rfl⟩ rfl hl.1 rfl (Nat.le_of_ble_eq_true rfl) dX9_lay_35 ⟨Nat.zero_le _, Nat.zero_le _⟩ (fun H locs G => ?_)
      refine lv_istore (lv' := [(5, .int (pA S 10 x1.toNatClampNeg x2)), (4, .ref (ad 10 x1.toNatClampNeg)), (0, .ref (ad 0 0)), (1, .int x1), (2, .int x2), (3, .int x3)]) hx hb dX9_lay_38 hl (by decide) rfl (fun ls hl => ?_)
      refine lv_iload hx hb dX9_lay_40 (lv_at hl 0 rfl) ?_
      refine lv_if_eq (tgt := 52) hx hb dX9_lay_42 (by decide) (fun h5 => ?_) (fun h5 => ?_)
      · have v6 : vp_in x2 10 := wi_le (pA_0 h5) (ok.2.2.1 _ (vp_lt v2)) (by decide)
        refine lv_aload_n hx hb dX9_lay_52 rfl (lv_at hl 2 rfl) ?_
        refine q_get (index := 11) (ref := "ToolRoom") E G inX9 0 0 c0 sg_0 rfl 0 (by decide) tb_82 (Or.inl rfl) rfl dX9_lay_53 ?_
        refine lv_iload_n hx hb dX9_lay_56 rfl (lv_at hl 5 rfl) ?_
        refine q_aaldT E G 1 0 c1 sa_1 v4 dX9_lay_57 (fun h7 => ?_) (fun t7 h7 => ?_)
        · refine lv_astoreN (lv' := [(6, .null), (5, .int (pA S 10 x1.toNatClampNeg x2)), (4, .ref (ad 10 x1.toNatClampNeg)), (0, .ref (ad 0 0)), (1, .int x1), (2, .int x2), (3, .int x3)]) hx hb dX9_lay_58 hl (by decide) rfl (fun ls hl => ?_)
          refine lv_aloadN hx hb dX9_lay_60 (lv_at hl 0 rfl) ?_
          refine lv_aload hx hb dX9_lay_62 (lv_at hl 2 rfl) ?_
          refine q_get (index := 155) (ref := "ToolRoom$Rack") E G inX6 10 x1.toNatClampNeg (c10 (vp_lt v2)) sg_10 rfl 2 (by decide) tb_62 (Or.inl rfl) rfl dX9_lay_64 ?_
          refine q_cSp E G [] (k_X9_isOfSort_n l D cy sz ad n S (S.1 10 x1.toNatClampNeg 2)) tb_360 tb_361 tb_1 tb_362 (nn := 2) (by decide +kernel) ⟨Nat.le_of_ble_eq_true rfl, Nat.le_of_ble_eq_true rfl⟩ rfl hl.1 rfl (Nat.le_of_ble_eq_true rfl) dX9_lay_67 ⟨Nat.zero_le _, Nat.zero_le _⟩ (fun H locs G => ?_)
          refine lv_if_ne (tgt := 79) hx hb dX9_lay_70 (by decide) (fun h8 => ?_) (fun h8 => ?_)
          · refine lv_aload hx hb dX9_lay_79 (lv_at hl 2 rfl) ?_
            refine q_get (index := 162) (ref := "ToolRoom$Rack") E G inX6 10 x1.toNatClampNeg (c10 (vp_lt v2)) sg_10 rfl 1 (by decide) tb_60 (Or.inl rfl) rfl dX9_lay_81 ?_
            refine lv_iload_n hx hb dX9_lay_84 rfl (lv_at hl 5 rfl) ?_
            refine lv_aloadN hx hb dX9_lay_85 (lv_at hl 0 rfl) ?_
            refine q_aastN E G 11 x1.toNatClampNeg (c11 (vp_lt v2)) (fun _ => sa_11) v6 dX9_lay_87 (fun H locs G => ?_)
            refine lv_aload_n hx hb dX9_lay_88 rfl (lv_at hl 3 rfl) ?_
            refine lv_iconst (v := 1) hx hb dX9_lay_89 (by decide) ?_
            refine q_cV (rest := []) E G 0 0 c0 sg_0 (C := RX9) (T := TX9) (N := 10) rfl (k_X9_done l D cy sz ad n (uR S 11 x1.toNatClampNeg x2.toNatClampNeg none) 1) tb_192 tb_194 tp_1 tb_1 tb_195 (nn := 1) (by decide +kernel) ⟨Nat.le_of_ble_eq_true rfl, Nat.le_of_ble_eq_true rfl⟩ rfl hl.1 rfl (Nat.le_of_ble_eq_true rfl) dX9_lay_90 ⟨Nat.zero_le _, Nat.zero_le _⟩ (fun H locs G => ?_)
            exact q_iret E G (by unfold f_X9_lay; simp only [if_pos h1, if_pos h3, if_pos h5, h7, if_neg h8, pr_eta]) dX9_lay_93
          · refine lv_aload_n hx hb dX9_lay_73 rfl (lv_at hl 3 rfl) ?_
            refine lv_iconst (v := 5) hx hb dX9_lay_74 (by decide) ?_
            refine q_cV (rest := []) E G 0 0 c0 sg_0 (C := RX9) (T := TX9) (N := 10) rfl (k_X9_fail l D cy sz ad n S 5 (by unfold vp_in; decide)) tb_227 tb_229 tp_2 tb_1 tb_230 (nn := 1) (by decide +kernel) ⟨Nat.le_of_ble_eq_true rfl, Nat.le_of_ble_eq_true rfl⟩ rfl hl.1 rfl (Nat.le_of_ble_eq_true rfl) dX9_lay_75 ⟨Nat.zero_le _, Nat.zero_le _⟩ (fun H locs G => ?_)
            exact q_iret E G (by unfold f_X9_lay; simp only [if_pos h1, if_pos h3, if_pos h5, h7, if_pos h8, pr_eta]) dX9_lay_78
        · have kt7 : t7 < n := ok.1 _ _ _ _ h7
          refine lv_astore (lv' := [(6, .ref (ad 16 t7)), (5, .int (pA S 10 x1.toNatClampNeg x2)), (4, .ref (ad 10 x1.toNatClampNeg)), (0, .ref (ad 0 0)), (1, .int x1), (2, .int x2), (3, .int x3)]) hx hb dX9_lay_58 hl (by decide) rfl (fun ls hl => ?_)
          refine lv_aload hx hb dX9_lay_60 (lv_at hl 0 rfl) ?_
          refine lv_aload hx hb dX9_lay_62 (lv_at hl 2 rfl) ?_
          refine q_get (index := 155) (ref := "ToolRoom$Rack") E G inX6 10 x1.toNatClampNeg (c10 (vp_lt v2)) sg_10 rfl 2 (by decide) tb_62 (Or.inl rfl) rfl dX9_lay_64 ?_
          refine q_cSp E G [] (k_X9_isOfSort_s l D cy sz ad n S t7 kt7 (S.1 10 x1.toNatClampNeg 2)) tb_360 tb_361 tb_1 tb_362 (nn := 2) (by decide +kernel) ⟨Nat.le_of_ble_eq_true rfl, Nat.le_of_ble_eq_true rfl⟩ rfl hl.1 rfl (Nat.le_of_ble_eq_true rfl) dX9_lay_67 ⟨Nat.zero_le _, Nat.zero_le _⟩ (fun H locs G => ?_)
          refine lv_if_ne (tgt := 79) hx hb dX9_lay_70 (by decide) (fun h9 => ?_) (fun h9 => ?_)
          · refine lv_aload hx hb dX9_lay_79 (lv_at hl 2 rfl) ?_
            refine q_get (index := 162) (ref := "ToolRoom$Rack") E G inX6 10 x1.toNatClampNeg (c10 (vp_lt v2)) sg_10 rfl 1 (by decide) tb_60 (Or.inl rfl) rfl dX9_lay_81 ?_
            refine lv_iload_n hx hb dX9_lay_84 rfl (lv_at hl 5 rfl) ?_
            refine lv_aload hx hb dX9_lay_85 (lv_at hl 0 rfl) ?_
            refine q_aast E G 11 x1.toNatClampNeg (c11 (vp_lt v2)) (fun _ => sa_11) kt7 v6 dX9_lay_87 (fun H locs G => ?_)
            refine lv_aload_n hx hb dX9_lay_88 rfl (lv_at hl 3 rfl) ?_
            refine lv_iconst (v := 1) hx hb dX9_lay_89 (by decide) ?_
            refine q_cV (rest := []) E G 0 0 c0 sg_0 (C := RX9) (T := TX9) (N := 10) rfl (k_X9_done l D cy sz ad n (uR S 11 x1.toNatClampNeg x2.toNatClampNeg (some t7)) 1) tb_192 tb_194 tp_1 tb_1 tb_195 (nn := 1) (by decide +kernel) ⟨Nat.le_of_ble_eq_true rfl, Nat.le_of_ble_eq_true rfl⟩ rfl hl.1 rfl (Nat.le_of_ble_eq_true rfl) dX9_lay_90 ⟨Nat.zero_le _, Nat.zero_le _⟩ (fun H locs G => ?_)
            exact q_iret E G (by unfold f_X9_lay; simp only [if_pos h1, if_pos h3, if_pos h5, h7, if_neg h9, pr_eta]) dX9_lay_93
          · refine lv_aload_n hx hb dX9_lay_73 rfl (lv_at hl 3 rfl) ?_
            refine lv_iconst (v := 5) hx hb dX9_lay_74 (by decide) ?_
            refine q_cV (rest := []) E G 0 0 c0 sg_0 (C := RX9) (T := TX9) (N := 10) rfl (k_X9_fail l D cy sz ad n S 5 (by unfold vp_in; decide)) tb_227 tb_229 tp_2 tb_1 tb_230 (nn := 1) (by decide +kernel) ⟨Nat.le_of_ble_eq_true rfl, Nat.le_of_ble_eq_true rfl⟩ rfl hl.1 rfl (Nat.le_of_ble_eq_true rfl) dX9_lay_75 ⟨Nat.zero_le _, Nat.zero_le _⟩ (fun H locs G => ?_)
            exact q_iret E G (by unfold f_X9_lay; simp only [if_pos h1, if_pos h3, if_pos h5, h7, if_pos h9, pr_eta]) dX9_lay_78
      · refine lv_aload_n hx hb dX9_lay_45 rfl (lv_at hl 2 rfl) ?_
        refine lv_iload hx hb dX9_lay_46 (lv_at hl 0 rfl) ?_
        refine q_cV (rest := []) E G 0 0 c0 sg_0 (C := RX9) (T := TX9) (N := 10) rfl (k_X9_fail l D cy sz ad n S (pA S 10 x1.toNatClampNeg x2) pA_in) tb_227 tb_229 tp_2 tb_1 tb_230 (nn := 1) (by decide +kernel) ⟨Nat.le_of_ble_eq_true rfl, Nat.le_of_ble_eq_true rfl⟩ rfl hl.1 rfl (Nat.le_of_ble_eq_true rfl) dX9_lay_48 ⟨Nat.zero_le _, Nat.zero_le _⟩ (fun H locs G => ?_)
        exact q_iret E G (by unfold f_X9_lay; simp only [if_pos h1, if_pos h3, if_neg h5, pr_eta]) dX9_lay_51
    · refine q_cSp E G [] (k_X9_isWithin_f l D cy sz ad n S x3 10 h3) tb_117 tb_118 tb_1 tb_119 (nn := 2) (by decide +kernel) ⟨Nat.le_of_ble_eq_true rfl, Nat.le_of_ble_eq_true rfl⟩ rfl hl.1 rfl (Nat.le_of_ble_eq_true rfl) dX9_lay_11 ⟨Nat.zero_le _, Nat.zero_le _⟩ (fun H locs G => ?_)
      refine lv_if_ne (tgt := 24) hx hb dX9_lay_14 (by decide) (fun h => absurd h (by decide)) (fun _ => ?_)
      refine lv_aload_n hx hb dX9_lay_17 rfl (lv_at hl 0 rfl) ?_
      refine lv_bipush (v := (-2)) hx hb dX9_lay_18 (by decide) ?_
      refine q_cV (rest := []) E G 0 0 c0 sg_0 (C := RX9) (T := TX9) (N := 10) rfl (k_X9_refuse l D cy sz ad n S (-2)) tb_120 tb_122 tp_0 tb_1 tb_123 (nn := 1) (by decide +kernel) ⟨Nat.le_of_ble_eq_true rfl, Nat.le_of_ble_eq_true rfl⟩ rfl hl.1 rfl (Nat.le_of_ble_eq_true rfl) dX9_lay_20 ⟨Nat.zero_le _, Nat.zero_le _⟩ (fun H locs G => ?_)
      exact q_iret E G (by unfold f_X9_lay; simp only [if_pos h1, if_neg h3, pr_eta]) dX9_lay_23
  · refine q_cSp E G [] (k_X9_isWithin_f l D cy sz ad n S x1 4 h1) tb_117 tb_118 tb_1 tb_119 (nn := 2) (by decide +kernel) ⟨Nat.le_of_ble_eq_true rfl, Nat.le_of_ble_eq_true rfl⟩ rfl hl.1 rfl (Nat.le_of_ble_eq_true rfl) dX9_lay_2 ⟨Nat.zero_le _, Nat.zero_le _⟩ (fun H locs G => ?_)
    refine lv_if_eq (tgt := 17) hx hb dX9_lay_5 (by decide) (fun _ => ?_) (fun h => absurd h (by decide))
    refine lv_aload_n hx hb dX9_lay_17 rfl (lv_at hl 0 rfl) ?_
    refine lv_bipush (v := (-2)) hx hb dX9_lay_18 (by decide) ?_
    refine q_cV (rest := []) E G 0 0 c0 sg_0 (C := RX9) (T := TX9) (N := 10) rfl (k_X9_refuse l D cy sz ad n S (-2)) tb_120 tb_122 tp_0 tb_1 tb_123 (nn := 1) (by decide +kernel) ⟨Nat.le_of_ble_eq_true rfl, Nat.le_of_ble_eq_true rfl⟩ rfl hl.1 rfl (Nat.le_of_ble_eq_true rfl) dX9_lay_20 ⟨Nat.zero_le _, Nat.zero_le _⟩ (fun H locs G => ?_)
    exact q_iret E G (by unfold f_X9_lay; simp only [if_neg h1, pr_eta]) dX9_lay_23

def f_X9_fetch (S : SS) (x1 : Int32) (x2 : Int32) (x3 : Int32) (x4 : Int32) : Int32 × SS := if wi x1 4 = true then (if wi x4 10 = true then (if wi x3 3 = true then (if (pA S 10 x1.toNatClampNeg x2) = 0 then (match S.2 11 x1.toNatClampNeg x2.toNatClampNeg with | none => if (pS S none x3) = 0 then (f_X9_fail S 4) else (f_X9_done (uR S 1 0 x4.toNatClampNeg none) 1) | some t9 => if (pS S (some t9) x3) = 0 then (f_X9_fail S 4) else (f_X9_done (uR S 1 0 x4.toNatClampNeg (some t9)) 1)) else (f_X9_fail S (pA S 10 x1.toNatClampNeg x2))) else (f_X9_refuse S (-3))) else (f_X9_refuse S (-2))) else (f_X9_refuse S (-2))
set_option maxHeartbeats 4000000 in
set_option maxRecDepth 100000 in
theorem k_X9_fetch (l : Launch) (D : va_G) (cy : Nat → ClassId) (sz : Nat) (ad : Nat → Nat → Nat) (n : Nat) (S : SS) (ok : okC n S) (x1 : Int32) (x2 : Int32) (x3 : Int32) (x4 : Int32) : CI l yX9_fetch cX9_fetch 8 (some .int) 2 42 [.ref (ad 0 0), .int x1, .int x2, .int x3, .int x4] D cy sz ad n S (f_X9_fetch S x1 x2 x3 x4) := by
  refine Met.enter (by decide) (Nat.le_of_ble_eq_true rfl) (fun p e s m args below meth c ls E G hl => ?_)
  have E : En p s m args meth c cX9_fetch 8 (some .int) RX9 D cy sz := E
  obtain ⟨hx, hb, hrt, hml, hown, hw, hlk, hK, hF, hsz⟩ := id E
  have hl : lv_has ls 8 [(0, .ref (ad 0 0)), (1, .int x1), (2, .int x2), (3, .int x3), (4, .int x4)] := hl
  refine lv_iload_n hx hb dX9_fetch_0 rfl (lv_at hl 1 rfl) ?_
  refine lv_iconst (v := 4) hx hb dX9_fetch_1 (by decide) ?_
  by_cases h1 : wi x1 4 = true
  · have v2 : vp_in x1 4 := wi_in h1 (by decide) (by decide)
    refine q_cSp E G [] (k_X9_isWithin_t l D cy sz ad n S x1 4 h1) tb_117 tb_118 tb_1 tb_119 (nn := 2) (by decide +kernel) ⟨Nat.le_of_ble_eq_true rfl, Nat.le_of_ble_eq_true rfl⟩ rfl hl.1 rfl (Nat.le_of_ble_eq_true rfl) dX9_fetch_2 ⟨Nat.zero_le _, Nat.zero_le _⟩ (fun H locs G => ?_)
    refine lv_if_eq (tgt := 18) hx hb dX9_fetch_5 (by decide) (fun h => absurd h (by decide)) (fun _ => ?_)
    refine lv_iload hx hb dX9_fetch_8 (lv_at hl 4 rfl) ?_
    refine lv_bipush (v := 10) hx hb dX9_fetch_10 (by decide) ?_
    by_cases h3 : wi x4 10 = true
    · have v4 : vp_in x4 10 := wi_in h3 (by decide) (by decide)
      refine q_cSp E G [] (k_X9_isWithin_t l D cy sz ad n S x4 10 h3) tb_117 tb_118 tb_1 tb_119 (nn := 2) (by decide +kernel) ⟨Nat.le_of_ble_eq_true rfl, Nat.le_of_ble_eq_true rfl⟩ rfl hl.1 rfl (Nat.le_of_ble_eq_true rfl) dX9_fetch_12 ⟨Nat.zero_le _, Nat.zero_le _⟩ (fun H locs G => ?_)
      refine lv_if_ne (tgt := 25) hx hb dX9_fetch_15 (by decide) (fun _ => ?_) (fun h => absurd h (by decide))
      refine lv_iload_n hx hb dX9_fetch_25 rfl (lv_at hl 3 rfl) ?_
      refine lv_iconst (v := 3) hx hb dX9_fetch_26 (by decide) ?_
      by_cases h5 : wi x3 3 = true
      · have v6 : vp_in x3 3 := wi_in h5 (by decide) (by decide)
        refine q_cSp E G [] (k_X9_isWithin_t l D cy sz ad n S x3 3 h5) tb_117 tb_118 tb_1 tb_119 (nn := 2) (by decide +kernel) ⟨Nat.le_of_ble_eq_true rfl, Nat.le_of_ble_eq_true rfl⟩ rfl hl.1 rfl (Nat.le_of_ble_eq_true rfl) dX9_fetch_27 ⟨Nat.zero_le _, Nat.zero_le _⟩ (fun H locs G => ?_)
        refine lv_if_ne (tgt := 40) hx hb dX9_fetch_30 (by decide) (fun _ => ?_) (fun h => absurd h (by decide))
        refine lv_aload_n hx hb dX9_fetch_40 rfl (lv_at hl 0 rfl) ?_
        refine q_get (index := 23) (ref := "ToolRoom") E G inX9 0 0 c0 sg_0 rfl 2 (by decide) tb_84 (Or.inl rfl) rfl dX9_fetch_41 ?_
        refine lv_iload_n hx hb dX9_fetch_44 rfl (lv_at hl 1 rfl) ?_
        refine q_aald (C := "ToolRoom$Rack") E G 3 0 c3 sa_3 4 rfl v2 dX9_fetch_45 ?_
        refine lv_astore (lv' := [(5, .ref (ad 10 x1.toNatClampNeg)), (0, .ref (ad 0 0)), (1, .int x1), (2, .int x2), (3, .int x3), (4, .int x4)]) hx hb dX9_fetch_46 hl (by decide) rfl (fun ls hl => ?_)
        refine lv_aload hx hb dX9_fetch_48 (lv_at hl 0 rfl) ?_
        refine lv_iload_n hx hb dX9_fetch_50 rfl (lv_at hl 3 rfl) ?_
        refine q_cSp E G [] (k_X9_failureAt l D cy sz ad n S 10 x1.toNatClampNeg (Or.inr (Or.inl rfl)) (c10 (vp_lt v2)) x2) tb_302 tb_303 tb_1 tb_304 (nn := 2) (by decide +kernel) ⟨Nat.le_of_ble_eq_true rfl, Nat.le_of_ble_eq_true rfl⟩ rfl hl.1 rfl (Nat.le_of_ble_eq_true rfl) dX9_fetch_51 ⟨Nat.zero_le _, Nat.zero_le _⟩ (fun H locs G => ?_)
        refine lv_istore (lv' := [(6, .int (pA S 10 x1.toNatClampNeg x2)), (5, .ref (ad 10 x1.toNatClampNeg)), (0, .ref (ad 0 0)), (1, .int x1), (2, .int x2), (3, .int x3), (4, .int x4)]) hx hb dX9_fetch_54 hl (by decide) rfl (fun ls hl => ?_)
        refine lv_iload hx hb dX9_fetch_56 (lv_at hl 0 rfl) ?_
        refine lv_if_eq (tgt := 68) hx hb dX9_fetch_58 (by decide) (fun h7 => ?_) (fun h7 => ?_)
        · have v8 : vp_in x2 10 := wi_le (pA_0 h7) (ok.2.2.1 _ (vp_lt v2)) (by decide)
          refine lv_aload hx hb dX9_fetch_68 (lv_at hl 1 rfl) ?_
          refine q_get (index := 162) (ref := "ToolRoom$Rack") E G inX6 10 x1.toNatClampNeg (c10 (vp_lt v2)) sg_10 rfl 1 (by decide) tb_60 (Or.inl rfl) rfl dX9_fetch_70 ?_
          refine lv_iload_n hx hb dX9_fetch_73 rfl (lv_at hl 4 rfl) ?_
          refine q_aaldT E G 11 x1.toNatClampNeg (c11 (vp_lt v2)) sa_11 v8 dX9_fetch_74 (fun h9 => ?_) (fun t9 h9 => ?_)
          · refine lv_astoreN (lv' := [(7, .null), (6, .int (pA S 10 x1.toNatClampNeg x2)), (5, .ref (ad 10 x1.toNatClampNeg)), (0, .ref (ad 0 0)), (1, .int x1), (2, .int x2), (3, .int x3), (4, .int x4)]) hx hb dX9_fetch_75 hl (by decide) rfl (fun ls hl => ?_)
            refine lv_aloadN hx hb dX9_fetch_77 (lv_at hl 0 rfl) ?_
            refine lv_iload_n hx hb dX9_fetch_79 rfl (lv_at hl 6 rfl) ?_
            refine q_cSp E G [] (k_X9_isOfSort_n l D cy sz ad n S x3) tb_360 tb_361 tb_1 tb_362 (nn := 2) (by decide +kernel) ⟨Nat.le_of_ble_eq_true rfl, Nat.le_of_ble_eq_true rfl⟩ rfl hl.1 rfl (Nat.le_of_ble_eq_true rfl) dX9_fetch_80 ⟨Nat.zero_le _, Nat.zero_le _⟩ (fun H locs G => ?_)
            refine lv_if_ne (tgt := 92) hx hb dX9_fetch_83 (by decide) (fun h10 => ?_) (fun h10 => ?_)
            · refine lv_aload_n hx hb dX9_fetch_92 rfl (lv_at hl 3 rfl) ?_
              refine q_get (index := 11) (ref := "ToolRoom") E G inX9 0 0 c0 sg_0 rfl 0 (by decide) tb_82 (Or.inl rfl) rfl dX9_fetch_93 ?_
              refine lv_iload hx hb dX9_fetch_96 (lv_at hl 7 rfl) ?_
              refine lv_aloadN hx hb dX9_fetch_98 (lv_at hl 0 rfl) ?_
              refine q_aastN E G 1 0 c1 (fun _ => sa_1) v4 dX9_fetch_100 (fun H locs G => ?_)
              refine lv_aload_n hx hb dX9_fetch_101 rfl (lv_at hl 3 rfl) ?_
              refine lv_iconst (v := 1) hx hb dX9_fetch_102 (by decide) ?_
              refine q_cV (rest := []) E G 0 0 c0 sg_0 (C := RX9) (T := TX9) (N := 10) rfl (k_X9_done l D cy sz ad n (uR S 1 0 x4.toNatClampNeg none) 1) tb_192 tb_194 tp_1 tb_1 tb_195 (nn := 1) (by decide +kernel) ⟨Nat.le_of_ble_eq_true rfl, Nat.le_of_ble_eq_true rfl⟩ rfl hl.1 rfl (Nat.le_of_ble_eq_true rfl) dX9_fetch_103 ⟨Nat.zero_le _, Nat.zero_le _⟩ (fun H locs G => ?_)
              exact q_iret E G (by unfold f_X9_fetch; simp only [if_pos h1, if_pos h3, if_pos h5, if_pos h7, h9, if_neg h10, pr_eta]) dX9_fetch_106
            · refine lv_aload_n hx hb dX9_fetch_86 rfl (lv_at hl 3 rfl) ?_
              refine lv_iconst (v := 4) hx hb dX9_fetch_87 (by decide) ?_
              refine q_cV (rest := []) E G 0 0 c0 sg_0 (C := RX9) (T := TX9) (N := 10) rfl (k_X9_fail l D cy sz ad n S 4 (by unfold vp_in; decide)) tb_227 tb_229 tp_2 tb_1 tb_230 (nn := 1) (by decide +kernel) ⟨Nat.le_of_ble_eq_true rfl, Nat.le_of_ble_eq_true rfl⟩ rfl hl.1 rfl (Nat.le_of_ble_eq_true rfl) dX9_fetch_88 ⟨Nat.zero_le _, Nat.zero_le _⟩ (fun H locs G => ?_)
              exact q_iret E G (by unfold f_X9_fetch; simp only [if_pos h1, if_pos h3, if_pos h5, if_pos h7, h9, if_pos h10, pr_eta]) dX9_fetch_91
          · have kt9 : t9 < n := ok.1 _ _ _ _ h9
            refine lv_astore (lv' := [(7, .ref (ad 16 t9)), (6, .int (pA S 10 x1.toNatClampNeg x2)), (5, .ref (ad 10 x1.toNatClampNeg)), (0, .ref (ad 0 0)), (1, .int x1), (2, .int x2), (3, .int x3), (4, .int x4)]) hx hb dX9_fetch_75 hl (by decide) rfl (fun ls hl => ?_)
            refine lv_aload hx hb dX9_fetch_77 (lv_at hl 0 rfl) ?_
            refine lv_iload_n hx hb dX9_fetch_79 rfl (lv_at hl 6 rfl) ?_
            refine q_cSp E G [] (k_X9_isOfSort_s l D cy sz ad n S t9 kt9 x3) tb_360 tb_361 tb_1 tb_362 (nn := 2) (by decide +kernel) ⟨Nat.le_of_ble_eq_true rfl, Nat.le_of_ble_eq_true rfl⟩ rfl hl.1 rfl (Nat.le_of_ble_eq_true rfl) dX9_fetch_80 ⟨Nat.zero_le _, Nat.zero_le _⟩ (fun H locs G => ?_)
            refine lv_if_ne (tgt := 92) hx hb dX9_fetch_83 (by decide) (fun h11 => ?_) (fun h11 => ?_)
            · refine lv_aload_n hx hb dX9_fetch_92 rfl (lv_at hl 3 rfl) ?_
              refine q_get (index := 11) (ref := "ToolRoom") E G inX9 0 0 c0 sg_0 rfl 0 (by decide) tb_82 (Or.inl rfl) rfl dX9_fetch_93 ?_
              refine lv_iload hx hb dX9_fetch_96 (lv_at hl 7 rfl) ?_
              refine lv_aload hx hb dX9_fetch_98 (lv_at hl 0 rfl) ?_
              refine q_aast E G 1 0 c1 (fun _ => sa_1) kt9 v4 dX9_fetch_100 (fun H locs G => ?_)
              refine lv_aload_n hx hb dX9_fetch_101 rfl (lv_at hl 3 rfl) ?_
              refine lv_iconst (v := 1) hx hb dX9_fetch_102 (by decide) ?_
              refine q_cV (rest := []) E G 0 0 c0 sg_0 (C := RX9) (T := TX9) (N := 10) rfl (k_X9_done l D cy sz ad n (uR S 1 0 x4.toNatClampNeg (some t9)) 1) tb_192 tb_194 tp_1 tb_1 tb_195 (nn := 1) (by decide +kernel) ⟨Nat.le_of_ble_eq_true rfl, Nat.le_of_ble_eq_true rfl⟩ rfl hl.1 rfl (Nat.le_of_ble_eq_true rfl) dX9_fetch_103 ⟨Nat.zero_le _, Nat.zero_le _⟩ (fun H locs G => ?_)
              exact q_iret E G (by unfold f_X9_fetch; simp only [if_pos h1, if_pos h3, if_pos h5, if_pos h7, h9, if_neg h11, pr_eta]) dX9_fetch_106
            · refine lv_aload_n hx hb dX9_fetch_86 rfl (lv_at hl 3 rfl) ?_
              refine lv_iconst (v := 4) hx hb dX9_fetch_87 (by decide) ?_
              refine q_cV (rest := []) E G 0 0 c0 sg_0 (C := RX9) (T := TX9) (N := 10) rfl (k_X9_fail l D cy sz ad n S 4 (by unfold vp_in; decide)) tb_227 tb_229 tp_2 tb_1 tb_230 (nn := 1) (by decide +kernel) ⟨Nat.le_of_ble_eq_true rfl, Nat.le_of_ble_eq_true rfl⟩ rfl hl.1 rfl (Nat.le_of_ble_eq_true rfl) dX9_fetch_88 ⟨Nat.zero_le _, Nat.zero_le _⟩ (fun H locs G => ?_)
              exact q_iret E G (by unfold f_X9_fetch; simp only [if_pos h1, if_pos h3, if_pos h5, if_pos h7, h9, if_pos h11, pr_eta]) dX9_fetch_91
        · refine lv_aload_n hx hb dX9_fetch_61 rfl (lv_at hl 2 rfl) ?_
          refine lv_iload hx hb dX9_fetch_62 (lv_at hl 0 rfl) ?_
          refine q_cV (rest := []) E G 0 0 c0 sg_0 (C := RX9) (T := TX9) (N := 10) rfl (k_X9_fail l D cy sz ad n S (pA S 10 x1.toNatClampNeg x2) pA_in) tb_227 tb_229 tp_2 tb_1 tb_230 (nn := 1) (by decide +kernel) ⟨Nat.le_of_ble_eq_true rfl, Nat.le_of_ble_eq_true rfl⟩ rfl hl.1 rfl (Nat.le_of_ble_eq_true rfl) dX9_fetch_64 ⟨Nat.zero_le _, Nat.zero_le _⟩ (fun H locs G => ?_)
          exact q_iret E G (by unfold f_X9_fetch; simp only [if_pos h1, if_pos h3, if_pos h5, if_neg h7, pr_eta]) dX9_fetch_67
      · refine q_cSp E G [] (k_X9_isWithin_f l D cy sz ad n S x3 3 h5) tb_117 tb_118 tb_1 tb_119 (nn := 2) (by decide +kernel) ⟨Nat.le_of_ble_eq_true rfl, Nat.le_of_ble_eq_true rfl⟩ rfl hl.1 rfl (Nat.le_of_ble_eq_true rfl) dX9_fetch_27 ⟨Nat.zero_le _, Nat.zero_le _⟩ (fun H locs G => ?_)
        refine lv_if_ne (tgt := 40) hx hb dX9_fetch_30 (by decide) (fun h => absurd h (by decide)) (fun _ => ?_)
        refine lv_aload_n hx hb dX9_fetch_33 rfl (lv_at hl 0 rfl) ?_
        refine lv_bipush (v := (-3)) hx hb dX9_fetch_34 (by decide) ?_
        refine q_cV (rest := []) E G 0 0 c0 sg_0 (C := RX9) (T := TX9) (N := 10) rfl (k_X9_refuse l D cy sz ad n S (-3)) tb_120 tb_122 tp_0 tb_1 tb_123 (nn := 1) (by decide +kernel) ⟨Nat.le_of_ble_eq_true rfl, Nat.le_of_ble_eq_true rfl⟩ rfl hl.1 rfl (Nat.le_of_ble_eq_true rfl) dX9_fetch_36 ⟨Nat.zero_le _, Nat.zero_le _⟩ (fun H locs G => ?_)
        exact q_iret E G (by unfold f_X9_fetch; simp only [if_pos h1, if_pos h3, if_neg h5, pr_eta]) dX9_fetch_39
    · refine q_cSp E G [] (k_X9_isWithin_f l D cy sz ad n S x4 10 h3) tb_117 tb_118 tb_1 tb_119 (nn := 2) (by decide +kernel) ⟨Nat.le_of_ble_eq_true rfl, Nat.le_of_ble_eq_true rfl⟩ rfl hl.1 rfl (Nat.le_of_ble_eq_true rfl) dX9_fetch_12 ⟨Nat.zero_le _, Nat.zero_le _⟩ (fun H locs G => ?_)
      refine lv_if_ne (tgt := 25) hx hb dX9_fetch_15 (by decide) (fun h => absurd h (by decide)) (fun _ => ?_)
      refine lv_aload_n hx hb dX9_fetch_18 rfl (lv_at hl 0 rfl) ?_
      refine lv_bipush (v := (-2)) hx hb dX9_fetch_19 (by decide) ?_
      refine q_cV (rest := []) E G 0 0 c0 sg_0 (C := RX9) (T := TX9) (N := 10) rfl (k_X9_refuse l D cy sz ad n S (-2)) tb_120 tb_122 tp_0 tb_1 tb_123 (nn := 1) (by decide +kernel) ⟨Nat.le_of_ble_eq_true rfl, Nat.le_of_ble_eq_true rfl⟩ rfl hl.1 rfl (Nat.le_of_ble_eq_true rfl) dX9_fetch_21 ⟨Nat.zero_le _, Nat.zero_le _⟩ (fun H locs G => ?_)
      exact q_iret E G (by unfold f_X9_fetch; simp only [if_pos h1, if_neg h3, pr_eta]) dX9_fetch_24
  · refine q_cSp E G [] (k_X9_isWithin_f l D cy sz ad n S x1 4 h1) tb_117 tb_118 tb_1 tb_119 (nn := 2) (by decide +kernel) ⟨Nat.le_of_ble_eq_true rfl, Nat.le_of_ble_eq_true rfl⟩ rfl hl.1 rfl (Nat.le_of_ble_eq_true rfl) dX9_fetch_2 ⟨Nat.zero_le _, Nat.zero_le _⟩ (fun H locs G => ?_)
    refine lv_if_eq (tgt := 18) hx hb dX9_fetch_5 (by decide) (fun _ => ?_) (fun h => absurd h (by decide))
    refine lv_aload_n hx hb dX9_fetch_18 rfl (lv_at hl 0 rfl) ?_
    refine lv_bipush (v := (-2)) hx hb dX9_fetch_19 (by decide) ?_
    refine q_cV (rest := []) E G 0 0 c0 sg_0 (C := RX9) (T := TX9) (N := 10) rfl (k_X9_refuse l D cy sz ad n S (-2)) tb_120 tb_122 tp_0 tb_1 tb_123 (nn := 1) (by decide +kernel) ⟨Nat.le_of_ble_eq_true rfl, Nat.le_of_ble_eq_true rfl⟩ rfl hl.1 rfl (Nat.le_of_ble_eq_true rfl) dX9_fetch_21 ⟨Nat.zero_le _, Nat.zero_le _⟩ (fun H locs G => ?_)
    exact q_iret E G (by unfold f_X9_fetch; simp only [if_neg h1, pr_eta]) dX9_fetch_24

def f_X9_grid (S : SS) (x1 : Int32) (x2 : Int32) (x3 : Int32) : Int32 × SS := if wi x1 2 = true then (if 8 < x2 then (f_X9_refuse S (-3)) else (if x3 ≤ 8 then (if x2 < 0 then (f_X9_fail S 3) else (if 0 ≤ x3 then (f_X9_done (f_grid S x1.toNatClampNeg x2 x3) x2) else (f_X9_fail S 3))) else (f_X9_refuse S (-3)))) else (f_X9_refuse S (-2))
set_option maxHeartbeats 4000000 in
set_option maxRecDepth 100000 in
theorem k_X9_grid (l : Launch) (D : va_G) (cy : Nat → ClassId) (sz : Nat) (ad : Nat → Nat → Nat) (n : Nat) (S : SS) (ok : okC n S) (x1 : Int32) (x2 : Int32) (x3 : Int32) : CI l yX9_grid cX9_grid 4 (some .int) 2 45 [.ref (ad 0 0), .int x1, .int x2, .int x3] D cy sz ad n S (f_X9_grid S x1 x2 x3) := by
  refine Met.enter (by decide) (Nat.le_of_ble_eq_true rfl) (fun p e s m args below meth c ls E G hl => ?_)
  have E : En p s m args meth c cX9_grid 4 (some .int) RX9 D cy sz := E
  obtain ⟨hx, hb, hrt, hml, hown, hw, hlk, hK, hF, hsz⟩ := id E
  have hl : lv_has ls 4 [(0, .ref (ad 0 0)), (1, .int x1), (2, .int x2), (3, .int x3)] := hl
  refine lv_iload_n hx hb dX9_grid_0 rfl (lv_at hl 1 rfl) ?_
  refine lv_iconst (v := 2) hx hb dX9_grid_1 (by decide) ?_
  by_cases h1 : wi x1 2 = true
  · have v2 : vp_in x1 2 := wi_in h1 (by decide) (by decide)
    refine q_cSp E G [] (k_X9_isWithin_t l D cy sz ad n S x1 2 h1) tb_117 tb_118 tb_1 tb_119 (nn := 2) (by decide +kernel) ⟨Nat.le_of_ble_eq_true rfl, Nat.le_of_ble_eq_true rfl⟩ rfl hl.1 rfl (Nat.le_of_ble_eq_true rfl) dX9_grid_2 ⟨Nat.zero_le _, Nat.zero_le _⟩ (fun H locs G => ?_)
    refine lv_if_ne (tgt := 15) hx hb dX9_grid_5 (by decide) (fun _ => ?_) (fun h => absurd h (by decide))
    refine lv_iload_n hx hb dX9_grid_15 rfl (lv_at hl 2 rfl) ?_
    refine lv_bipush (v := 8) hx hb dX9_grid_16 (by decide) ?_
    refine lv_icmp_gt (tgt := 27) hx hb dX9_grid_18 (by decide) (fun h3 => ?_) (fun h3 => ?_)
    · refine lv_aload_n hx hb dX9_grid_27 rfl (lv_at hl 0 rfl) ?_
      refine lv_bipush (v := (-3)) hx hb dX9_grid_28 (by decide) ?_
      refine q_cV (rest := []) E G 0 0 c0 sg_0 (C := RX9) (T := TX9) (N := 10) rfl (k_X9_refuse l D cy sz ad n S (-3)) tb_120 tb_122 tp_0 tb_1 tb_123 (nn := 1) (by decide +kernel) ⟨Nat.le_of_ble_eq_true rfl, Nat.le_of_ble_eq_true rfl⟩ rfl hl.1 rfl (Nat.le_of_ble_eq_true rfl) dX9_grid_30 ⟨Nat.zero_le _, Nat.zero_le _⟩ (fun H locs G => ?_)
      exact q_iret E G (by unfold f_X9_grid; simp only [if_pos h1, if_pos h3, pr_eta]) dX9_grid_33
    · refine lv_iload_n hx hb dX9_grid_21 rfl (lv_at hl 3 rfl) ?_
      refine lv_bipush (v := 8) hx hb dX9_grid_22 (by decide) ?_
      refine lv_icmp_le (tgt := 34) hx hb dX9_grid_24 (by decide) (fun h4 => ?_) (fun h4 => ?_)
      · refine lv_iload_n hx hb dX9_grid_34 rfl (lv_at hl 2 rfl) ?_
        refine lv_if_lt (tgt := 42) hx hb dX9_grid_35 (by decide) (fun h5 => ?_) (fun h5 => ?_)
        · refine lv_aload_n hx hb dX9_grid_42 rfl (lv_at hl 0 rfl) ?_
          refine lv_iconst (v := 3) hx hb dX9_grid_43 (by decide) ?_
          refine q_cV (rest := []) E G 0 0 c0 sg_0 (C := RX9) (T := TX9) (N := 10) rfl (k_X9_fail l D cy sz ad n S 3 (by unfold vp_in; decide)) tb_227 tb_229 tp_2 tb_1 tb_230 (nn := 1) (by decide +kernel) ⟨Nat.le_of_ble_eq_true rfl, Nat.le_of_ble_eq_true rfl⟩ rfl hl.1 rfl (Nat.le_of_ble_eq_true rfl) dX9_grid_44 ⟨Nat.zero_le _, Nat.zero_le _⟩ (fun H locs G => ?_)
          exact q_iret E G (by unfold f_X9_grid; simp only [if_pos h1, if_neg h3, if_pos h4, if_pos h5, pr_eta]) dX9_grid_47
        · refine lv_iload_n hx hb dX9_grid_38 rfl (lv_at hl 3 rfl) ?_
          refine lv_if_ge (tgt := 48) hx hb dX9_grid_39 (by decide) (fun h6 => ?_) (fun h6 => ?_)
          · refine lv_aload_n hx hb dX9_grid_48 rfl (lv_at hl 0 rfl) ?_
            refine q_get (index := 29) (ref := "ToolRoom") E G inX9 0 0 c0 sg_0 rfl 3 (by decide) tb_85 (Or.inl rfl) rfl dX9_grid_49 ?_
            refine lv_iload_n hx hb dX9_grid_52 rfl (lv_at hl 1 rfl) ?_
            refine q_aald (C := "ToolRoom$Grid") E G 4 0 c4 sa_4 5 rfl v2 dX9_grid_53 ?_
            refine lv_iload_n hx hb dX9_grid_54 rfl (lv_at hl 2 rfl) ?_
            refine lv_iload_n hx hb dX9_grid_55 rfl (lv_at hl 3 rfl) ?_
            refine q_cVv (rest := []) E G 12 x1.toNatClampNeg (c12 (vp_lt v2)) sg_12 (C := RX3) (T := TX3) (N := 2) rfl (k_X3_renew l D cy sz ad n S x1.toNatClampNeg (vp_lt v2) x2 x3 (grd_in h3 h5)) tb_371 tb_372 tb_373 tb_5 tb_374 (nn := 2) (by decide +kernel) ⟨Nat.le_of_ble_eq_true rfl, Nat.le_of_ble_eq_true rfl⟩ rfl hl.1 rfl (Nat.le_of_ble_eq_true rfl) dX9_grid_56 ⟨Nat.zero_le _, Nat.zero_le _⟩ (fun H locs G => ?_)
            refine lv_aload_n hx hb dX9_grid_59 rfl (lv_at hl 0 rfl) ?_
            refine lv_iload_n hx hb dX9_grid_60 rfl (lv_at hl 2 rfl) ?_
            refine q_cV (rest := []) E G 0 0 c0 sg_0 (C := RX9) (T := TX9) (N := 10) rfl (k_X9_done l D cy sz ad n (f_grid S x1.toNatClampNeg x2 x3) x2) tb_192 tb_194 tp_1 tb_1 tb_195 (nn := 1) (by decide +kernel) ⟨Nat.le_of_ble_eq_true rfl, Nat.le_of_ble_eq_true rfl⟩ rfl hl.1 rfl (Nat.le_of_ble_eq_true rfl) dX9_grid_61 ⟨Nat.zero_le _, Nat.zero_le _⟩ (fun H locs G => ?_)
            exact q_iret E G (by unfold f_X9_grid; simp only [if_pos h1, if_neg h3, if_pos h4, if_neg h5, if_pos h6, pr_eta]) dX9_grid_64
          · refine lv_aload_n hx hb dX9_grid_42 rfl (lv_at hl 0 rfl) ?_
            refine lv_iconst (v := 3) hx hb dX9_grid_43 (by decide) ?_
            refine q_cV (rest := []) E G 0 0 c0 sg_0 (C := RX9) (T := TX9) (N := 10) rfl (k_X9_fail l D cy sz ad n S 3 (by unfold vp_in; decide)) tb_227 tb_229 tp_2 tb_1 tb_230 (nn := 1) (by decide +kernel) ⟨Nat.le_of_ble_eq_true rfl, Nat.le_of_ble_eq_true rfl⟩ rfl hl.1 rfl (Nat.le_of_ble_eq_true rfl) dX9_grid_44 ⟨Nat.zero_le _, Nat.zero_le _⟩ (fun H locs G => ?_)
            exact q_iret E G (by unfold f_X9_grid; simp only [if_pos h1, if_neg h3, if_pos h4, if_neg h5, if_neg h6, pr_eta]) dX9_grid_47
      · refine lv_aload_n hx hb dX9_grid_27 rfl (lv_at hl 0 rfl) ?_
        refine lv_bipush (v := (-3)) hx hb dX9_grid_28 (by decide) ?_
        refine q_cV (rest := []) E G 0 0 c0 sg_0 (C := RX9) (T := TX9) (N := 10) rfl (k_X9_refuse l D cy sz ad n S (-3)) tb_120 tb_122 tp_0 tb_1 tb_123 (nn := 1) (by decide +kernel) ⟨Nat.le_of_ble_eq_true rfl, Nat.le_of_ble_eq_true rfl⟩ rfl hl.1 rfl (Nat.le_of_ble_eq_true rfl) dX9_grid_30 ⟨Nat.zero_le _, Nat.zero_le _⟩ (fun H locs G => ?_)
        exact q_iret E G (by unfold f_X9_grid; simp only [if_pos h1, if_neg h3, if_neg h4, pr_eta]) dX9_grid_33
  · refine q_cSp E G [] (k_X9_isWithin_f l D cy sz ad n S x1 2 h1) tb_117 tb_118 tb_1 tb_119 (nn := 2) (by decide +kernel) ⟨Nat.le_of_ble_eq_true rfl, Nat.le_of_ble_eq_true rfl⟩ rfl hl.1 rfl (Nat.le_of_ble_eq_true rfl) dX9_grid_2 ⟨Nat.zero_le _, Nat.zero_le _⟩ (fun H locs G => ?_)
    refine lv_if_ne (tgt := 15) hx hb dX9_grid_5 (by decide) (fun h => absurd h (by decide)) (fun _ => ?_)
    refine lv_aload_n hx hb dX9_grid_8 rfl (lv_at hl 0 rfl) ?_
    refine lv_bipush (v := (-2)) hx hb dX9_grid_9 (by decide) ?_
    refine q_cV (rest := []) E G 0 0 c0 sg_0 (C := RX9) (T := TX9) (N := 10) rfl (k_X9_refuse l D cy sz ad n S (-2)) tb_120 tb_122 tp_0 tb_1 tb_123 (nn := 1) (by decide +kernel) ⟨Nat.le_of_ble_eq_true rfl, Nat.le_of_ble_eq_true rfl⟩ rfl hl.1 rfl (Nat.le_of_ble_eq_true rfl) dX9_grid_11 ⟨Nat.zero_le _, Nat.zero_le _⟩ (fun H locs G => ?_)
    exact q_iret E G (by unfold f_X9_grid; simp only [if_neg h1, pr_eta]) dX9_grid_14

def f_X9_strike (S : SS) (x1 : Int32) (x2 : Int32) : Int32 × SS := if wi x1 2 = true then (if (pA S 12 x1.toNatClampNeg x2) = 0 then (if (f_X5_vanish S 14 (8 * x1.toNatClampNeg + x2.toNatClampNeg)).1 = 0 then (f_X9_done ((f_X5_vanish S 14 (8 * x1.toNatClampNeg + x2.toNatClampNeg)).2) 0) else (f_X9_done ((f_X5_vanish S 14 (8 * x1.toNatClampNeg + x2.toNatClampNeg)).2) 1)) else (f_X9_fail S (pA S 12 x1.toNatClampNeg x2))) else (f_X9_refuse S (-2))
set_option maxHeartbeats 4000000 in
set_option maxRecDepth 100000 in
theorem k_X9_strike (l : Launch) (D : va_G) (cy : Nat → ClassId) (sz : Nat) (ad : Nat → Nat → Nat) (n : Nat) (S : SS) (ok : okC n S) (x1 : Int32) (x2 : Int32) : CI l yX9_strike cX9_strike 5 (some .int) 2 42 [.ref (ad 0 0), .int x1, .int x2] D cy sz ad n S (f_X9_strike S x1 x2) := by
  refine Met.enter (by decide) (Nat.le_of_ble_eq_true rfl) (fun p e s m args below meth c ls E G hl => ?_)
  have E : En p s m args meth c cX9_strike 5 (some .int) RX9 D cy sz := E
  obtain ⟨hx, hb, hrt, hml, hown, hw, hlk, hK, hF, hsz⟩ := id E
  have hl : lv_has ls 5 [(0, .ref (ad 0 0)), (1, .int x1), (2, .int x2)] := hl
  refine lv_iload_n hx hb dX9_strike_0 rfl (lv_at hl 1 rfl) ?_
  refine lv_iconst (v := 2) hx hb dX9_strike_1 (by decide) ?_
  by_cases h1 : wi x1 2 = true
  · have v2 : vp_in x1 2 := wi_in h1 (by decide) (by decide)
    refine q_cSp E G [] (k_X9_isWithin_t l D cy sz ad n S x1 2 h1) tb_117 tb_118 tb_1 tb_119 (nn := 2) (by decide +kernel) ⟨Nat.le_of_ble_eq_true rfl, Nat.le_of_ble_eq_true rfl⟩ rfl hl.1 rfl (Nat.le_of_ble_eq_true rfl) dX9_strike_2 ⟨Nat.zero_le _, Nat.zero_le _⟩ (fun H locs G => ?_)
    refine lv_if_ne (tgt := 15) hx hb dX9_strike_5 (by decide) (fun _ => ?_) (fun h => absurd h (by decide))
    refine lv_aload_n hx hb dX9_strike_15 rfl (lv_at hl 0 rfl) ?_
    refine q_get (index := 29) (ref := "ToolRoom") E G inX9 0 0 c0 sg_0 rfl 3 (by decide) tb_85 (Or.inl rfl) rfl dX9_strike_16 ?_
    refine lv_iload_n hx hb dX9_strike_19 rfl (lv_at hl 1 rfl) ?_
    refine q_aald (C := "ToolRoom$Grid") E G 4 0 c4 sa_4 5 rfl v2 dX9_strike_20 ?_
    refine lv_astore_n (lv' := [(3, .ref (ad 12 x1.toNatClampNeg)), (0, .ref (ad 0 0)), (1, .int x1), (2, .int x2)]) hx hb dX9_strike_21 rfl hl (by decide) rfl (fun ls hl => ?_)
    refine lv_aload_n hx hb dX9_strike_22 rfl (lv_at hl 0 rfl) ?_
    refine lv_iload_n hx hb dX9_strike_23 rfl (lv_at hl 3 rfl) ?_
    refine q_cSp E G [] (k_X9_failureAt l D cy sz ad n S 12 x1.toNatClampNeg (Or.inr (Or.inr (Or.inl rfl))) (c12 (vp_lt v2)) x2) tb_302 tb_303 tb_1 tb_304 (nn := 2) (by decide +kernel) ⟨Nat.le_of_ble_eq_true rfl, Nat.le_of_ble_eq_true rfl⟩ rfl hl.1 rfl (Nat.le_of_ble_eq_true rfl) dX9_strike_24 ⟨Nat.zero_le _, Nat.zero_le _⟩ (fun H locs G => ?_)
    refine lv_istore (lv' := [(4, .int (pA S 12 x1.toNatClampNeg x2)), (3, .ref (ad 12 x1.toNatClampNeg)), (0, .ref (ad 0 0)), (1, .int x1), (2, .int x2)]) hx hb dX9_strike_27 hl (by decide) rfl (fun ls hl => ?_)
    refine lv_iload hx hb dX9_strike_29 (lv_at hl 0 rfl) ?_
    refine lv_if_eq (tgt := 41) hx hb dX9_strike_31 (by decide) (fun h3 => ?_) (fun h3 => ?_)
    · have v4 : vp_in x2 8 := wi_le (pA_0 h3) (ok.2.2.2.1 _ (vp_lt v2)) (by decide)
      have v5 : 8 * x1.toNatClampNeg + x2.toNatClampNeg < 16 := by have := vp_lt v2; have := vp_lt v4; omega
      refine lv_aload_n hx hb dX9_strike_41 rfl (lv_at hl 2 rfl) ?_
      refine lv_aload_n hx hb dX9_strike_42 rfl (lv_at hl 1 rfl) ?_
      refine q_get (index := 166) (ref := "ToolRoom$Grid") E G inX3 12 x1.toNatClampNeg (c12 (vp_lt v2)) sg_12 rfl 1 (by decide) tb_77 (Or.inl rfl) rfl dX9_strike_43 ?_
      refine lv_iload_n hx hb dX9_strike_46 rfl (lv_at hl 4 rfl) ?_
      refine q_aald (C := "ToolRoom$Row") E G 13 x1.toNatClampNeg (c13 (vp_lt v2)) sa_13 3 rfl v4 dX9_strike_47 ?_
      refine q_cU (x := ⟨"ToolRoom$Row", "vanish", "()Z"⟩) (owner := "ToolRoom$Holder") (rest := [.ref (ad 0 0)]) E G 14 (8 * x1.toNatClampNeg + x2.toNatClampNeg) (c14 v5) rfl (C := RX7) (T := TX7) (N := 2) rfl (k_X5_vanish l D cy sz ad n S 14 (8 * x1.toNatClampNeg + x2.toNatClampNeg) (Or.inr (Or.inr (Or.inr rfl))) (c14 v5)) tb_380 tb_381 tb_383 tb_329 tb_2 tb_334 rfl (nn := 0) (by decide +kernel) ⟨Nat.le_of_ble_eq_true rfl, Nat.le_of_ble_eq_true rfl⟩ rfl hl.1 rfl (Nat.le_of_ble_eq_true rfl) dX9_strike_48 ⟨Nat.zero_le _, Nat.zero_le _⟩ (fun H locs G => ?_)
      refine lv_if_eq (tgt := 58) hx hb dX9_strike_51 (by decide) (fun h6 => ?_) (fun h6 => ?_)
      · refine lv_iconst (v := 0) hx hb dX9_strike_58 (by decide) ?_
        refine q_cV (rest := []) E G 0 0 c0 sg_0 (C := RX9) (T := TX9) (N := 10) rfl (k_X9_done l D cy sz ad n ((f_X5_vanish S 14 (8 * x1.toNatClampNeg + x2.toNatClampNeg)).2) 0) tb_192 tb_194 tp_1 tb_1 tb_195 (nn := 1) (by decide +kernel) ⟨Nat.le_of_ble_eq_true rfl, Nat.le_of_ble_eq_true rfl⟩ rfl hl.1 rfl (Nat.le_of_ble_eq_true rfl) dX9_strike_59 ⟨Nat.zero_le _, Nat.zero_le _⟩ (fun H locs G => ?_)
        exact q_iret E G (by unfold f_X9_strike; simp only [if_pos h1, if_pos h3, if_pos h6, pr_eta]) dX9_strike_62
      · refine lv_iconst (v := 1) hx hb dX9_strike_54 (by decide) ?_
        refine lv_goto (tgt := 59) hx hb dX9_strike_55 (by decide) ?_
        refine q_cV (rest := []) E G 0 0 c0 sg_0 (C := RX9) (T := TX9) (N := 10) rfl (k_X9_done l D cy sz ad n ((f_X5_vanish S 14 (8 * x1.toNatClampNeg + x2.toNatClampNeg)).2) 1) tb_192 tb_194 tp_1 tb_1 tb_195 (nn := 1) (by decide +kernel) ⟨Nat.le_of_ble_eq_true rfl, Nat.le_of_ble_eq_true rfl⟩ rfl hl.1 rfl (Nat.le_of_ble_eq_true rfl) dX9_strike_59 ⟨Nat.zero_le _, Nat.zero_le _⟩ (fun H locs G => ?_)
        exact q_iret E G (by unfold f_X9_strike; simp only [if_pos h1, if_pos h3, if_neg h6, pr_eta]) dX9_strike_62
    · refine lv_aload_n hx hb dX9_strike_34 rfl (lv_at hl 2 rfl) ?_
      refine lv_iload hx hb dX9_strike_35 (lv_at hl 0 rfl) ?_
      refine q_cV (rest := []) E G 0 0 c0 sg_0 (C := RX9) (T := TX9) (N := 10) rfl (k_X9_fail l D cy sz ad n S (pA S 12 x1.toNatClampNeg x2) pA_in) tb_227 tb_229 tp_2 tb_1 tb_230 (nn := 1) (by decide +kernel) ⟨Nat.le_of_ble_eq_true rfl, Nat.le_of_ble_eq_true rfl⟩ rfl hl.1 rfl (Nat.le_of_ble_eq_true rfl) dX9_strike_37 ⟨Nat.zero_le _, Nat.zero_le _⟩ (fun H locs G => ?_)
      exact q_iret E G (by unfold f_X9_strike; simp only [if_pos h1, if_neg h3, pr_eta]) dX9_strike_40
  · refine q_cSp E G [] (k_X9_isWithin_f l D cy sz ad n S x1 2 h1) tb_117 tb_118 tb_1 tb_119 (nn := 2) (by decide +kernel) ⟨Nat.le_of_ble_eq_true rfl, Nat.le_of_ble_eq_true rfl⟩ rfl hl.1 rfl (Nat.le_of_ble_eq_true rfl) dX9_strike_2 ⟨Nat.zero_le _, Nat.zero_le _⟩ (fun H locs G => ?_)
    refine lv_if_ne (tgt := 15) hx hb dX9_strike_5 (by decide) (fun h => absurd h (by decide)) (fun _ => ?_)
    refine lv_aload_n hx hb dX9_strike_8 rfl (lv_at hl 0 rfl) ?_
    refine lv_bipush (v := (-2)) hx hb dX9_strike_9 (by decide) ?_
    refine q_cV (rest := []) E G 0 0 c0 sg_0 (C := RX9) (T := TX9) (N := 10) rfl (k_X9_refuse l D cy sz ad n S (-2)) tb_120 tb_122 tp_0 tb_1 tb_123 (nn := 1) (by decide +kernel) ⟨Nat.le_of_ble_eq_true rfl, Nat.le_of_ble_eq_true rfl⟩ rfl hl.1 rfl (Nat.le_of_ble_eq_true rfl) dX9_strike_11 ⟨Nat.zero_le _, Nat.zero_le _⟩ (fun H locs G => ?_)
    exact q_iret E G (by unfold f_X9_strike; simp only [if_neg h1, pr_eta]) dX9_strike_14

def f_X9_mark (S : SS) (x1 : Int32) (x2 : Int32) (x3 : Int32) (x4 : Int32) : Int32 × SS := if wi x1 2 = true then (if (pC S x1.toNatClampNeg x2 x3) = 0 then (f_X9_done (uI S 15 (8 * x1.toNatClampNeg + x2.toNatClampNeg) x3.toNatClampNeg x4) 1) else (f_X9_fail S (pC S x1.toNatClampNeg x2 x3))) else (f_X9_refuse S (-2))
set_option maxHeartbeats 4000000 in
set_option maxRecDepth 100000 in
theorem k_X9_mark (l : Launch) (D : va_G) (cy : Nat → ClassId) (sz : Nat) (ad : Nat → Nat → Nat) (n : Nat) (S : SS) (ok : okC n S) (x1 : Int32) (x2 : Int32) (x3 : Int32) (x4 : Int32) : CI l yX9_mark cX9_mark 7 (some .int) 3 65 [.ref (ad 0 0), .int x1, .int x2, .int x3, .int x4] D cy sz ad n S (f_X9_mark S x1 x2 x3 x4) := by
  refine Met.enter (by decide) (Nat.le_of_ble_eq_true rfl) (fun p e s m args below meth c ls E G hl => ?_)
  have E : En p s m args meth c cX9_mark 7 (some .int) RX9 D cy sz := E
  obtain ⟨hx, hb, hrt, hml, hown, hw, hlk, hK, hF, hsz⟩ := id E
  have hl : lv_has ls 7 [(0, .ref (ad 0 0)), (1, .int x1), (2, .int x2), (3, .int x3), (4, .int x4)] := hl
  refine lv_iload_n hx hb dX9_mark_0 rfl (lv_at hl 1 rfl) ?_
  refine lv_iconst (v := 2) hx hb dX9_mark_1 (by decide) ?_
  by_cases h1 : wi x1 2 = true
  · have v2 : vp_in x1 2 := wi_in h1 (by decide) (by decide)
    refine q_cSp E G [] (k_X9_isWithin_t l D cy sz ad n S x1 2 h1) tb_117 tb_118 tb_1 tb_119 (nn := 2) (by decide +kernel) ⟨Nat.le_of_ble_eq_true rfl, Nat.le_of_ble_eq_true rfl⟩ rfl hl.1 rfl (Nat.le_of_ble_eq_true rfl) dX9_mark_2 ⟨Nat.zero_le _, Nat.zero_le _⟩ (fun H locs G => ?_)
    refine lv_if_ne (tgt := 15) hx hb dX9_mark_5 (by decide) (fun _ => ?_) (fun h => absurd h (by decide))
    refine lv_aload_n hx hb dX9_mark_15 rfl (lv_at hl 0 rfl) ?_
    refine q_get (index := 29) (ref := "ToolRoom") E G inX9 0 0 c0 sg_0 rfl 3 (by decide) tb_85 (Or.inl rfl) rfl dX9_mark_16 ?_
    refine lv_iload_n hx hb dX9_mark_19 rfl (lv_at hl 1 rfl) ?_
    refine q_aald (C := "ToolRoom$Grid") E G 4 0 c4 sa_4 5 rfl v2 dX9_mark_20 ?_
    refine lv_astore (lv' := [(5, .ref (ad 12 x1.toNatClampNeg)), (0, .ref (ad 0 0)), (1, .int x1), (2, .int x2), (3, .int x3), (4, .int x4)]) hx hb dX9_mark_21 hl (by decide) rfl (fun ls hl => ?_)
    refine lv_aload hx hb dX9_mark_23 (lv_at hl 0 rfl) ?_
    refine lv_iload_n hx hb dX9_mark_25 rfl (lv_at hl 3 rfl) ?_
    refine lv_iload_n hx hb dX9_mark_26 rfl (lv_at hl 4 rfl) ?_
    refine q_cSp E G [] (k_X9_failureAtCell l D cy sz ad n S ok x1.toNatClampNeg (vp_lt v2) x2 x3) tb_388 tb_389 tb_1 tb_390 (nn := 3) (by decide +kernel) ⟨Nat.le_of_ble_eq_true rfl, Nat.le_of_ble_eq_true rfl⟩ rfl hl.1 rfl (Nat.le_of_ble_eq_true rfl) dX9_mark_27 ⟨Nat.zero_le _, Nat.zero_le _⟩ (fun H locs G => ?_)
    refine lv_istore (lv' := [(6, .int (pC S x1.toNatClampNeg x2 x3)), (5, .ref (ad 12 x1.toNatClampNeg)), (0, .ref (ad 0 0)), (1, .int x1), (2, .int x2), (3, .int x3), (4, .int x4)]) hx hb dX9_mark_30 hl (by decide) rfl (fun ls hl => ?_)
    refine lv_iload hx hb dX9_mark_32 (lv_at hl 0 rfl) ?_
    refine lv_if_eq (tgt := 44) hx hb dX9_mark_34 (by decide) (fun h3 => ?_) (fun h3 => ?_)
    · have v4 : vp_in x2 8 := wi_le (pA_0 (pC_0a h3)) (ok.2.2.2.1 _ (vp_lt v2)) (by decide)
      have v5 : 8 * x1.toNatClampNeg + x2.toNatClampNeg < 16 := by have := vp_lt v2; have := vp_lt v4; omega
      have v6 : vp_in x3 8 := wi_le (pA_0 (pC_0b h3)) (ok.2.2.2.2 _ v5) (by decide)
      refine lv_aload hx hb dX9_mark_44 (lv_at hl 1 rfl) ?_
      refine q_get (index := 166) (ref := "ToolRoom$Grid") E G inX3 12 x1.toNatClampNeg (c12 (vp_lt v2)) sg_12 rfl 1 (by decide) tb_77 (Or.inl rfl) rfl dX9_mark_46 ?_
      refine lv_iload_n hx hb dX9_mark_49 rfl (lv_at hl 4 rfl) ?_
      refine q_aald (C := "ToolRoom$Row") E G 13 x1.toNatClampNeg (c13 (vp_lt v2)) sa_13 3 rfl v4 dX9_mark_50 ?_
      refine q_get (index := 120) (ref := "ToolRoom$Row") E G inX7 14 (8 * x1.toNatClampNeg + x2.toNatClampNeg) (c14 v5) sg_14 rfl 1 (by decide) tb_37 (Or.inl rfl) rfl dX9_mark_51 ?_
      refine lv_iload_n hx hb dX9_mark_54 rfl (lv_at hl 5 rfl) ?_
      refine lv_iload hx hb dX9_mark_55 (lv_at hl 6 rfl) ?_
      refine q_iast E G 15 (8 * x1.toNatClampNeg + x2.toNatClampNeg) (c15 v5) (fun _ => sa_15) v6 dX9_mark_57 (fun H locs G => ?_)
      refine lv_aload_n hx hb dX9_mark_58 rfl (lv_at hl 2 rfl) ?_
      refine lv_iconst (v := 1) hx hb dX9_mark_59 (by decide) ?_
      refine q_cV (rest := []) E G 0 0 c0 sg_0 (C := RX9) (T := TX9) (N := 10) rfl (k_X9_done l D cy sz ad n (uI S 15 (8 * x1.toNatClampNeg + x2.toNatClampNeg) x3.toNatClampNeg x4) 1) tb_192 tb_194 tp_1 tb_1 tb_195 (nn := 1) (by decide +kernel) ⟨Nat.le_of_ble_eq_true rfl, Nat.le_of_ble_eq_true rfl⟩ rfl hl.1 rfl (Nat.le_of_ble_eq_true rfl) dX9_mark_60 ⟨Nat.zero_le _, Nat.zero_le _⟩ (fun H locs G => ?_)
      exact q_iret E G (by unfold f_X9_mark; simp only [if_pos h1, if_pos h3, pr_eta]) dX9_mark_63
    · refine lv_aload_n hx hb dX9_mark_37 rfl (lv_at hl 2 rfl) ?_
      refine lv_iload hx hb dX9_mark_38 (lv_at hl 0 rfl) ?_
      refine q_cV (rest := []) E G 0 0 c0 sg_0 (C := RX9) (T := TX9) (N := 10) rfl (k_X9_fail l D cy sz ad n S (pC S x1.toNatClampNeg x2 x3) pC_in) tb_227 tb_229 tp_2 tb_1 tb_230 (nn := 1) (by decide +kernel) ⟨Nat.le_of_ble_eq_true rfl, Nat.le_of_ble_eq_true rfl⟩ rfl hl.1 rfl (Nat.le_of_ble_eq_true rfl) dX9_mark_40 ⟨Nat.zero_le _, Nat.zero_le _⟩ (fun H locs G => ?_)
      exact q_iret E G (by unfold f_X9_mark; simp only [if_pos h1, if_neg h3, pr_eta]) dX9_mark_43
  · refine q_cSp E G [] (k_X9_isWithin_f l D cy sz ad n S x1 2 h1) tb_117 tb_118 tb_1 tb_119 (nn := 2) (by decide +kernel) ⟨Nat.le_of_ble_eq_true rfl, Nat.le_of_ble_eq_true rfl⟩ rfl hl.1 rfl (Nat.le_of_ble_eq_true rfl) dX9_mark_2 ⟨Nat.zero_le _, Nat.zero_le _⟩ (fun H locs G => ?_)
    refine lv_if_ne (tgt := 15) hx hb dX9_mark_5 (by decide) (fun h => absurd h (by decide)) (fun _ => ?_)
    refine lv_aload_n hx hb dX9_mark_8 rfl (lv_at hl 0 rfl) ?_
    refine lv_bipush (v := (-2)) hx hb dX9_mark_9 (by decide) ?_
    refine q_cV (rest := []) E G 0 0 c0 sg_0 (C := RX9) (T := TX9) (N := 10) rfl (k_X9_refuse l D cy sz ad n S (-2)) tb_120 tb_122 tp_0 tb_1 tb_123 (nn := 1) (by decide +kernel) ⟨Nat.le_of_ble_eq_true rfl, Nat.le_of_ble_eq_true rfl⟩ rfl hl.1 rfl (Nat.le_of_ble_eq_true rfl) dX9_mark_11 ⟨Nat.zero_le _, Nat.zero_le _⟩ (fun H locs G => ?_)
    exact q_iret E G (by unfold f_X9_mark; simp only [if_neg h1, pr_eta]) dX9_mark_14

def f_X9_cell (S : SS) (x1 : Int32) (x2 : Int32) (x3 : Int32) : Int32 × SS := if wi x1 2 = true then (if (pC S x1.toNatClampNeg x2 x3) = 0 then (f_X9_done S (S.1 15 (8 * x1.toNatClampNeg + x2.toNatClampNeg) x3.toNatClampNeg)) else (f_X9_failWithZero S (pC S x1.toNatClampNeg x2 x3))) else (f_X9_refuseWithZero S (-2))
set_option maxHeartbeats 4000000 in
set_option maxRecDepth 100000 in
theorem k_X9_cell (l : Launch) (D : va_G) (cy : Nat → ClassId) (sz : Nat) (ad : Nat → Nat → Nat) (n : Nat) (S : SS) (ok : okC n S) (x1 : Int32) (x2 : Int32) (x3 : Int32) : CI l yX9_cell cX9_cell 6 (some .int) 3 65 [.ref (ad 0 0), .int x1, .int x2, .int x3] D cy sz ad n S (f_X9_cell S x1 x2 x3) := by
  refine Met.enter (by decide) (Nat.le_of_ble_eq_true rfl) (fun p e s m args below meth c ls E G hl => ?_)
  have E : En p s m args meth c cX9_cell 6 (some .int) RX9 D cy sz := E
  obtain ⟨hx, hb, hrt, hml, hown, hw, hlk, hK, hF, hsz⟩ := id E
  have hl : lv_has ls 6 [(0, .ref (ad 0 0)), (1, .int x1), (2, .int x2), (3, .int x3)] := hl
  refine lv_iload_n hx hb dX9_cell_0 rfl (lv_at hl 1 rfl) ?_
  refine lv_iconst (v := 2) hx hb dX9_cell_1 (by decide) ?_
  by_cases h1 : wi x1 2 = true
  · have v2 : vp_in x1 2 := wi_in h1 (by decide) (by decide)
    refine q_cSp E G [] (k_X9_isWithin_t l D cy sz ad n S x1 2 h1) tb_117 tb_118 tb_1 tb_119 (nn := 2) (by decide +kernel) ⟨Nat.le_of_ble_eq_true rfl, Nat.le_of_ble_eq_true rfl⟩ rfl hl.1 rfl (Nat.le_of_ble_eq_true rfl) dX9_cell_2 ⟨Nat.zero_le _, Nat.zero_le _⟩ (fun H locs G => ?_)
    refine lv_if_ne (tgt := 15) hx hb dX9_cell_5 (by decide) (fun _ => ?_) (fun h => absurd h (by decide))
    refine lv_aload_n hx hb dX9_cell_15 rfl (lv_at hl 0 rfl) ?_
    refine q_get (index := 29) (ref := "ToolRoom") E G inX9 0 0 c0 sg_0 rfl 3 (by decide) tb_85 (Or.inl rfl) rfl dX9_cell_16 ?_
    refine lv_iload_n hx hb dX9_cell_19 rfl (lv_at hl 1 rfl) ?_
    refine q_aald (C := "ToolRoom$Grid") E G 4 0 c4 sa_4 5 rfl v2 dX9_cell_20 ?_
    refine lv_astore (lv' := [(4, .ref (ad 12 x1.toNatClampNeg)), (0, .ref (ad 0 0)), (1, .int x1), (2, .int x2), (3, .int x3)]) hx hb dX9_cell_21 hl (by decide) rfl (fun ls hl => ?_)
    refine lv_aload hx hb dX9_cell_23 (lv_at hl 0 rfl) ?_
    refine lv_iload_n hx hb dX9_cell_25 rfl (lv_at hl 3 rfl) ?_
    refine lv_iload_n hx hb dX9_cell_26 rfl (lv_at hl 4 rfl) ?_
    refine q_cSp E G [] (k_X9_failureAtCell l D cy sz ad n S ok x1.toNatClampNeg (vp_lt v2) x2 x3) tb_388 tb_389 tb_1 tb_390 (nn := 3) (by decide +kernel) ⟨Nat.le_of_ble_eq_true rfl, Nat.le_of_ble_eq_true rfl⟩ rfl hl.1 rfl (Nat.le_of_ble_eq_true rfl) dX9_cell_27 ⟨Nat.zero_le _, Nat.zero_le _⟩ (fun H locs G => ?_)
    refine lv_istore (lv' := [(5, .int (pC S x1.toNatClampNeg x2 x3)), (4, .ref (ad 12 x1.toNatClampNeg)), (0, .ref (ad 0 0)), (1, .int x1), (2, .int x2), (3, .int x3)]) hx hb dX9_cell_30 hl (by decide) rfl (fun ls hl => ?_)
    refine lv_iload hx hb dX9_cell_32 (lv_at hl 0 rfl) ?_
    refine lv_if_eq (tgt := 44) hx hb dX9_cell_34 (by decide) (fun h3 => ?_) (fun h3 => ?_)
    · have v4 : vp_in x2 8 := wi_le (pA_0 (pC_0a h3)) (ok.2.2.2.1 _ (vp_lt v2)) (by decide)
      have v5 : 8 * x1.toNatClampNeg + x2.toNatClampNeg < 16 := by have := vp_lt v2; have := vp_lt v4; omega
      have v6 : vp_in x3 8 := wi_le (pA_0 (pC_0b h3)) (ok.2.2.2.2 _ v5) (by decide)
      refine lv_aload_n hx hb dX9_cell_44 rfl (lv_at hl 2 rfl) ?_
      refine lv_aload hx hb dX9_cell_45 (lv_at hl 1 rfl) ?_
      refine q_get (index := 166) (ref := "ToolRoom$Grid") E G inX3 12 x1.toNatClampNeg (c12 (vp_lt v2)) sg_12 rfl 1 (by decide) tb_77 (Or.inl rfl) rfl dX9_cell_47 ?_
      refine lv_iload_n hx hb dX9_cell_50 rfl (lv_at hl 4 rfl) ?_
      refine q_aald (C := "ToolRoom$Row") E G 13 x1.toNatClampNeg (c13 (vp_lt v2)) sa_13 3 rfl v4 dX9_cell_51 ?_
      refine q_get (index := 120) (ref := "ToolRoom$Row") E G inX7 14 (8 * x1.toNatClampNeg + x2.toNatClampNeg) (c14 v5) sg_14 rfl 1 (by decide) tb_37 (Or.inl rfl) rfl dX9_cell_52 ?_
      refine lv_iload_n hx hb dX9_cell_55 rfl (lv_at hl 5 rfl) ?_
      refine q_iald E G 15 (8 * x1.toNatClampNeg + x2.toNatClampNeg) (c15 v5) sa_15 v6 dX9_cell_56 ?_
      refine q_cV (rest := []) E G 0 0 c0 sg_0 (C := RX9) (T := TX9) (N := 10) rfl (k_X9_done l D cy sz ad n S (S.1 15 (8 * x1.toNatClampNeg + x2.toNatClampNeg) x3.toNatClampNeg)) tb_192 tb_194 tp_1 tb_1 tb_195 (nn := 1) (by decide +kernel) ⟨Nat.le_of_ble_eq_true rfl, Nat.le_of_ble_eq_true rfl⟩ rfl hl.1 rfl (Nat.le_of_ble_eq_true rfl) dX9_cell_57 ⟨Nat.zero_le _, Nat.zero_le _⟩ (fun H locs G => ?_)
      exact q_iret E G (by unfold f_X9_cell; simp only [if_pos h1, if_pos h3, pr_eta]) dX9_cell_60
    · refine lv_aload_n hx hb dX9_cell_37 rfl (lv_at hl 2 rfl) ?_
      refine lv_iload hx hb dX9_cell_38 (lv_at hl 0 rfl) ?_
      refine q_cV (rest := []) E G 0 0 c0 sg_0 (C := RX9) (T := TX9) (N := 10) rfl (k_X9_failWithZero l D cy sz ad n S (pC S x1.toNatClampNeg x2 x3) pC_in) tb_247 tb_249 tp_4 tb_1 tb_250 (nn := 1) (by decide +kernel) ⟨Nat.le_of_ble_eq_true rfl, Nat.le_of_ble_eq_true rfl⟩ rfl hl.1 rfl (Nat.le_of_ble_eq_true rfl) dX9_cell_40 ⟨Nat.zero_le _, Nat.zero_le _⟩ (fun H locs G => ?_)
      exact q_iret E G (by unfold f_X9_cell; simp only [if_pos h1, if_neg h3, pr_eta]) dX9_cell_43
  · refine q_cSp E G [] (k_X9_isWithin_f l D cy sz ad n S x1 2 h1) tb_117 tb_118 tb_1 tb_119 (nn := 2) (by decide +kernel) ⟨Nat.le_of_ble_eq_true rfl, Nat.le_of_ble_eq_true rfl⟩ rfl hl.1 rfl (Nat.le_of_ble_eq_true rfl) dX9_cell_2 ⟨Nat.zero_le _, Nat.zero_le _⟩ (fun H locs G => ?_)
    refine lv_if_ne (tgt := 15) hx hb dX9_cell_5 (by decide) (fun h => absurd h (by decide)) (fun _ => ?_)
    refine lv_aload_n hx hb dX9_cell_8 rfl (lv_at hl 0 rfl) ?_
    refine lv_bipush (v := (-2)) hx hb dX9_cell_9 (by decide) ?_
    refine q_cV (rest := []) E G 0 0 c0 sg_0 (C := RX9) (T := TX9) (N := 10) rfl (k_X9_refuseWithZero l D cy sz ad n S (-2)) tb_243 tb_245 tp_3 tb_1 tb_246 (nn := 1) (by decide +kernel) ⟨Nat.le_of_ble_eq_true rfl, Nat.le_of_ble_eq_true rfl⟩ rfl hl.1 rfl (Nat.le_of_ble_eq_true rfl) dX9_cell_11 ⟨Nat.zero_le _, Nat.zero_le _⟩ (fun H locs G => ?_)
    exact q_iret E G (by unfold f_X9_cell; simp only [if_neg h1, pr_eta]) dX9_cell_14

def f_X9_alarm (S : SS) (x1 : Int32) (x2 : Int32) : Int32 × SS := if wi x1 4 = true then (if (S.1 5 0 x1.toNatClampNeg) = 0 then (f_X9_done (uI (uI S 5 0 x1.toNatClampNeg 1) 6 0 x1.toNatClampNeg x2) 1) else (f_X9_done (uI (uI S 5 0 x1.toNatClampNeg 1) 6 0 x1.toNatClampNeg x2) 0)) else (f_X9_refuse S (-2))
set_option maxHeartbeats 4000000 in
set_option maxRecDepth 100000 in
theorem k_X9_alarm (l : Launch) (D : va_G) (cy : Nat → ClassId) (sz : Nat) (ad : Nat → Nat → Nat) (n : Nat) (S : SS) (ok : okC n S) (x1 : Int32) (x2 : Int32) : CI l yX9_alarm cX9_alarm 4 (some .int) 1 21 [.ref (ad 0 0), .int x1, .int x2] D cy sz ad n S (f_X9_alarm S x1 x2) := by
  refine Met.enter (by decide) (Nat.le_of_ble_eq_true rfl) (fun p e s m args below meth c ls E G hl => ?_)
  have E : En p s m args meth c cX9_alarm 4 (some .int) RX9 D cy sz := E
  obtain ⟨hx, hb, hrt, hml, hown, hw, hlk, hK, hF, hsz⟩ := id E
  have hl : lv_has ls 4 [(0, .ref (ad 0 0)), (1, .int x1), (2, .int x2)] := hl
  refine lv_iload_n hx hb dX9_alarm_0 rfl (lv_at hl 1 rfl) ?_
  refine lv_iconst (v := 4) hx hb dX9_alarm_1 (by decide) ?_
  by_cases h1 : wi x1 4 = true
  · have v2 : vp_in x1 4 := wi_in h1 (by decide) (by decide)
    refine q_cSp E G [] (k_X9_isWithin_t l D cy sz ad n S x1 4 h1) tb_117 tb_118 tb_1 tb_119 (nn := 2) (by decide +kernel) ⟨Nat.le_of_ble_eq_true rfl, Nat.le_of_ble_eq_true rfl⟩ rfl hl.1 rfl (Nat.le_of_ble_eq_true rfl) dX9_alarm_2 ⟨Nat.zero_le _, Nat.zero_le _⟩ (fun H locs G => ?_)
    refine lv_if_ne (tgt := 15) hx hb dX9_alarm_5 (by decide) (fun _ => ?_) (fun h => absurd h (by decide))
    refine lv_aload_n hx hb dX9_alarm_15 rfl (lv_at hl 0 rfl) ?_
    refine q_get (index := 33) (ref := "ToolRoom") E G inX9 0 0 c0 sg_0 rfl 4 (by decide) tb_86 (Or.inl rfl) rfl dX9_alarm_16 ?_
    refine lv_iload_n hx hb dX9_alarm_19 rfl (lv_at hl 1 rfl) ?_
    refine q_zald E G 5 0 c5 sa_5 v2 dX9_alarm_20 ?_
    refine lv_istore_n (lv' := [(3, .int (S.1 5 0 x1.toNatClampNeg)), (0, .ref (ad 0 0)), (1, .int x1), (2, .int x2)]) hx hb dX9_alarm_21 rfl hl (by decide) rfl (fun ls hl => ?_)
    refine lv_aload_n hx hb dX9_alarm_22 rfl (lv_at hl 1 rfl) ?_
    refine q_get (index := 33) (ref := "ToolRoom") E G inX9 0 0 c0 sg_0 rfl 4 (by decide) tb_86 (Or.inl rfl) rfl dX9_alarm_23 ?_
    refine lv_iload_n hx hb dX9_alarm_26 rfl (lv_at hl 2 rfl) ?_
    refine lv_iconst (v := 1) hx hb dX9_alarm_27 (by decide) ?_
    refine q_zast E G 5 0 c5 (fun _ => sa_5) v2 (by decide) dX9_alarm_28 (fun H locs G => ?_)
    refine lv_aload_n hx hb dX9_alarm_29 rfl (lv_at hl 1 rfl) ?_
    refine q_get (index := 37) (ref := "ToolRoom") E G inX9 0 0 c0 sg_0 rfl 5 (by decide) tb_87 (Or.inl rfl) rfl dX9_alarm_30 ?_
    refine lv_iload_n hx hb dX9_alarm_33 rfl (lv_at hl 2 rfl) ?_
    refine lv_iload_n hx hb dX9_alarm_34 rfl (lv_at hl 3 rfl) ?_
    refine q_iast E G 6 0 c6 (fun _ => sa_6) v2 dX9_alarm_35 (fun H locs G => ?_)
    refine lv_aload_n hx hb dX9_alarm_36 rfl (lv_at hl 1 rfl) ?_
    refine lv_iload_n hx hb dX9_alarm_37 rfl (lv_at hl 0 rfl) ?_
    refine lv_if_eq (tgt := 45) hx hb dX9_alarm_38 (by decide) (fun h3 => ?_) (fun h3 => ?_)
    · refine lv_iconst (v := 1) hx hb dX9_alarm_45 (by decide) ?_
      refine q_cV (rest := []) E G 0 0 c0 sg_0 (C := RX9) (T := TX9) (N := 10) rfl (k_X9_done l D cy sz ad n (uI (uI S 5 0 x1.toNatClampNeg 1) 6 0 x1.toNatClampNeg x2) 1) tb_192 tb_194 tp_1 tb_1 tb_195 (nn := 1) (by decide +kernel) ⟨Nat.le_of_ble_eq_true rfl, Nat.le_of_ble_eq_true rfl⟩ rfl hl.1 rfl (Nat.le_of_ble_eq_true rfl) dX9_alarm_46 ⟨Nat.zero_le _, Nat.zero_le _⟩ (fun H locs G => ?_)
      exact q_iret E G (by unfold f_X9_alarm; simp only [if_pos h1, if_pos h3, pr_eta]) dX9_alarm_49
    · refine lv_iconst (v := 0) hx hb dX9_alarm_41 (by decide) ?_
      refine lv_goto (tgt := 46) hx hb dX9_alarm_42 (by decide) ?_
      refine q_cV (rest := []) E G 0 0 c0 sg_0 (C := RX9) (T := TX9) (N := 10) rfl (k_X9_done l D cy sz ad n (uI (uI S 5 0 x1.toNatClampNeg 1) 6 0 x1.toNatClampNeg x2) 0) tb_192 tb_194 tp_1 tb_1 tb_195 (nn := 1) (by decide +kernel) ⟨Nat.le_of_ble_eq_true rfl, Nat.le_of_ble_eq_true rfl⟩ rfl hl.1 rfl (Nat.le_of_ble_eq_true rfl) dX9_alarm_46 ⟨Nat.zero_le _, Nat.zero_le _⟩ (fun H locs G => ?_)
      exact q_iret E G (by unfold f_X9_alarm; simp only [if_pos h1, if_neg h3, pr_eta]) dX9_alarm_49
  · refine q_cSp E G [] (k_X9_isWithin_f l D cy sz ad n S x1 4 h1) tb_117 tb_118 tb_1 tb_119 (nn := 2) (by decide +kernel) ⟨Nat.le_of_ble_eq_true rfl, Nat.le_of_ble_eq_true rfl⟩ rfl hl.1 rfl (Nat.le_of_ble_eq_true rfl) dX9_alarm_2 ⟨Nat.zero_le _, Nat.zero_le _⟩ (fun H locs G => ?_)
    refine lv_if_ne (tgt := 15) hx hb dX9_alarm_5 (by decide) (fun h => absurd h (by decide)) (fun _ => ?_)
    refine lv_aload_n hx hb dX9_alarm_8 rfl (lv_at hl 0 rfl) ?_
    refine lv_bipush (v := (-2)) hx hb dX9_alarm_9 (by decide) ?_
    refine q_cV (rest := []) E G 0 0 c0 sg_0 (C := RX9) (T := TX9) (N := 10) rfl (k_X9_refuse l D cy sz ad n S (-2)) tb_120 tb_122 tp_0 tb_1 tb_123 (nn := 1) (by decide +kernel) ⟨Nat.le_of_ble_eq_true rfl, Nat.le_of_ble_eq_true rfl⟩ rfl hl.1 rfl (Nat.le_of_ble_eq_true rfl) dX9_alarm_11 ⟨Nat.zero_le _, Nat.zero_le _⟩ (fun H locs G => ?_)
    exact q_iret E G (by unfold f_X9_alarm; simp only [if_neg h1, pr_eta]) dX9_alarm_14

def f_X9_calm (S : SS) (x1 : Int32) : Int32 × SS := if wi x1 4 = true then (if (S.1 5 0 x1.toNatClampNeg) = 0 then (f_X9_done (uI S 5 0 x1.toNatClampNeg 0) 0) else (f_X9_done (uI S 5 0 x1.toNatClampNeg 0) 1)) else (f_X9_refuse S (-2))
set_option maxHeartbeats 4000000 in
set_option maxRecDepth 100000 in
theorem k_X9_calm (l : Launch) (D : va_G) (cy : Nat → ClassId) (sz : Nat) (ad : Nat → Nat → Nat) (n : Nat) (S : SS) (ok : okC n S) (x1 : Int32) : CI l yX9_calm cX9_calm 3 (some .int) 1 21 [.ref (ad 0 0), .int x1] D cy sz ad n S (f_X9_calm S x1) := by
  refine Met.enter (by decide) (Nat.le_of_ble_eq_true rfl) (fun p e s m args below meth c ls E G hl => ?_)
  have E : En p s m args meth c cX9_calm 3 (some .int) RX9 D cy sz := E
  obtain ⟨hx, hb, hrt, hml, hown, hw, hlk, hK, hF, hsz⟩ := id E
  have hl : lv_has ls 3 [(0, .ref (ad 0 0)), (1, .int x1)] := hl
  refine lv_iload_n hx hb dX9_calm_0 rfl (lv_at hl 1 rfl) ?_
  refine lv_iconst (v := 4) hx hb dX9_calm_1 (by decide) ?_
  by_cases h1 : wi x1 4 = true
  · have v2 : vp_in x1 4 := wi_in h1 (by decide) (by decide)
    refine q_cSp E G [] (k_X9_isWithin_t l D cy sz ad n S x1 4 h1) tb_117 tb_118 tb_1 tb_119 (nn := 2) (by decide +kernel) ⟨Nat.le_of_ble_eq_true rfl, Nat.le_of_ble_eq_true rfl⟩ rfl hl.1 rfl (Nat.le_of_ble_eq_true rfl) dX9_calm_2 ⟨Nat.zero_le _, Nat.zero_le _⟩ (fun H locs G => ?_)
    refine lv_if_ne (tgt := 15) hx hb dX9_calm_5 (by decide) (fun _ => ?_) (fun h => absurd h (by decide))
    refine lv_aload_n hx hb dX9_calm_15 rfl (lv_at hl 0 rfl) ?_
    refine q_get (index := 33) (ref := "ToolRoom") E G inX9 0 0 c0 sg_0 rfl 4 (by decide) tb_86 (Or.inl rfl) rfl dX9_calm_16 ?_
    refine lv_iload_n hx hb dX9_calm_19 rfl (lv_at hl 1 rfl) ?_
    refine q_zald E G 5 0 c5 sa_5 v2 dX9_calm_20 ?_
    refine lv_istore_n (lv' := [(2, .int (S.1 5 0 x1.toNatClampNeg)), (0, .ref (ad 0 0)), (1, .int x1)]) hx hb dX9_calm_21 rfl hl (by decide) rfl (fun ls hl => ?_)
    refine lv_aload_n hx hb dX9_calm_22 rfl (lv_at hl 1 rfl) ?_
    refine q_get (index := 33) (ref := "ToolRoom") E G inX9 0 0 c0 sg_0 rfl 4 (by decide) tb_86 (Or.inl rfl) rfl dX9_calm_23 ?_
    refine lv_iload_n hx hb dX9_calm_26 rfl (lv_at hl 2 rfl) ?_
    refine lv_iconst (v := 0) hx hb dX9_calm_27 (by decide) ?_
    refine q_zast E G 5 0 c5 (fun _ => sa_5) v2 (by decide) dX9_calm_28 (fun H locs G => ?_)
    refine lv_aload_n hx hb dX9_calm_29 rfl (lv_at hl 1 rfl) ?_
    refine lv_iload_n hx hb dX9_calm_30 rfl (lv_at hl 0 rfl) ?_
    refine lv_if_eq (tgt := 38) hx hb dX9_calm_31 (by decide) (fun h3 => ?_) (fun h3 => ?_)
    · refine lv_iconst (v := 0) hx hb dX9_calm_38 (by decide) ?_
      refine q_cV (rest := []) E G 0 0 c0 sg_0 (C := RX9) (T := TX9) (N := 10) rfl (k_X9_done l D cy sz ad n (uI S 5 0 x1.toNatClampNeg 0) 0) tb_192 tb_194 tp_1 tb_1 tb_195 (nn := 1) (by decide +kernel) ⟨Nat.le_of_ble_eq_true rfl, Nat.le_of_ble_eq_true rfl⟩ rfl hl.1 rfl (Nat.le_of_ble_eq_true rfl) dX9_calm_39 ⟨Nat.zero_le _, Nat.zero_le _⟩ (fun H locs G => ?_)
      exact q_iret E G (by unfold f_X9_calm; simp only [if_pos h1, if_pos h3, pr_eta]) dX9_calm_42
    · refine lv_iconst (v := 1) hx hb dX9_calm_34 (by decide) ?_
      refine lv_goto (tgt := 39) hx hb dX9_calm_35 (by decide) ?_
      refine q_cV (rest := []) E G 0 0 c0 sg_0 (C := RX9) (T := TX9) (N := 10) rfl (k_X9_done l D cy sz ad n (uI S 5 0 x1.toNatClampNeg 0) 1) tb_192 tb_194 tp_1 tb_1 tb_195 (nn := 1) (by decide +kernel) ⟨Nat.le_of_ble_eq_true rfl, Nat.le_of_ble_eq_true rfl⟩ rfl hl.1 rfl (Nat.le_of_ble_eq_true rfl) dX9_calm_39 ⟨Nat.zero_le _, Nat.zero_le _⟩ (fun H locs G => ?_)
      exact q_iret E G (by unfold f_X9_calm; simp only [if_pos h1, if_neg h3, pr_eta]) dX9_calm_42
  · refine q_cSp E G [] (k_X9_isWithin_f l D cy sz ad n S x1 4 h1) tb_117 tb_118 tb_1 tb_119 (nn := 2) (by decide +kernel) ⟨Nat.le_of_ble_eq_true rfl, Nat.le_of_ble_eq_true rfl⟩ rfl hl.1 rfl (Nat.le_of_ble_eq_true rfl) dX9_calm_2 ⟨Nat.zero_le _, Nat.zero_le _⟩ (fun H locs G => ?_)
    refine lv_if_ne (tgt := 15) hx hb dX9_calm_5 (by decide) (fun h => absurd h (by decide)) (fun _ => ?_)
    refine lv_aload_n hx hb dX9_calm_8 rfl (lv_at hl 0 rfl) ?_
    refine lv_bipush (v := (-2)) hx hb dX9_calm_9 (by decide) ?_
    refine q_cV (rest := []) E G 0 0 c0 sg_0 (C := RX9) (T := TX9) (N := 10) rfl (k_X9_refuse l D cy sz ad n S (-2)) tb_120 tb_122 tp_0 tb_1 tb_123 (nn := 1) (by decide +kernel) ⟨Nat.le_of_ble_eq_true rfl, Nat.le_of_ble_eq_true rfl⟩ rfl hl.1 rfl (Nat.le_of_ble_eq_true rfl) dX9_calm_11 ⟨Nat.zero_le _, Nat.zero_le _⟩ (fun H locs G => ?_)
    exact q_iret E G (by unfold f_X9_calm; simp only [if_neg h1, pr_eta]) dX9_calm_14

def f_X9_let (S : SS) (x1 : Int32) : Int32 × SS := if wi x1 4 = true then (if (S.1 5 0 x1.toNatClampNeg) = 0 then (f_X9_fail S 1) else ((f_X9_fail S 6).1, (uI ((f_X9_fail S 6).2) 0 0 9 (((f_X9_fail S 6).2).1 6 0 x1.toNatClampNeg)))) else (f_X9_refuse S (-2))
set_option maxHeartbeats 4000000 in
set_option maxRecDepth 100000 in
theorem k_X9_let (l : Launch) (D : va_G) (cy : Nat → ClassId) (sz : Nat) (ad : Nat → Nat → Nat) (n : Nat) (S : SS) (ok : okC n S) (x1 : Int32) : CI l yX9_let cX9_let 3 (some .int) 2 42 [.ref (ad 0 0), .int x1] D cy sz ad n S (f_X9_let S x1) := by
  refine Met.enter (by decide) (Nat.le_of_ble_eq_true rfl) (fun p e s m args below meth c ls E G hl => ?_)
  have E : En p s m args meth c cX9_let 3 (some .int) RX9 D cy sz := E
  obtain ⟨hx, hb, hrt, hml, hown, hw, hlk, hK, hF, hsz⟩ := id E
  have hl : lv_has ls 3 [(0, .ref (ad 0 0)), (1, .int x1)] := hl
  refine lv_iload_n hx hb dX9_let_0 rfl (lv_at hl 1 rfl) ?_
  refine lv_iconst (v := 4) hx hb dX9_let_1 (by decide) ?_
  by_cases h1 : wi x1 4 = true
  · have v2 : vp_in x1 4 := wi_in h1 (by decide) (by decide)
    refine q_cSp E G [] (k_X9_isWithin_t l D cy sz ad n S x1 4 h1) tb_117 tb_118 tb_1 tb_119 (nn := 2) (by decide +kernel) ⟨Nat.le_of_ble_eq_true rfl, Nat.le_of_ble_eq_true rfl⟩ rfl hl.1 rfl (Nat.le_of_ble_eq_true rfl) dX9_let_2 ⟨Nat.zero_le _, Nat.zero_le _⟩ (fun H locs G => ?_)
    refine lv_if_ne (tgt := 15) hx hb dX9_let_5 (by decide) (fun _ => ?_) (fun h => absurd h (by decide))
    refine lv_aload_n hx hb dX9_let_15 rfl (lv_at hl 0 rfl) ?_
    refine q_get (index := 33) (ref := "ToolRoom") E G inX9 0 0 c0 sg_0 rfl 4 (by decide) tb_86 (Or.inl rfl) rfl dX9_let_16 ?_
    refine lv_iload_n hx hb dX9_let_19 rfl (lv_at hl 1 rfl) ?_
    refine q_zald E G 5 0 c5 sa_5 v2 dX9_let_20 ?_
    refine lv_if_ne (tgt := 30) hx hb dX9_let_21 (by decide) (fun h3 => ?_) (fun h3 => ?_)
    · refine lv_aload_n hx hb dX9_let_30 rfl (lv_at hl 0 rfl) ?_
      refine lv_bipush (v := 6) hx hb dX9_let_31 (by decide) ?_
      refine q_cV (rest := []) E G 0 0 c0 sg_0 (C := RX9) (T := TX9) (N := 10) rfl (k_X9_fail l D cy sz ad n S 6 (by unfold vp_in; decide)) tb_227 tb_229 tp_2 tb_1 tb_230 (nn := 1) (by decide +kernel) ⟨Nat.le_of_ble_eq_true rfl, Nat.le_of_ble_eq_true rfl⟩ rfl hl.1 rfl (Nat.le_of_ble_eq_true rfl) dX9_let_33 ⟨Nat.zero_le _, Nat.zero_le _⟩ (fun H locs G => ?_)
      refine lv_istore_n (lv' := [(2, .int (f_X9_fail S 6).1), (0, .ref (ad 0 0)), (1, .int x1)]) hx hb dX9_let_36 rfl hl (by decide) rfl (fun ls hl => ?_)
      refine lv_aload_n hx hb dX9_let_37 rfl (lv_at hl 1 rfl) ?_
      refine lv_aload_n hx hb dX9_let_38 rfl (lv_at hl 1 rfl) ?_
      refine q_get (index := 37) (ref := "ToolRoom") E G inX9 0 0 c0 sg_0 rfl 5 (by decide) tb_87 (Or.inl rfl) rfl dX9_let_39 ?_
      refine lv_iload_n hx hb dX9_let_42 rfl (lv_at hl 2 rfl) ?_
      refine q_iald E G 6 0 c6 sa_6 v2 dX9_let_43 ?_
      refine q_put (index := 51) (ref := "ToolRoom") E G inX9 tyX9 tyX9_ok nmX9 0 0 c0 9 sg_0 rfl 9 (by decide) tb_91 (Or.inl rfl) rfl (ty := .int) (by decide +kernel) rfl rfl (Nat.le_of_ble_eq_true rfl) sp_0_9 dX9_let_44 (fun H locs G => ?_)
      refine lv_iload_n hx hb dX9_let_47 rfl (lv_at hl 0 rfl) ?_
      exact q_iret E G (by unfold f_X9_let; simp only [if_pos h1, if_neg h3, pr_eta]) dX9_let_48
    · refine lv_aload_n hx hb dX9_let_24 rfl (lv_at hl 0 rfl) ?_
      refine lv_iconst (v := 1) hx hb dX9_let_25 (by decide) ?_
      refine q_cV (rest := []) E G 0 0 c0 sg_0 (C := RX9) (T := TX9) (N := 10) rfl (k_X9_fail l D cy sz ad n S 1 (by unfold vp_in; decide)) tb_227 tb_229 tp_2 tb_1 tb_230 (nn := 1) (by decide +kernel) ⟨Nat.le_of_ble_eq_true rfl, Nat.le_of_ble_eq_true rfl⟩ rfl hl.1 rfl (Nat.le_of_ble_eq_true rfl) dX9_let_26 ⟨Nat.zero_le _, Nat.zero_le _⟩ (fun H locs G => ?_)
      exact q_iret E G (by unfold f_X9_let; simp only [if_pos h1, if_pos h3, pr_eta]) dX9_let_29
  · refine q_cSp E G [] (k_X9_isWithin_f l D cy sz ad n S x1 4 h1) tb_117 tb_118 tb_1 tb_119 (nn := 2) (by decide +kernel) ⟨Nat.le_of_ble_eq_true rfl, Nat.le_of_ble_eq_true rfl⟩ rfl hl.1 rfl (Nat.le_of_ble_eq_true rfl) dX9_let_2 ⟨Nat.zero_le _, Nat.zero_le _⟩ (fun H locs G => ?_)
    refine lv_if_ne (tgt := 15) hx hb dX9_let_5 (by decide) (fun h => absurd h (by decide)) (fun _ => ?_)
    refine lv_aload_n hx hb dX9_let_8 rfl (lv_at hl 0 rfl) ?_
    refine lv_bipush (v := (-2)) hx hb dX9_let_9 (by decide) ?_
    refine q_cV (rest := []) E G 0 0 c0 sg_0 (C := RX9) (T := TX9) (N := 10) rfl (k_X9_refuse l D cy sz ad n S (-2)) tb_120 tb_122 tp_0 tb_1 tb_123 (nn := 1) (by decide +kernel) ⟨Nat.le_of_ble_eq_true rfl, Nat.le_of_ble_eq_true rfl⟩ rfl hl.1 rfl (Nat.le_of_ble_eq_true rfl) dX9_let_11 ⟨Nat.zero_le _, Nat.zero_le _⟩ (fun H locs G => ?_)
    exact q_iret E G (by unfold f_X9_let; simp only [if_neg h1, pr_eta]) dX9_let_14

def f_X9_why (S : SS) : Int32 × SS := ((S.1 0 0 9), S)
set_option maxHeartbeats 4000000 in
set_option maxRecDepth 100000 in
theorem k_X9_why (l : Launch) (D : va_G) (cy : Nat → ClassId) (sz : Nat) (ad : Nat → Nat → Nat) (n : Nat) (S : SS) (ok : okC n S) : CI l yX9_why cX9_why 1 (some .int) 0 0 [.ref (ad 0 0)] D cy sz ad n S (f_X9_why S ) := by
  refine Met.enter (by decide) (Nat.le_of_ble_eq_true rfl) (fun p e s m args below meth c ls E G hl => ?_)
  have E : En p s m args meth c cX9_why 1 (some .int) RX9 D cy sz := E
  obtain ⟨hx, hb, hrt, hml, hown, hw, hlk, hK, hF, hsz⟩ := id E
  have hl : lv_has ls 1 [(0, .ref (ad 0 0))] := hl
  refine lv_aload_n hx hb dX9_why_0 rfl (lv_at hl 0 rfl) ?_
  refine q_get (index := 51) (ref := "ToolRoom") E G inX9 0 0 c0 sg_0 rfl 9 (by decide) tb_91 (Or.inl rfl) rfl dX9_why_1 ?_
  exact q_iret E G (by rfl) dX9_why_4

def f_X9_count (S : SS) (x1 : Int32) : Int32 × SS := if x1 = 0 then ((S.1 0 0 7), S) else (if x1 = 7 then ((S.1 0 0 8), S) else (if x1 < 1 then ((-3), S) else (if 6 < x1 then ((-3), S) else ((S.1 7 0 x1.toNatClampNeg), S))))
set_option maxHeartbeats 4000000 in
set_option maxRecDepth 100000 in
theorem k_X9_count (l : Launch) (D : va_G) (cy : Nat → ClassId) (sz : Nat) (ad : Nat → Nat → Nat) (n : Nat) (S : SS) (ok : okC n S) (x1 : Int32) : CI l yX9_count cX9_count 2 (some .int) 0 0 [.ref (ad 0 0), .int x1] D cy sz ad n S (f_X9_count S x1) := by
  refine Met.enter (by decide) (Nat.le_of_ble_eq_true rfl) (fun p e s m args below meth c ls E G hl => ?_)
  have E : En p s m args meth c cX9_count 2 (some .int) RX9 D cy sz := E
  obtain ⟨hx, hb, hrt, hml, hown, hw, hlk, hK, hF, hsz⟩ := id E
  have hl : lv_has ls 2 [(0, .ref (ad 0 0)), (1, .int x1)] := hl
  refine lv_iload_n hx hb dX9_count_0 rfl (lv_at hl 1 rfl) ?_
  refine lv_if_ne (tgt := 9) hx hb dX9_count_1 (by decide) (fun h1 => ?_) (fun h1 => ?_)
  · refine lv_iload_n hx hb dX9_count_9 rfl (lv_at hl 1 rfl) ?_
    refine lv_bipush (v := 7) hx hb dX9_count_10 (by decide) ?_
    refine lv_icmp_ne (tgt := 20) hx hb dX9_count_12 (by decide) (fun h2 => ?_) (fun h2 => ?_)
    · refine lv_iload_n hx hb dX9_count_20 rfl (lv_at hl 1 rfl) ?_
      refine lv_iconst (v := 1) hx hb dX9_count_21 (by decide) ?_
      refine lv_icmp_lt (tgt := 40) hx hb dX9_count_22 (by decide) (fun h3 => ?_) (fun h3 => ?_)
      · refine lv_bipush (v := (-3)) hx hb dX9_count_40 (by decide) ?_
        exact q_iret E G (by unfold f_X9_count; simp only [if_neg h1, if_neg h2, if_pos h3, pr_eta]) dX9_count_42
      · refine lv_iload_n hx hb dX9_count_25 rfl (lv_at hl 1 rfl) ?_
        refine lv_bipush (v := 6) hx hb dX9_count_26 (by decide) ?_
        refine lv_icmp_gt (tgt := 40) hx hb dX9_count_28 (by decide) (fun h4 => ?_) (fun h4 => ?_)
        · refine lv_bipush (v := (-3)) hx hb dX9_count_40 (by decide) ?_
          exact q_iret E G (by unfold f_X9_count; simp only [if_neg h1, if_neg h2, if_neg h3, if_pos h4, pr_eta]) dX9_count_42
        · refine lv_aload_n hx hb dX9_count_31 rfl (lv_at hl 0 rfl) ?_
          refine q_get (index := 41) (ref := "ToolRoom") E G inX9 0 0 c0 sg_0 rfl 6 (by decide) tb_88 (Or.inl rfl) rfl dX9_count_32 ?_
          refine lv_iload_n hx hb dX9_count_35 rfl (lv_at hl 1 rfl) ?_
          refine q_iald E G 7 0 c7 sa_7 (cnt_in h3 h4) dX9_count_36 ?_
          refine lv_goto (tgt := 42) hx hb dX9_count_37 (by decide) ?_
          exact q_iret E G (by unfold f_X9_count; simp only [if_neg h1, if_neg h2, if_neg h3, if_neg h4, pr_eta]) dX9_count_42
    · refine lv_aload_n hx hb dX9_count_15 rfl (lv_at hl 0 rfl) ?_
      refine q_get (index := 48) (ref := "ToolRoom") E G inX9 0 0 c0 sg_0 rfl 8 (by decide) tb_90 (Or.inl rfl) rfl dX9_count_16 ?_
      exact q_iret E G (by unfold f_X9_count; simp only [if_neg h1, if_pos h2, pr_eta]) dX9_count_19
  · refine lv_aload_n hx hb dX9_count_4 rfl (lv_at hl 0 rfl) ?_
    refine q_get (index := 44) (ref := "ToolRoom") E G inX9 0 0 c0 sg_0 rfl 7 (by decide) tb_89 (Or.inl rfl) rfl dX9_count_5 ?_
    exact q_iret E G (by unfold f_X9_count; simp only [if_pos h1, pr_eta]) dX9_count_8

def f_X9_shiftOnce (S : SS) (t : Nat) (x1 : Int32) (x2 : Int32) (x4 : Int32) : Int32 × SS := if wi x1 10 = true then (match S.2 1 0 x1.toNatClampNeg with | none => (1, S) | some t3 => if (pA ((f_work (uI S 0 0 8 ((S.1 0 0 8) + 1)) t3 x2).2) 8 t x4) = 0 then ((pA ((f_work (uI S 0 0 8 ((S.1 0 0 8) + 1)) t3 x2).2) 8 t x4), (uI ((f_work (uI S 0 0 8 ((S.1 0 0 8) + 1)) t3 x2).2) 9 t x4.toNatClampNeg (f_work (uI S 0 0 8 ((S.1 0 0 8) + 1)) t3 x2).1)) else ((pA ((f_work (uI S 0 0 8 ((S.1 0 0 8) + 1)) t3 x2).2) 8 t x4), (f_work (uI S 0 0 8 ((S.1 0 0 8) + 1)) t3 x2).2)) else (2, S)
set_option maxHeartbeats 4000000 in
set_option maxRecDepth 100000 in
theorem k_X9_shiftOnce (l : Launch) (D : va_G) (cy : Nat → ClassId) (sz : Nat) (ad : Nat → Nat → Nat) (n : Nat) (S : SS) (ok : okC n S) (t : Nat) (ht : t < 4) (x1 : Int32) (x2 : Int32) (x4 : Int32) : CI l yX9_shiftOnce cX9_shiftOnce 8 (some .int) 2 43 [.ref (ad 0 0), .int x1, .int x2, .ref (ad 8 t), .int x4] D cy sz ad n S (f_X9_shiftOnce S t x1 x2 x4) := by
  refine Met.enter (by decide) (Nat.le_of_ble_eq_true rfl) (fun p e s m args below meth c ls E G hl => ?_)
  have E : En p s m args meth c cX9_shiftOnce 8 (some .int) RX9 D cy sz := E
  obtain ⟨hx, hb, hrt, hml, hown, hw, hlk, hK, hF, hsz⟩ := id E
  have hl : lv_has ls 8 [(0, .ref (ad 0 0)), (1, .int x1), (2, .int x2), (3, .ref (ad 8 t)), (4, .int x4)] := hl
  refine lv_iload_n hx hb dX9_shiftOnce_0 rfl (lv_at hl 1 rfl) ?_
  refine lv_bipush (v := 10) hx hb dX9_shiftOnce_1 (by decide) ?_
  by_cases h1 : wi x1 10 = true
  · have v2 : vp_in x1 10 := wi_in h1 (by decide) (by decide)
    refine q_cSp E G [] (k_X9_isWithin_t l D cy sz ad n S x1 10 h1) tb_117 tb_118 tb_1 tb_119 (nn := 2) (by decide +kernel) ⟨Nat.le_of_ble_eq_true rfl, Nat.le_of_ble_eq_true rfl⟩ rfl hl.1 rfl (Nat.le_of_ble_eq_true rfl) dX9_shiftOnce_3 ⟨Nat.zero_le _, Nat.zero_le _⟩ (fun H locs G => ?_)
    refine lv_if_ne (tgt := 11) hx hb dX9_shiftOnce_6 (by decide) (fun _ => ?_) (fun h => absurd h (by decide))
    refine lv_aload_n hx hb dX9_shiftOnce_11 rfl (lv_at hl 0 rfl) ?_
    refine q_get (index := 11) (ref := "ToolRoom") E G inX9 0 0 c0 sg_0 rfl 0 (by decide) tb_82 (Or.inl rfl) rfl dX9_shiftOnce_12 ?_
    refine lv_iload_n hx hb dX9_shiftOnce_15 rfl (lv_at hl 1 rfl) ?_
    refine q_aaldT E G 1 0 c1 sa_1 v2 dX9_shiftOnce_16 (fun h3 => ?_) (fun t3 h3 => ?_)
    · refine lv_astoreN (lv' := [(5, .null), (0, .ref (ad 0 0)), (1, .int x1), (2, .int x2), (3, .ref (ad 8 t)), (4, .int x4)]) hx hb dX9_shiftOnce_17 hl (by decide) rfl (fun ls hl => ?_)
      refine lv_aloadN hx hb dX9_shiftOnce_19 (lv_at hl 0 rfl) ?_
      refine lv_ifnonnullN hx hb dX9_shiftOnce_21 ?_
      refine lv_iconst (v := 1) hx hb dX9_shiftOnce_24 (by decide) ?_
      exact q_iret E G (by unfold f_X9_shiftOnce; simp only [if_pos h1, h3, pr_eta]) dX9_shiftOnce_25
    · have kt3 : t3 < n := ok.1 _ _ _ _ h3
      refine lv_astore (lv' := [(5, .ref (ad 16 t3)), (0, .ref (ad 0 0)), (1, .int x1), (2, .int x2), (3, .ref (ad 8 t)), (4, .int x4)]) hx hb dX9_shiftOnce_17 hl (by decide) rfl (fun ls hl => ?_)
      refine lv_aload hx hb dX9_shiftOnce_19 (lv_at hl 0 rfl) ?_
      refine lv_ifnonnull (tgt := 26) hx hb dX9_shiftOnce_21 (by decide) ?_
      refine lv_aload_n hx hb dX9_shiftOnce_26 rfl (lv_at hl 1 rfl) ?_
      refine lv_dup hx hb dX9_shiftOnce_27 rfl ?_
      refine q_get (index := 48) (ref := "ToolRoom") E G inX9 0 0 c0 sg_0 rfl 8 (by decide) tb_90 (Or.inl rfl) rfl dX9_shiftOnce_28 ?_
      refine lv_iconst (v := 1) hx hb dX9_shiftOnce_31 (by decide) ?_
      refine lv_iadd hx hb dX9_shiftOnce_32 ?_
      refine q_put (index := 48) (ref := "ToolRoom") E G inX9 tyX9 tyX9_ok nmX9 0 0 c0 8 sg_0 rfl 8 (by decide) tb_90 (Or.inl rfl) rfl (ty := .int) (by decide +kernel) rfl rfl (Nat.le_of_ble_eq_true rfl) sp_0_8 dX9_shiftOnce_33 (fun H locs G => ?_)
      refine lv_aload hx hb dX9_shiftOnce_36 (lv_at hl 0 rfl) ?_
      refine lv_iload_n hx hb dX9_shiftOnce_38 rfl (lv_at hl 3 rfl) ?_
      refine q_t_work E G kt3 [] ⟨Nat.le_of_ble_eq_true rfl, Nat.le_of_ble_eq_true rfl⟩ hl.1 rfl (Nat.le_of_ble_eq_true rfl) dX9_shiftOnce_39 ⟨Nat.zero_le _, Nat.zero_le _⟩ (fun H locs G => ?_)
      refine lv_istore (lv' := [(6, .int (f_work (uI S 0 0 8 ((S.1 0 0 8) + 1)) t3 x2).1), (5, .ref (ad 16 t3)), (0, .ref (ad 0 0)), (1, .int x1), (2, .int x2), (3, .ref (ad 8 t)), (4, .int x4)]) hx hb dX9_shiftOnce_42 hl (by decide) rfl (fun ls hl => ?_)
      refine lv_aload_n hx hb dX9_shiftOnce_44 rfl (lv_at hl 5 rfl) ?_
      refine lv_iload hx hb dX9_shiftOnce_45 (lv_at hl 6 rfl) ?_
      refine q_cSp E G [] (k_X9_failureAt l D cy sz ad n ((f_work (uI S 0 0 8 ((S.1 0 0 8) + 1)) t3 x2).2) 8 t (Or.inl rfl) (c8 ht) x4) tb_302 tb_303 tb_1 tb_304 (nn := 2) (by decide +kernel) ⟨Nat.le_of_ble_eq_true rfl, Nat.le_of_ble_eq_true rfl⟩ rfl hl.1 rfl (Nat.le_of_ble_eq_true rfl) dX9_shiftOnce_47 ⟨Nat.zero_le _, Nat.zero_le _⟩ (fun H locs G => ?_)
      refine lv_istore (lv' := [(7, .int (pA ((f_work (uI S 0 0 8 ((S.1 0 0 8) + 1)) t3 x2).2) 8 t x4)), (6, .int (f_work (uI S 0 0 8 ((S.1 0 0 8) + 1)) t3 x2).1), (5, .ref (ad 16 t3)), (0, .ref (ad 0 0)), (1, .int x1), (2, .int x2), (3, .ref (ad 8 t)), (4, .int x4)]) hx hb dX9_shiftOnce_50 hl (by decide) rfl (fun ls hl => ?_)
      refine lv_iload hx hb dX9_shiftOnce_52 (lv_at hl 0 rfl) ?_
      refine lv_if_ne (tgt := 66) hx hb dX9_shiftOnce_54 (by decide) (fun h4 => ?_) (fun h4 => ?_)
      · refine lv_iload hx hb dX9_shiftOnce_66 (lv_at hl 0 rfl) ?_
        exact q_iret E G (by unfold f_X9_shiftOnce; simp only [if_pos h1, h3, if_neg h4, pr_eta]) dX9_shiftOnce_68
      · have v5 : vp_in x4 20 := wi_le (pA_0 h4) ((by rw [fw_8 _ _ _ _ _ _ (by decide), uI_nf (by decide)]; exact ok.2.1 _ ht)) (by decide)
        refine lv_aload_n hx hb dX9_shiftOnce_57 rfl (lv_at hl 6 rfl) ?_
        refine q_get (index := 120) (ref := "ToolRoom$Row") E G inX7 8 t (c8 ht) sg_8 rfl 1 (by decide) tb_37 (Or.inl rfl) rfl dX9_shiftOnce_58 ?_
        refine lv_iload hx hb dX9_shiftOnce_61 (lv_at hl 7 rfl) ?_
        refine lv_iload hx hb dX9_shiftOnce_63 (lv_at hl 1 rfl) ?_
        refine q_iast E G 9 t (c9 ht) (fun _ => sa_9) v5 dX9_shiftOnce_65 (fun H locs G => ?_)
        refine lv_iload hx hb dX9_shiftOnce_66 (lv_at hl 0 rfl) ?_
        exact q_iret E G (by unfold f_X9_shiftOnce; simp only [if_pos h1, h3, if_pos h4, pr_eta]) dX9_shiftOnce_68
  · refine q_cSp E G [] (k_X9_isWithin_f l D cy sz ad n S x1 10 h1) tb_117 tb_118 tb_1 tb_119 (nn := 2) (by decide +kernel) ⟨Nat.le_of_ble_eq_true rfl, Nat.le_of_ble_eq_true rfl⟩ rfl hl.1 rfl (Nat.le_of_ble_eq_true rfl) dX9_shiftOnce_3 ⟨Nat.zero_le _, Nat.zero_le _⟩ (fun H locs G => ?_)
    refine lv_if_ne (tgt := 11) hx hb dX9_shiftOnce_6 (by decide) (fun h => absurd h (by decide)) (fun _ => ?_)
    refine lv_iconst (v := 2) hx hb dX9_shiftOnce_9 (by decide) ?_
    exact q_iret E G (by unfold f_X9_shiftOnce; simp only [if_neg h1, pr_eta]) dX9_shiftOnce_10
