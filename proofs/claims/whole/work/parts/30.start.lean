theorem tw {w : Cond} {i : Nat} {b : Nat} {s : State} (hts : ∀ w ∈ lw_tbl, w.before #[Value.ref b] s = true) (h : tables_1[i]? = some w) : w.before #[Value.ref b] s = true := hts _ (List.mem_append_right _ (List.mem_of_getElem? h))
theorem tn {w : Cond} {b : Nat} {s : State} (hw : w.onTables = true) (h : w.before #[Value.ref b] s = true) : va_Nw w s := va_tabs hw rfl h

theorem fx_start {b : Nat} {s : State} (hts : ∀ w ∈ lw_tbl, w.before #[Value.ref b] s = true) (hgv : (Jvm.Cond.and given_1 narrow_1).before #[Value.ref b] s = true) : Fx s := by
  have hfl := flat_of_before _ hgv
  refine ⟨?_, ?_, ?_, ?_, ?_⟩
  · exact List.forall_mem_cons.mpr ⟨tn rfl (tw (i := 645) hts (by decide +kernel)), List.forall_mem_cons.mpr ⟨tn rfl (tw (i := 646) hts (by decide +kernel)), List.forall_mem_cons.mpr ⟨tn rfl (tw (i := 647) hts (by decide +kernel)), List.forall_mem_cons.mpr ⟨tn rfl (tw (i := 648) hts (by decide +kernel)), List.forall_mem_cons.mpr ⟨tn rfl (tw (i := 642) hts (by decide +kernel)), List.forall_mem_cons.mpr ⟨tn rfl (tw (i := 643) hts (by decide +kernel)), List.forall_mem_cons.mpr ⟨tn rfl (tw (i := 644) hts (by decide +kernel)), fun _ h => absurd h List.not_mem_nil⟩⟩⟩⟩⟩⟩⟩
  · exact List.forall_mem_cons.mpr ⟨va_Nc.of (hfl (Cond.not (.castable "ToolRoom$Gauge" "ToolRoom$Blade")) (by decide +kernel)), List.forall_mem_cons.mpr ⟨va_Nc.of (hfl (Cond.not (.castable "ToolRoom$Hammer" "ToolRoom$Blade")) (by decide +kernel)), List.forall_mem_cons.mpr ⟨va_Nc.of (hfl (Cond.not (.castable "ToolRoom$Blade" "ToolRoom$Gauge")) (by decide +kernel)), List.forall_mem_cons.mpr ⟨va_Nc.of (hfl (Cond.not (.castable "ToolRoom$FileBlade" "ToolRoom$Gauge")) (by decide +kernel)), List.forall_mem_cons.mpr ⟨va_Nc.of (hfl (Cond.not (.castable "ToolRoom$Hammer" "ToolRoom$Gauge")) (by decide +kernel)), fun _ h => absurd h List.not_mem_nil⟩⟩⟩⟩⟩
  · exact List.forall_mem_cons.mpr ⟨va_AO.of (tw (w := .arrayOver (.object "ToolRoom$Tool")) (i := 21) hts (by decide +kernel)), List.forall_mem_cons.mpr ⟨va_AO.of (tw (w := .arrayOver (.object "ToolRoom$Row")) (i := 23) hts (by decide +kernel)), List.forall_mem_cons.mpr ⟨va_AO.of (tw (w := .arrayOver (.object "ToolRoom$Rack")) (i := 25) hts (by decide +kernel)), List.forall_mem_cons.mpr ⟨va_AO.of (tw (w := .arrayOver (.object "ToolRoom$Grid")) (i := 27) hts (by decide +kernel)), fun _ h => absurd h List.not_mem_nil⟩⟩⟩⟩
  · exact List.forall_mem_cons.mpr ⟨tn rfl (tw (w := .declares ⟨"ToolRoom$Holder", "vanish", "()Z"⟩) (i := 382) hts (by decide +kernel)), List.forall_mem_cons.mpr ⟨tn rfl (tw (w := .declares ⟨"ToolRoom$Tool", "kindNumber", "()I"⟩) (i := 209) hts (by decide +kernel)), List.forall_mem_cons.mpr ⟨tn rfl (tw (w := .declares ⟨"ToolRoom$Tool", "weight", "()I"⟩) (i := 252) hts (by decide +kernel)), List.forall_mem_cons.mpr ⟨tn rfl (tw (w := .declares ⟨"ToolRoom$Tool", "work", "(I)I"⟩) (i := 279) hts (by decide +kernel)), fun _ h => absurd h List.not_mem_nil⟩⟩⟩⟩
  · exact List.forall_mem_cons.mpr ⟨tn rfl (tw (w := .methodLinkNest "ToolRoom" 125 yX4_init "ToolRoom") (i := 129) hts (by decide +kernel)), List.forall_mem_cons.mpr ⟨tn rfl (tw (w := .methodLinkNest "ToolRoom" 126 yX0_init "ToolRoom") (i := 157) hts (by decide +kernel)), List.forall_mem_cons.mpr ⟨tn rfl (tw (w := .methodLinkNest "ToolRoom" 129 yX1_init "ToolRoom") (i := 173) hts (by decide +kernel)), List.forall_mem_cons.mpr ⟨tn rfl (tw (w := .methodLinkNest "ToolRoom" 132 yX2_init "ToolRoom") (i := 184) hts (by decide +kernel)), List.forall_mem_cons.mpr ⟨tn rfl (tw (w := .methodLinkNest "ToolRoom" 57 yX6_init "ToolRoom") (i := 54) hts (by decide +kernel)), List.forall_mem_cons.mpr ⟨tn rfl (tw (w := .methodLinkNest "ToolRoom$Blade" 3 yX8_init "ToolRoom") (i := 160) hts (by decide +kernel)), List.forall_mem_cons.mpr ⟨tn rfl (tw (w := .methodLinkNest "ToolRoom$FileBlade" 3 yX0_init "ToolRoom") (i := 176) hts (by decide +kernel)), List.forall_mem_cons.mpr ⟨tn rfl (tw (w := .methodLinkNest "ToolRoom$Gauge" 3 yX8_init "ToolRoom") (i := 187) hts (by decide +kernel)), List.forall_mem_cons.mpr ⟨tn rfl (tw (w := .methodLinkNest "ToolRoom$Grid" 3 yX5_init "ToolRoom") (i := 73) hts (by decide +kernel)), List.forall_mem_cons.mpr ⟨tn rfl (tw (w := .methodLinkNest "ToolRoom$Hammer" 3 yX8_init "ToolRoom") (i := 132) hts (by decide +kernel)), List.forall_mem_cons.mpr ⟨tn rfl (tw (w := .methodLinkNest "ToolRoom$Rack" 3 yX5_init "ToolRoom") (i := 57) hts (by decide +kernel)), List.forall_mem_cons.mpr ⟨tn rfl (tw (w := .methodLinkNest "ToolRoom$Row" 1 yX5_init "ToolRoom") (i := 32) hts (by decide +kernel)), fun _ h => absurd h List.not_mem_nil⟩⟩⟩⟩⟩⟩⟩⟩⟩⟩⟩⟩
theorem cy_start {b : Nat} {s : State} (hw : ∀ w ∈ wl, w.before #[Value.ref b] s = true) (hF : Fx s) : ∃ cy : Nat → ClassId, ∀ (k : Nat) (q : ClassId × FieldType), (tysOf cy)[k]? = some q → ArrOfT s q.1 q.2 ∧ va_RA s q.1 q.2 := by
  have prim : ∀ ty : FieldType, (Cond.arrayClass ty).before #[Value.ref b] s = true → (ty = .int ∨ ty = .boolean) → ∃ c, ArrOfT s c ty ∧ va_RA s c ty := by
    intro ty h hty
    obtain ⟨cA, kA, comp, h1, h2, h3⟩ := Cond.arrayClass_spec h
    refine ⟨cA, fun n z => ⟨(fun k h => by cases h), kA, h2, comp, h3⟩, ?_⟩
    rcases hty with rfl | rfl
    · exact h1
    · exact h1
  have refs : ∀ C ∈ xOver, ∃ c, ArrOfT s c (.object C) ∧ va_RA s c (.object C) := by
    intro C hC
    obtain ⟨comp, c, k, h1, h2, h3, h4, h5⟩ := Cond.arrayOver_spec (hF.2.2.1 C hC)
    exact ⟨c, fun n z => ⟨(fun k h => by cases h), k, h3, comp, h4⟩, k, comp, h3, h4, h1, h5⟩
  obtain ⟨c0, a0⟩ := prim .int (hw _ tb_52) (Or.inl rfl)
  obtain ⟨c1, a1⟩ := prim .boolean (hw _ tb_51) (Or.inr rfl)
  obtain ⟨c2, a2⟩ := refs "ToolRoom$Tool" (by decide +kernel)
  obtain ⟨c3, a3⟩ := refs "ToolRoom$Row" (by decide +kernel)
  obtain ⟨c4, a4⟩ := refs "ToolRoom$Rack" (by decide +kernel)
  obtain ⟨c5, a5⟩ := refs "ToolRoom$Grid" (by decide +kernel)
  refine ⟨fun k => match k with | 0 => c0 | 1 => c1 | 2 => c2 | 3 => c3 | 4 => c4 | _ => c5, ?_⟩
  intro k q hq
  match k, hq with
  | 0, hq => cases hq; exact a0
  | 1, hq => cases hq; exact a1
  | 2, hq => cases hq; exact a2
  | 3, hq => cases hq; exact a3
  | 4, hq => cases hq; exact a4
  | 5, hq => cases hq; exact a5
  | k + 6, hq => simp at hq
def rm1 : Nat → Int32 := fun k => if k = 0 then -1 else 0
def S0 : SS := (fun f i => match f with
  | 8 => rm1 | 10 => rm1 | 12 => rm1 | 14 => rm1
  | 18 => (match i with
    | 0 => fun _ => -1 | 7 => fun _ => -1 | 9 => fun _ => -1 | 12 => fun _ => -1
    | _ => fun _ => 0)
  | _ => fun _ => 0, fun _ _ _ => none)
def adX (o : Nat) (a : Nat → Nat) (o2 : Nat) (a2 : Nat → Nat) : Nat → Nat → Nat := fun f i => match f with
  | 0 => o | 1 => a 1 | 2 => a 2 | 3 => a 3 | 4 => a 4 | 5 => a 5 | 6 => a 6 | 7 => a 7
  | 8 => a (8 + i) | 9 => a (12 + i) | 10 => a (16 + i) | 11 => a (20 + i) | 12 => a (24 + i) | 13 => a (26 + i) | 14 => a (28 + i) | 15 => a (44 + i)
  | 17 => o2
  | 18 => (match i with
    | 0 => a2 61 | 2 => a2 62 | 3 => a2 63 | 4 => a2 64 | 5 => a2 65 | 6 => a2 66 | 7 => a2 67 | 8 => a2 68 | 9 => a2 69 | 10 => a2 70 | 11 => a2 71 | 12 => a2 72 | 13 => a2 73 | 14 => a2 74 | 15 => a2 75 | 16 => a2 76
    | _ => a2 77)
  | _ => 0
theorem pool_start (cy : Nat → ClassId) (o : Nat) (a : Nat → Nat) (o2 : Nat) (a2 : Nat → Nat) : pool cy (adX o a o2 a2) 0 S0 = roomC cy o a ++ modC cy o2 a2 := rfl
theorem rel_start : Rel 0 S0 := by
  refine ⟨⟨rfl, rfl, rfl, fun j hj => rfl⟩, rfl, fun j hj => rfl, (fun f i j k h => by cases h), fun k hk => absurd hk (by omega), fun t ht => ⟨?_, Or.inl rfl, fun i hi h => absurd h (not_lt_m1 (by omega))⟩, fun t ht => ⟨?_, Or.inl rfl, rfl, fun i hi h => absurd h (not_lt_m1 (by omega))⟩, fun j hj => Or.inr ⟨0, by omega, rfl⟩, fun t ht => ⟨?_, Or.inl rfl, fun i hi h => absurd h (not_lt_m1 (by omega))⟩, fun x hx => ⟨by show (0 : Int32) ≤ 8; decide, by show (-1 : Int32) ≤ 8; decide⟩, fun k hk => ⟨rfl, rfl⟩⟩
  · rfl
  · rfl
  · rfl
