def R_law : String := "ToolRoomLaw"
def lw_P (b : Addr) (xs : List Int32) (args : Array Value) (s : State) : Prop := args = #[.ref b] ∧ s.IntsAt b xs ∧ xs.length ≤ 2560 ∧ (Jvm.Cond.and given_1 narrow_1).before args s = true
def lw_Q (_ : Array Value) (s : State) (o : Outcome) (t : State) : Prop := o = .returned (some (.int 1)) ∧ Framed s o t [] 600000 7302250
def lw_Z (below : List Frame) (a : Array Value) (s : State) : State → Prop := fun t => ∃ o, t.status = .running ∧ Ended t below o ∧ lw_Q a s o t
/-- the law's own end, with 1 on the stack, nothing written that was there before, its room as the claim has it -/
theorem lw_ret {p : Program} {l : Launch} {e : Env} {s : State} {m : MethodId} {below : List Frame} {meth : Method} {c : Code} {b : Nat} (hx : p.tables.exec = Jvm.exec) (hb : c.code = code) (hr : meth.sig.returnType = ret) (hlocks : meth.locks = false) {pc : Nat} {H : Heap} {ls : Array Slot} (hdg : decode code pc = .ok (.ireturn, 1)) : W p l e room_1 s m #[Value.ref b] below meth c H [] 600000 7302250 (lw_Z below #[Value.ref b] s) (F0 m pc ls [.int 1]) := by
  intro T hT X
  obtain ⟨fs, hret, hrun, hended, hW, hframe⟩ := X.leave (v := some (.int 1)) (hlocks := hlocks) (fun h => by rw [hr] at h; cases h)
  have hmeth' : T.vm.method? m = some meth := X.method'
  refine ⟨T.setFrames fs, ?_, .returned (some (.int 1)), hrun, hended, rfl, ⟨_, rfl⟩, hW, hframe⟩
  jvm_step X.here [X.here.top, hx, hb, hdg, hmeth', hr, ret, narrow_b1]
  (try refine ⟨rfl, ?_⟩); (try refine ⟨rfl, ?_⟩)
  first | (intro acts; rw [hret _ acts rfl rfl rfl]) | rw [hret _ _ rfl rfl rfl]
  exact Steps.refl _
/-- what holds at the law's entry: the machine, the code, the tables' words (any of lw_tbl by 'hts w (by decide +kernel)'), the script of L ints xs at the cell b, what the Statement gives of the start (any of its parts by flat_of_before) -/
def lw_At (p : Program) (s : State) (m : MethodId) (meth : Method) (c : Code) (b L : Nat) (xs : Nat → Int32) : Prop :=
  p.tables.exec = Jvm.exec ∧ c.code = code ∧ meth.sig.returnType = ret ∧ c.maxLocals = 4 ∧ s.vm.findClass R_law = some m.cls ∧ (∀ w ∈ lw_tbl, w.before #[Value.ref b] s = true) ∧ va_X b L xs s s.heap ∧ b < s.heap.size ∧ meth.locks = false ∧ (Jvm.Cond.and given_1 narrow_1).before #[Value.ref b] s = true

theorem lo_small : ∀ L : Fin 5, ∀ i : Fin 5, Int32.ofNat L.val - 5 < nI i.val := by decide +kernel
theorem lo_cmp {L i : Nat} (hL : L ≤ 2560) (hi : i ≤ L) (h : ¬ Int32.ofNat L - 5 < nI i) : i + 5 ≤ L := by
  by_cases h5 : 5 ≤ L
  · have e1 : Int32.ofNat L - 5 = nI (L - 5) := by
      have e2 : Int32.ofNat L = nI (L - 5) + 5 := by
        rw [show (5 : Int32) = nI 5 from by decide +kernel, nI_add, Nat.sub_add_cancel h5]
        rfl
      rw [e2, Int32.add_sub_cancel]
    rw [e1] at h
    by_cases q : L - 5 < i
    · exact absurd (nI_lt q (by omega)) h
    · omega
  · exact absurd (lo_small ⟨L, by omega⟩ ⟨i, by omega⟩) h
theorem lo_5 (i : Nat) : nI i + Int32.ofInt 5 = nI (i + 5) := by
  rw [show Int32.ofInt 5 = nI 5 from by decide +kernel, nI_add]
section LO
variable {p : Program} {l : Launch} {e : Env} {s : State} {m : MethodId} {below : List Frame} {meth : Method} {c : Code}
variable {D : va_G} {cy : Nat → ClassId} {b L : Nat} {xs : Nat → Int32}
set_option maxHeartbeats 4000000 in
theorem lo_loop (E : En p s m #[Value.ref b] meth c cL_law 4 ret RL D cy s.heap.size) (hX : va_X b L xs s s.heap) (hbl : b < s.heap.size) (hL : L ≤ 2560) : ∀ (k i : Nat), L + 1 ≤ i + k → i ≤ L → ∀ (ad : Nat → Nat → Nat) (n : Nat) (S : SS) (H : Heap) (locs : List Loc) (ls : Array Slot), 5 * n ≤ i → Rel n S → Gd D cy s.heap.size ad n S s.heap H locs → lv_has ls 4 [(3, .int (nI i)), (2, .ref (ad 17 0)), (1, .ref (ad 0 0)), (0, .ref b)] →
    W p l e room_1 s m #[Value.ref b] below meth c H locs (78 + i) (3689 + 4 * i) (lw_Z below #[Value.ref b] s) (F0 m 18 ls []) := by
  intro k
  induction k with
  | zero => intro i h1 h2; omega
  | succ k ih =>
    intro i h1 h2 ad n S H locs ls hn h G hl
    obtain ⟨hx, hb, hr, hml, hown, hw, hlk, hK, hF, hsz⟩ := id E
    refine lv_iload_n hx hb dL_law_18 rfl (lv_at hl 0 rfl) ?_
    refine lv_aload_n hx hb dL_law_19 rfl (lv_at hl 3 rfl) ?_
    refine va_slen hx hb hX hbl (Nat.not_le.mpr hbl) G.2.2 dL_law_20 ?_
    refine lv_iconst (v := 5) hx hb dL_law_21 (by decide) ?_
    refine lv_isub hx hb dL_law_22 ?_
    refine lv_icmp_gt (tgt := 1120) hx hb dL_law_23 (by decide) (fun hc => ?_) (fun hc => ?_)
    · refine lv_iconst (v := 1) hx hb dL_law_1120 (by decide) ?_
      refine va_forget G.2.2.2.2 ?_
      refine W.widen (k := 600000) (n := 7302250) (by omega) (by omega) ?_
      exact lw_ret hx hb hr hlk dL_law_1121
    have hi := lo_cmp hL h2 hc
    have C : LH p s m meth c D cy b L i xs := ⟨E, hX, hbl, hi, hL⟩
    have KK : LK p l e s m below meth c (lw_Z below #[Value.ref b] s) D cy b i := by
      intro ad n S H locs ls h hn G hl
      refine lv_iinc (v := nI (i + 5)) (lv' := [(3, .int (nI (i + 5))), (2, .ref (ad 17 0)), (1, .ref (ad 0 0)), (0, .ref b)]) hx hb dL_law_1114 hl (k := 0) rfl (lo_5 i) (by decide) rfl (fun ls hl => ?_)
      refine lv_goto (tgt := 18) hx hb dL_law_1117 (by decide) ?_
      exact W.widen (by omega) (by omega) (ih (i + 5) (by omega) hi ad n S H locs ls hn h G hl)
    clear ih
    refine lv_aload_n hx hb dL_law_26 rfl (lv_at hl 3 rfl) ?_
    refine lv_iload_n hx hb dL_law_27 rfl (lv_at hl 0 rfl) ?_
    refine va_sld hx hb hX hbl (Nat.not_le.mpr hbl) G.2.2 (vp_in_nI (n := i) (by omega) (by omega)) dL_law_28 ?_
    refine lv_bipush (v := 31) hx hb dL_law_29 (by decide) ?_
    refine lv_iand hx hb dL_law_31 ?_
    obtain ⟨j, hj, hje⟩ := pk_andE (xs (nI i).toNatClampNeg) (m := 31) 5 rfl
    rw [hje]
    have hj : j < 32 := hj
    rcases (show j = 0 ∨ j = 1 ∨ j = 2 ∨ j = 3 ∨ j = 4 ∨ j = 5 ∨ j = 6 ∨ j = 7 ∨ j = 8 ∨ j = 9 ∨ j = 10 ∨ j = 11 ∨ j = 12 ∨ j = 13 ∨ j = 14 ∨ j = 15 ∨ j = 16 ∨ j = 17 ∨ j = 18 ∨ j = 19 ∨ j = 20 ∨ j = 21 ∨ j = 22 ∨ j = 23 ∨ j = 24 ∨ j = 25 ∨ j = 26 ∨ j = 27 ∨ j = 28 ∨ j = 29 ∨ j = 30 ∨ j = 31 by omega) with rfl | rfl | rfl | rfl | rfl | rfl | rfl | rfl | rfl | rfl | rfl | rfl | rfl | rfl | rfl | rfl | rfl | rfl | rfl | rfl | rfl | rfl | rfl | rfl | rfl | rfl | rfl | rfl | rfl | rfl | rfl | rfl
    · exact lv_tableIn (off := 128) (tgt := 160) hx hb dL_law_32 (by decide +kernel) (by decide +kernel) (by decide +kernel) (by decide) (lc_tool C hn h G hl KK)
    · exact lv_tableIn (off := 161) (tgt := 193) hx hb dL_law_32 (by decide +kernel) (by decide +kernel) (by decide +kernel) (by decide) (lc_hang C hn h G hl KK)
    · exact lv_tableIn (off := 194) (tgt := 226) hx hb dL_law_32 (by decide +kernel) (by decide +kernel) (by decide +kernel) (by decide) (lc_unhang C hn h G hl KK)
    · exact lv_tableIn (off := 217) (tgt := 249) hx hb dL_law_32 (by decide +kernel) (by decide +kernel) (by decide +kernel) (by decide) (lc_kind C hn h G hl KK)
    · exact lv_tableIn (off := 240) (tgt := 272) hx hb dL_law_32 (by decide +kernel) (by decide +kernel) (by decide +kernel) (by decide) (lc_card C hn h G hl KK)
    · exact lv_tableIn (off := 273) (tgt := 305) hx hb dL_law_32 (by decide +kernel) (by decide +kernel) (by decide +kernel) (by decide) (lc_uncard C hn h G hl KK)
    · exact lv_tableIn (off := 296) (tgt := 328) hx hb dL_law_32 (by decide +kernel) (by decide +kernel) (by decide +kernel) (by decide) (lc_rename C hn h G hl KK)
    · exact lv_tableIn (off := 329) (tgt := 361) hx hb dL_law_32 (by decide +kernel) (by decide +kernel) (by decide +kernel) (by decide) (lc_of C hn h G hl KK)
    · exact lv_tableIn (off := 362) (tgt := 394) hx hb dL_law_32 (by decide +kernel) (by decide +kernel) (by decide +kernel) (by decide) (lc_hone C hn h G hl KK)
    · exact lv_tableIn (off := 395) (tgt := 427) hx hb dL_law_32 (by decide +kernel) (by decide +kernel) (by decide +kernel) (by decide) (lc_use C hn h G hl KK)
    · exact lv_tableIn (off := 428) (tgt := 460) hx hb dL_law_32 (by decide +kernel) (by decide +kernel) (by decide +kernel) (by decide) (lc_shift C hn h G hl KK)
    · exact lv_tableIn (off := 481) (tgt := 513) hx hb dL_law_32 (by decide +kernel) (by decide +kernel) (by decide +kernel) (by decide) (lc_tray C hn h G hl KK)
    · exact lv_tableIn (off := 514) (tgt := 546) hx hb dL_law_32 (by decide +kernel) (by decide +kernel) (by decide +kernel) (by decide) (lc_lose C hn h G hl KK)
    · exact lv_tableIn (off := 547) (tgt := 579) hx hb dL_law_32 (by decide +kernel) (by decide +kernel) (by decide +kernel) (by decide) (lc_put C hn h G hl KK)
    · exact lv_tableIn (off := 590) (tgt := 622) hx hb dL_law_32 (by decide +kernel) (by decide +kernel) (by decide +kernel) (by decide) (lc_get C hn h G hl KK)
    · exact lv_tableIn (off := 623) (tgt := 655) hx hb dL_law_32 (by decide +kernel) (by decide +kernel) (by decide +kernel) (by decide) (lc_length C hn h G hl KK)
    · exact lv_tableIn (off := 656) (tgt := 688) hx hb dL_law_32 (by decide +kernel) (by decide +kernel) (by decide +kernel) (by decide) (lc_rack C hn h G hl KK)
    · exact lv_tableIn (off := 699) (tgt := 731) hx hb dL_law_32 (by decide +kernel) (by decide +kernel) (by decide +kernel) (by decide) (lc_lay C hn h G hl KK)
    · exact lv_tableIn (off := 742) (tgt := 774) hx hb dL_law_32 (by decide +kernel) (by decide +kernel) (by decide +kernel) (by decide) (lc_fetch C hn h G hl KK)
    · exact lv_tableIn (off := 795) (tgt := 827) hx hb dL_law_32 (by decide +kernel) (by decide +kernel) (by decide +kernel) (by decide) (lc_grid C hn h G hl KK)
    · exact lv_tableIn (off := 838) (tgt := 870) hx hb dL_law_32 (by decide +kernel) (by decide +kernel) (by decide +kernel) (by decide) (lc_strike C hn h G hl KK)
    · exact lv_tableIn (off := 871) (tgt := 903) hx hb dL_law_32 (by decide +kernel) (by decide +kernel) (by decide +kernel) (by decide) (lc_mark C hn h G hl KK)
    · exact lv_tableIn (off := 924) (tgt := 956) hx hb dL_law_32 (by decide +kernel) (by decide +kernel) (by decide +kernel) (by decide) (lc_cell C hn h G hl KK)
    · exact lv_tableIn (off := 967) (tgt := 999) hx hb dL_law_32 (by decide +kernel) (by decide +kernel) (by decide +kernel) (by decide) (lc_alarm C hn h G hl KK)
    · exact lv_tableIn (off := 1000) (tgt := 1032) hx hb dL_law_32 (by decide +kernel) (by decide +kernel) (by decide +kernel) (by decide) (lc_calm C hn h G hl KK)
    · exact lv_tableIn (off := 1023) (tgt := 1055) hx hb dL_law_32 (by decide +kernel) (by decide +kernel) (by decide +kernel) (by decide) (lc_let C hn h G hl KK)
    · exact lv_tableIn (off := 1046) (tgt := 1078) hx hb dL_law_32 (by decide +kernel) (by decide +kernel) (by decide +kernel) (by decide) (lc_why C hn h G hl KK)
    · exact lv_tableIn (off := 1059) (tgt := 1091) hx hb dL_law_32 (by decide +kernel) (by decide +kernel) (by decide +kernel) (by decide) (lc_count C hn h G hl KK)
    · exact lv_tableOut (tgt := 1114) hx hb dL_law_32 (Or.inr (by decide +kernel)) (by decide) (W.widen (Nat.le_succ _) (Nat.le_add_right _ 4) (KK ad n S H locs ls h (by omega) G hl))
    · exact lv_tableOut (tgt := 1114) hx hb dL_law_32 (Or.inr (by decide +kernel)) (by decide) (W.widen (Nat.le_succ _) (Nat.le_add_right _ 4) (KK ad n S H locs ls h (by omega) G hl))
    · exact lv_tableOut (tgt := 1114) hx hb dL_law_32 (Or.inr (by decide +kernel)) (by decide) (W.widen (Nat.le_succ _) (Nat.le_add_right _ 4) (KK ad n S H locs ls h (by omega) G hl))
    · exact lv_tableOut (tgt := 1114) hx hb dL_law_32 (Or.inr (by decide +kernel)) (by decide) (W.widen (Nat.le_succ _) (Nat.le_add_right _ 4) (KK ad n S H locs ls h (by omega) G hl))
end LO
set_option maxHeartbeats 4000000 in
theorem whole_start {p : Program} {e : Env} {s : State} {m : MethodId} {below : List Frame} {meth : Method} {c : Code} (l : Launch) {b L : Nat} {xs : Nat → Int32} (hL : L ≤ 2560) (C0 : lw_At p s m meth c b L xs) : W p l e room_1 s m #[Value.ref b] below meth c s.heap [] 0 0 (lw_Z below #[Value.ref b] s) (entryFrame m ([Value.ref b] : List Value).toArray 4) := by
  obtain ⟨hx, hb, hr, hml, hown, hts, hX, hbl, hlk, hgv⟩ := C0
  have hw : ∀ w ∈ wl, w.before #[Value.ref b] s = true := fun w h => hts w (wl_in w h)
  have hF : Fx s := fx_start hts hgv
  obtain ⟨cy, hcy⟩ := cy_start hw hF
  obtain ⟨k0, i0, u0⟩ := u_known hw inX0 (hw _ tb_156)
  obtain ⟨k1, i1, u1⟩ := u_known hw inX1 (hw _ tb_172)
  obtain ⟨k2, i2, u2⟩ := u_known hw inX2 (hw _ tb_183)
  obtain ⟨k3, i3, u3⟩ := u_known hw inX3 (hw _ tb_69)
  obtain ⟨k4, i4, u4⟩ := u_known hw inX4 (hw _ tb_128)
  obtain ⟨k5, i5, u5⟩ := u_known hw inX6 (hw _ tb_53)
  obtain ⟨k6, i6, u6⟩ := u_known hw inX7 (hw _ tb_28)
  obtain ⟨k7, i7, u7⟩ := u_known hw inX9 (hw _ tb_13)
  obtain ⟨k8, i8, u8⟩ := u_known hw inX10 (hw _ tb_416)
  obtain ⟨D, hD⟩ : ∃ D : va_G, D = (fun c => match c with | 0 => k0 | 1 => k1 | 2 => k2 | 3 => k3 | 4 => k4 | 5 => k5 | 6 => k6 | 7 => k7 | _ => k8, fun c => match c with | 0 => i0 | 1 => i1 | 2 => i2 | 3 => i3 | 4 => i4 | 5 => i5 | 6 => i6 | 7 => i7 | _ => i8) := ⟨_, rfl⟩
  have hK : va_K D vwCl (tysOf cy) s := by
    refine ⟨fun c q hq => ?_, hcy⟩
    subst hD
    match c, hq with
    | 0, hq => cases hq; exact u0
    | 1, hq => cases hq; exact u1
    | 2, hq => cases hq; exact u2
    | 3, hq => cases hq; exact u3
    | 4, hq => cases hq; exact u4
    | 5, hq => cases hq; exact u5
    | 6, hq => cases hq; exact u6
    | 7, hq => cases hq; exact u7
    | 8, hq => cases hq; exact u8
    | k + 9, hq => simp at hq
  clear hD
  have E : En p s m #[Value.ref b] meth c cL_law 4 ret RL D cy s.heap.size := ⟨hx, hb, hr, hml, hown, hw, hlk, hK, hF, Nat.le_refl _⟩
  have G : Gx D s.heap.size [] [] s.heap s.heap [] := ⟨fun k q h => by simp at h, ⟨fun i j p q h => by simp at h, fun k q h => by simp at h⟩, va_S.rf⟩
  have hl := lv_entry ([.ref b]) (n := 4) (Nat.le_of_ble_eq_true rfl)
  rw [lg_entry_eq]
  generalize (lg_sl ([.ref b]) ++ List.replicate (4 - (lg_sl ([.ref b])).length) Slot.unset).toArray = ls at hl ⊢
  have hl : lv_has ls 4 [(0, .ref b)] := hl
  refine x_newO (C := RX9) (Tb := TX9) (N := 10) (ci := 7) (fs := [.null, .null, .null, .null, .null, .null, .null, .int 0, .int 0, .int 0]) E G inX9 tyX9 tyX9_ok tb_12 tb_13 tb_1 rfl (fun j hj => by rcases (show j = 0 ∨ j = 1 ∨ j = 2 ∨ j = 3 ∨ j = 4 ∨ j = 5 ∨ j = 6 ∨ j = 7 ∨ j = 8 ∨ j = 9 by omega) with rfl | rfl | rfl | rfl | rfl | rfl | rfl | rfl | rfl | rfl <;> rfl) (Nat.le_of_ble_eq_true rfl) (Nat.le_of_ble_eq_true rfl) dL_law_0 (fun o H G => ?_)
  refine lv_dup hx hb dL_law_3 rfl ?_
  refine x_cI (X := []) (T0 := []) (T1 := [(o, .inr (7, [.null, .null, .null, .null, .null, .null, .null, .int 0, .int 0, .int 0]))]) (rest := [.ref o]) E G (kx_X9 l D cy s.heap.size [] o) tb_14 tb_1 tb_15 tb_16 rfl (nn := 0) (by decide +kernel) ⟨by decide, by decide⟩ rfl hl.1 rfl (Nat.le_of_ble_eq_true rfl) dL_law_4 ⟨Nat.le_of_ble_eq_true rfl, Nat.le_of_ble_eq_true rfl⟩ (fun a H locs G => ?_)
  refine lv_astore_n (lv' := [(1, .ref o), (0, .ref b)]) hx hb dL_law_7 rfl hl (by decide) rfl (fun ls hl => ?_)
  have G : Gx D s.heap.size [] (roomC cy o a) s.heap H locs := G
  refine x_newO (C := RX10) (Tb := TX10) (N := 21) (ci := 8) (fs := [.null, .int 0, .null, .null, .null, .null, .null, .null, .null, .null, .null, .null, .null, .null, .null, .null, .null, .int 0, .int 0, .null, .int 0]) E G inX10 tyX10 tyX10_ok tb_415 tb_416 tb_6 rfl (fun j hj => by rcases (show j = 0 ∨ j = 1 ∨ j = 2 ∨ j = 3 ∨ j = 4 ∨ j = 5 ∨ j = 6 ∨ j = 7 ∨ j = 8 ∨ j = 9 ∨ j = 10 ∨ j = 11 ∨ j = 12 ∨ j = 13 ∨ j = 14 ∨ j = 15 ∨ j = 16 ∨ j = 17 ∨ j = 18 ∨ j = 19 ∨ j = 20 by omega) with rfl | rfl | rfl | rfl | rfl | rfl | rfl | rfl | rfl | rfl | rfl | rfl | rfl | rfl | rfl | rfl | rfl | rfl | rfl | rfl | rfl <;> rfl) (Nat.le_of_ble_eq_true rfl) (Nat.le_of_ble_eq_true rfl) dL_law_8 (fun o2 H G => ?_)
  refine lv_dup hx hb dL_law_11 rfl ?_
  refine x_cI (X := []) (T0 := roomC cy o a) (T1 := [(o2, .inr (8, [.null, .int 0, .null, .null, .null, .null, .null, .null, .null, .null, .null, .null, .null, .null, .null, .null, .null, .int 0, .int 0, .null, .int 0]))]) (rest := [.ref o2]) E G (kx_X10 l D cy s.heap.size ([] ++ roomC cy o a) o2) tb_417 tb_6 tb_418 tb_419 rfl (nn := 0) (by decide +kernel) ⟨by decide, by decide⟩ rfl hl.1 rfl (Nat.le_of_ble_eq_true rfl) dL_law_12 ⟨Nat.le_of_ble_eq_true rfl, Nat.le_of_ble_eq_true rfl⟩ (fun a2 H locs G => ?_)
  have G : Gd D cy s.heap.size (adX o a o2 a2) 0 S0 s.heap H locs := by
    unfold Gd
    rw [pool_start]
    exact G
  refine lv_astore_n (lv' := [(2, .ref o2), (1, .ref o), (0, .ref b)]) hx hb dL_law_15 rfl hl (by decide) rfl (fun ls hl => ?_)
  refine lv_iconst (v := nI 0) hx hb dL_law_16 (by decide +kernel) ?_
  refine lv_istore_n (lv' := [(3, .int (nI 0)), (2, .ref o2), (1, .ref o), (0, .ref b)]) hx hb dL_law_17 rfl hl (by decide) rfl (fun ls hl => ?_)
  exact W.widen (Nat.le_of_ble_eq_true rfl) (Nat.le_of_ble_eq_true rfl) (lo_loop E hX hbl hL (L + 1) 0 (by omega) (Nat.zero_le _) (adX o a o2 a2) 0 S0 H locs ls (Nat.le_refl _) rel_start G hl)
