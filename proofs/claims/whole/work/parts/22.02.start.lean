theorem tb_cL {A : List Cond} (hA : ∀ w ∈ A, w ∈ tbw) : ∀ w ∈ A, w ∈ lw_tbl := fun w hw => (List.mem_filter.mp (hA w hw)).1
theorem tn_0 : Cond.methodLinkNest RX5 9 yX3_init "CongruenceLedger" ∈ lw_tbl := List.mem_of_getElem? (i := 48) (by decide +kernel)
theorem tn_1 : Cond.methodLinkNest RX5 30 yX0_init "CongruenceLedger" ∈ lw_tbl := List.mem_of_getElem? (i := 99) (by decide +kernel)
theorem tn_2 : Cond.methodLinkNest RX5 37 yX2_init "CongruenceLedger" ∈ lw_tbl := List.mem_of_getElem? (i := 122) (by decide +kernel)
theorem tn_3 : Cond.methodLinkNest RX5 47 yX4_init "CongruenceLedger" ∈ lw_tbl := List.mem_of_getElem? (i := 134) (by decide +kernel)
theorem cx_nreS {s : State} {H : Heap} {D : va_G} {cl : List vw_C} {ws : va_W} {tys : List (ClassId × FieldType)} {A : Nat → Prop} {As : List Value} {a0 : String} {x0 : Nat} {y0 : MethodName} {g0 : String} {a1 : String} {x1 : Nat} {y1 : MethodName} {g1 : String} {a2 : String} {x2 : Nat} {y2 : MethodName} {g2 : String} {a3 : String} {x3 : Nat} {y3 : MethodName} {g3 : String} (h0 : va_Nw (.methodLinkNest a0 x0 y0 g0) s) (h1 : va_Nw (.methodLinkNest a1 x1 y1 g1) s) (h2 : va_Nw (.methodLinkNest a2 x2 y2 g2) s) (h3 : va_Nw (.methodLinkNest a3 x3 y3 g3) s) (hP : va_P D cl ws H) (hK : va_K D cl tys s) (hD : va_D A ws) : PreS s H (va_Pc As (fun U => cx_M D cl ws tys H.size U ∧ va_Nw (.methodLinkNest a0 x0 y0 g0) U ∧ va_Nw (.methodLinkNest a1 x1 y1 g1) U ∧ va_Nw (.methodLinkNest a2 x2 y2 g2) U ∧ va_Nw (.methodLinkNest a3 x3 y3 g3) U)) As :=
  ⟨fun a U g mk q => ⟨q.1, (cx_M_blind (av := As) a U g mk ⟨q.1, q.2.1⟩).2, va_Nw.same rfl (u := U) (U := U.calling g mk a) rfl q.2.2.1, va_Nw.same rfl (u := U) (U := U.calling g mk a) rfl q.2.2.2.1, va_Nw.same rfl (u := U) (U := U.calling g mk a) rfl q.2.2.2.2.1, va_Nw.same rfl (u := U) (U := U.calling g mk a) rfl q.2.2.2.2.2⟩, fun U hU hW => ⟨rfl, (cx_M_pre (av := As) hP hK hD U hU hW).2, va_Nw.warmM hW h0, va_Nw.warmM hW h1, va_Nw.warmM hW h2, va_Nw.warmM hW h3⟩⟩
set_option maxHeartbeats 8000000 in
set_option maxRecDepth 100000 in
theorem lw_go {p : Program} {e : Env} {s : State} {m : MethodId} {below : List Frame} {meth : Method} {c : Code} (l : Launch) {b L : Nat} {xs : Nat → Int32} (hL : L ≤ 2048) (C0 : lw_At p s m meth c b L xs) (dC : Nat → ClassId) (dI : Nat → Nat → Nat) (kI kL : ClassId) (hK : va_K (dC, dI) vwCl [(kI, .int), (kL, .long)] s) (z : Nat → Nat) : ∀ (N v : Nat), L + 4 - v < N → v ≤ L + 3 → ∀ (n : Nat) (S : Nat → Int32) (F : Nat → Nat) (E : Nat → Nat) (k : Nat) (lf : Nat → Nat) (rt : Nat → Nat) (d : Nat) (on : Nat → Nat) (ot : Nat → Nat) (dp : Nat) (ct : Nat → Nat) (st : Nat → Nat) (dt : Nat → Nat) (f : Nat → Nat) (g : Nat → Nat) (w : Nat → Nat) (lb : Nat → Nat) (la : Nat → Nat) (H : Heap) (locs : List Loc) (ls : Array Slot), lwI dC dI kI kL s b z v n S F E k lf rt d on ot dp ct st dt f g w lb la H locs ls → W p l e room_1 s m #[Value.ref b] below meth c H locs 34 676 (lw_Z below #[Value.ref b] s) (F0 m 18 ls []) := by
  intro N
  induction N with
  | zero => intro v h; omega
  | succ N ih =>
    intro v hN hv3 n S F E k lf rt d on ot dp ct st dt f g w lb la H locs ls hI
    have C1 := C0
    have hI1 := hI
    obtain ⟨hx, hb, hr, hml, hown, hts, hX, hbl, hlocks, hgv⟩ := C0
    obtain ⟨hl, hP, hD, hS, qW, qf⟩ := hI
    have hbA : ¬ (fun q : Nat => s.heap.size ≤ q) b := Nat.not_le_of_lt hbl
    refine lv_iload_n hx hb dL_18 rfl (lv_at hl 3 rfl) ?_
    refine lv_aload_n hx hb dL_19 rfl (lv_at hl 0 rfl) ?_
    refine va_slen hx hb hX hbl hbA hS dL_20 ?_
    refine lv_iconst (v := nI 4) hx hb dL_21 (by decide) ?_
    refine lv_isub hx hb dL_22 ?_
    refine lv_icmp_gt (tgt := 655) hx hb dL_23 (by decide) (fun b0 => ?_) (fun b0 => ?_)
    · refine lv_iconst (v := 1) hx hb dL_655 (by decide) ?_
      refine va_forget hS.2.2 ?_
      refine W.widen (k := 600000) (n := 7302250) (by decide) (by decide) ?_
      exact lw_ret hx hb hr hlocks dL_656
    have hv4 : v + 4 ≤ L := lw_le hL hv3 b0
    have kk : ∀ (n : Nat) (S : Nat → Int32) (F : Nat → Nat) (E : Nat → Nat) (k : Nat) (lf : Nat → Nat) (rt : Nat → Nat) (d : Nat) (on : Nat → Nat) (ot : Nat → Nat) (dp : Nat) (ct : Nat → Nat) (st : Nat → Nat) (dt : Nat → Nat) (f : Nat → Nat) (g : Nat → Nat) (w : Nat → Nat) (lb : Nat → Nat) (la : Nat → Nat) (H : Heap) (locs : List Loc) (ls : Array Slot), lwI dC dI kI kL s b z v n S F E k lf rt d on ot dp ct st dt f g w lb la H locs ls → W p l e room_1 s m #[Value.ref b] below meth c H locs 34 676 (lw_Z below #[Value.ref b] s) (F0 m 649 ls []) := by
      intro n S F E k lf rt d on ot dp ct st dt f g w lb la H locs ls hI
      obtain ⟨hl, hP, hD, hS, qW, qf⟩ := hI
      refine lv_iinc (k := 3) (v := nI (v + 4)) hx hb dL_649 hl rfl (nI_add v 4) (by decide) rfl (fun ls hl => ?_)
      refine lv_goto (tgt := 18) hx hb dL_652 (by decide) ?_
      exact ih (v + 4) (by omega) (by omega) n S F E k lf rt d on ot dp ct st dt f g w lb la _ _ _ ⟨lv_sub hl [1, 2, 3, 0] rfl, hP, hD, hS, qW, qf⟩
    refine lv_aload_n hx hb dL_26 rfl (lv_at hl 0 rfl) ?_
    refine lv_iload_n hx hb dL_27 rfl (lv_at hl 3 rfl) ?_
    refine va_sld hx hb hX hbl hbA hS (vp_in_nI (n := v) (by omega) (by omega)) dL_28 ?_
    refine lv_bipush (v := nI 31) hx hb dL_29 (by decide) ?_
    refine lv_iand hx hb dL_31 ?_
    obtain ⟨j, hj, ej⟩ := lw_sw (xs (nI v).toNatClampNeg)
    rw [ej]
    have ei := lw_toInt hj
    by_cases hd : 19 < j
    · refine lv_tableOut (tgt := 649) hx hb dL_32 (Or.inr (by rw [ei]; omega)) (by decide) ?_
      exact kk n S F E k lf rt d on ot dp ct st dt f g w lb la _ _ _ hI1
    match j, hj, ei, hd with
    | 0, _, ei, _ => exact lv_tableIn (off := 96) (tgt := 128) hx hb dL_32 (by rw [ei]; decide) (by rw [ei]; decide) (by rw [ei]; rfl) (by decide) (lc_make l hL C1 dC dI kI kL hK z v hv4 n S F E k lf rt d on ot dp ct st dt f g w lb la hI1 kk)
    | 1, _, ei, _ => exact lv_tableIn (off := 139) (tgt := 171) hx hb dL_32 (by rw [ei]; decide) (by rw [ei]; decide) (by rw [ei]; rfl) (by decide) (lc_equate l hL C1 dC dI kI kL hK z v hv4 n S F E k lf rt d on ot dp ct st dt f g w lb la hI1 kk)
    | 2, _, ei, _ => exact lv_tableIn (off := 172) (tgt := 204) hx hb dL_32 (by rw [ei]; decide) (by rw [ei]; decide) (by rw [ei]; rfl) (by decide) (lc_differ l hL C1 dC dI kI kL hK z v hv4 n S F E k lf rt d on ot dp ct st dt f g w lb la hI1 kk)
    | 3, _, ei, _ => exact lv_tableIn (off := 205) (tgt := 237) hx hb dL_32 (by rw [ei]; decide) (by rw [ei]; decide) (by rw [ei]; rfl) (by decide) (lc_open l hL C1 dC dI kI kL hK z v hv4 n S F E k lf rt d on ot dp ct st dt f g w lb la hI1 kk)
    | 4, _, ei, _ => exact lv_tableIn (off := 218) (tgt := 250) hx hb dL_32 (by rw [ei]; decide) (by rw [ei]; decide) (by rw [ei]; rfl) (by decide) (lc_close l hL C1 dC dI kI kL hK z v hv4 n S F E k lf rt d on ot dp ct st dt f g w lb la hI1 kk)
    | 5, _, ei, _ => exact lv_tableIn (off := 231) (tgt := 263) hx hb dL_32 (by rw [ei]; decide) (by rw [ei]; decide) (by rw [ei]; rfl) (by decide) (lc_equal l hL C1 dC dI kI kL hK z v hv4 n S F E k lf rt d on ot dp ct st dt f g w lb la hI1 kk)
    | 6, _, ei, _ => exact lv_tableIn (off := 264) (tgt := 296) hx hb dL_32 (by rw [ei]; decide) (by rw [ei]; decide) (by rw [ei]; rfl) (by decide) (lc_apart l hL C1 dC dI kI kL hK z v hv4 n S F E k lf rt d on ot dp ct st dt f g w lb la hI1 kk)
    | 7, _, ei, _ => exact lv_tableIn (off := 297) (tgt := 329) hx hb dL_32 (by rw [ei]; decide) (by rw [ei]; decide) (by rw [ei]; rfl) (by decide) (lc_consistent l hL C1 dC dI kI kL hK z v hv4 n S F E k lf rt d on ot dp ct st dt f g w lb la hI1 kk)
    | 8, _, ei, _ => exact lv_tableIn (off := 310) (tgt := 342) hx hb dL_32 (by rw [ei]; decide) (by rw [ei]; decide) (by rw [ei]; rfl) (by decide) (lc_leader l hL C1 dC dI kI kL hK z v hv4 n S F E k lf rt d on ot dp ct st dt f g w lb la hI1 kk)
    | 9, _, ei, _ => exact lv_tableIn (off := 333) (tgt := 365) hx hb dL_32 (by rw [ei]; decide) (by rw [ei]; decide) (by rw [ei]; rfl) (by decide) (lc_members l hL C1 dC dI kI kL hK z v hv4 n S F E k lf rt d on ot dp ct st dt f g w lb la hI1 kk)
    | 10, _, ei, _ => exact lv_tableIn (off := 356) (tgt := 388) hx hb dL_32 (by rw [ei]; decide) (by rw [ei]; decide) (by rw [ei]; rfl) (by decide) (lc_classes l hL C1 dC dI kI kL hK z v hv4 n S F E k lf rt d on ot dp ct st dt f g w lb la hI1 kk)
    | 11, _, ei, _ => exact lv_tableIn (off := 369) (tgt := 401) hx hb dL_32 (by rw [ei]; decide) (by rw [ei]; decide) (by rw [ei]; rfl) (by decide) (lc_find l hL C1 dC dI kI kL hK z v hv4 n S F E k lf rt d on ot dp ct st dt f g w lb la hI1 kk)
    | 12, _, ei, _ => exact lv_tableIn (off := 412) (tgt := 444) hx hb dL_32 (by rw [ei]; decide) (by rw [ei]; decide) (by rw [ei]; rfl) (by decide) (lc_since l hL C1 dC dI kI kL hK z v hv4 n S F E k lf rt d on ot dp ct st dt f g w lb la hI1 kk)
    | 13, _, ei, _ => exact lv_tableIn (off := 445) (tgt := 477) hx hb dL_32 (by rw [ei]; decide) (by rw [ei]; decide) (by rw [ei]; rfl) (by decide) (lc_expl l hL C1 dC dI kI kL hK z v hv4 n S F E k lf rt d on ot dp ct st dt f g w lb la hI1 kk)
    | 14, _, ei, _ => exact lv_tableIn (off := 478) (tgt := 510) hx hb dL_32 (by rw [ei]; decide) (by rw [ei]; decide) (by rw [ei]; rfl) (by decide) (lc_need l hL C1 dC dI kI kL hK z v hv4 n S F E k lf rt d on ot dp ct st dt f g w lb la hI1 kk)
    | 15, _, ei, _ => exact lv_tableIn (off := 511) (tgt := 543) hx hb dL_32 (by rw [ei]; decide) (by rw [ei]; decide) (by rw [ei]; rfl) (by decide) (lc_weight l hL C1 dC dI kI kL hK z v hv4 n S F E k lf rt d on ot dp ct st dt f g w lb la hI1 kk)
    | 16, _, ei, _ => exact lv_tableIn (off := 535) (tgt := 567) hx hb dL_32 (by rw [ei]; decide) (by rw [ei]; decide) (by rw [ei]; rfl) (by decide) (lc_best l hL C1 dC dI kI kL hK z v hv4 n S F E k lf rt d on ot dp ct st dt f g w lb la hI1 kk)
    | 17, _, ei, _ => exact lv_tableIn (off := 558) (tgt := 590) hx hb dL_32 (by rw [ei]; decide) (by rw [ei]; decide) (by rw [ei]; rfl) (by decide) (lc_written l hL C1 dC dI kI kL hK z v hv4 n S F E k lf rt d on ot dp ct st dt f g w lb la hI1 kk)
    | 18, _, ei, _ => exact lv_tableIn (off := 591) (tgt := 623) hx hb dL_32 (by rw [ei]; decide) (by rw [ei]; decide) (by rw [ei]; rfl) (by decide) (lc_terms l hL C1 dC dI kI kL hK z v hv4 n S F E k lf rt d on ot dp ct st dt f g w lb la hI1 kk)
    | 19, _, ei, _ => exact lv_tableIn (off := 604) (tgt := 636) hx hb dL_32 (by rw [ei]; decide) (by rw [ei]; decide) (by rw [ei]; rfl) (by decide) (lc_equations l hL C1 dC dI kI kL hK z v hv4 n S F E k lf rt d on ot dp ct st dt f g w lb la hI1 kk)
    | j + 20, hj, ei, hd => exact absurd (by omega : 19 < j + 20) hd
