set_option maxHeartbeats 4000000 in
set_option maxRecDepth 100000 in
theorem lc_21 {p : Program} {e : Env} {s : State} {m : MethodId} {below : List Frame} {meth : Method} {c : Code} {l : Launch} {b L : Nat} {xs : Nat → Int32} {D : va_G} {ad : Nat → Nat} {cI cR : ClassId} {Q : State → Prop} (C : LC p s m c b L xs D ad cI cR) {n : Nat} (hn : n + 4 ≤ L) {H : Heap} {locs : List Loc} {ls : Array Slot} {mm : Mem} (g : GR mm mm) (hP : va_P D vwCl (cw ad cI cR mm) H) (hS : va_S (fun q : Nat => s.heap.size ≤ q) s.heap H locs) (hl : lv_has ls 8 (lwl b ad n)) (K : ∀ (H : Heap) (locs : List Loc) (ls : Array Slot) (mm : Mem), GR mm mm → va_P D vwCl (cw ad cI cR mm) H → va_S (fun q : Nat => s.heap.size ≤ q) s.heap H locs → lv_has ls 8 (lwl b ad n) → W p l e room_1 s m #[Value.ref b] below meth c H locs 364 5491 Q (F0 m 996 ls [])) : W p l e room_1 s m #[Value.ref b] below meth c H locs 364 5491 Q (F0 m 687 ls []) := by
  obtain ⟨hx, hb, hml, hown, hts, hX, hbl, hi, hA, hK, hN, hL⟩ := C
  have hbA : ¬ s.heap.size ≤ b := Nat.not_le.mpr hbl
  have hv1 : vp_in (nI n + 1) L := by rw [show nI n + 1 = nI (n + 1) from nI_1 n]; exact vp_in_nI (by omega) (by omega)
  have hv2 : vp_in (nI n + 2) L := by rw [show nI n + 2 = nI (n + 2) from nI_add n 2]; exact vp_in_nI (by omega) (by omega)
  have hv3 : vp_in (nI n + 3) L := by rw [show nI n + 3 = nI (n + 3) from nI_add n 3]; exact vp_in_nI (by omega) (by omega)
  obtain ⟨r, e1, e2, hn64⟩ := ok_share FU (xs (nI n + 1).toNatClampNeg) g
  have END : ∀ (H : Heap) (locs : List Loc) (ls : Array Slot) (dd : UInt64), va_P D vwCl (cw ad cI cR mm) H → va_S (fun q : Nat => s.heap.size ≤ q) s.heap H locs → lv_has ls 8 [(6, .double dd), (4, .double dd), (0, .ref b), (1, .ref (ad 0)), (2, .ref (ad 359)), (3, .int (nI n))] → W p l e room_1 s m #[Value.ref b] below meth c H locs 364 5491 Q (F0 m 737 ls []) := by
    intro H locs ls dd hP hS hl
    refine lv_goto (tgt := 996) hx hb dL_law_737 (by decide) ?_
    exact K _ _ ls mm g hP hS (lv_sub hl [2, 3, 4, 5] rfl)
  refine lv_aload_n hx hb dL_law_687 rfl (lv_at hl 1 rfl) ?_
  refine lv_aload_n hx hb dL_law_688 rfl (lv_at hl 0 rfl) ?_
  refine lv_iload_n hx hb dL_law_689 rfl (lv_at hl 3 rfl) ?_
  refine lv_iconst (v := 1) hx hb dL_law_690 (by decide) ?_
  refine lv_iadd hx hb dL_law_691 ?_
  refine va_sld hx hb hX hbl hbA hS hv1 dL_law_692 ?_
  refine w_cf (va_runV (As := [.int (xs (nI n + 1).toNatClampNeg)]) (rest := []) ⟨hx, hb, hml, hown, hts⟩ (c_X6_workShare l D ad cI cR hi FU (xs (nI n + 1).toNatClampNeg) mm r mm e1) (cwV 1 hts gL_law_X6_workShare rfl rfl rfl (by decide +kernel) ⟨Nat.le_of_ble_eq_true rfl, Nat.le_of_ble_eq_true rfl⟩) (w_preV (ci := 6) hK hP hN (S_ac ad cI cR).1 (S_ac ad cI cR).2 rfl) rfl rfl hl.1 rfl (lv_room (Nat.le_of_ble_eq_true rfl)) dL_law_693 ⟨Nat.le_of_ble_eq_true rfl, Nat.le_of_ble_eq_true rfl⟩) hA hS (fun H locs hP hS => ?_)
  refine lv_f2d hx hb dL_law_696 hn64 ?_
  obtain ⟨dd, hdd⟩ : ∃ dd, dd = FP.f2d r := ⟨_, rfl⟩
  rw [← hdd]
  refine lv_dstore (lv' := [(4, .double dd), (0, .ref b), (1, .ref (ad 0)), (2, .ref (ad 359)), (3, .int (nI n))]) hx hb dL_law_697 hl (by decide) rfl (fun ls hl => ?_)
  refine lv_aload_n hx hb dL_law_699 rfl (lv_at hl 3 rfl) ?_
  refine lv_aload_n hx hb dL_law_700 rfl (lv_at hl 1 rfl) ?_
  refine lv_iload_n hx hb dL_law_701 rfl (lv_at hl 4 rfl) ?_
  refine lv_iconst (v := 1) hx hb dL_law_702 (by decide) ?_
  refine lv_iadd hx hb dL_law_703 ?_
  refine va_sld hx hb hX hbl hbA hS hv1 dL_law_704 ?_
  refine w_cf (va_runV (As := [.int (xs (nI n + 1).toNatClampNeg)]) (rest := []) ⟨hx, hb, hml, hown, hts⟩ (c_X7_workShare l D ad cI cR hi FU (xs (nI n + 1).toNatClampNeg) mm r mm e2) (cwV 1 hts gL_law_X7_workShare rfl rfl rfl (by decide +kernel) ⟨Nat.le_of_ble_eq_true rfl, Nat.le_of_ble_eq_true rfl⟩) (w_preV (ci := 7) hK hP hN (S_mod ad cI cR).1 (S_mod ad cI cR).2 rfl) rfl rfl hl.1 rfl (lv_room (Nat.le_of_ble_eq_true rfl)) dL_law_705 ⟨Nat.le_of_ble_eq_true rfl, Nat.le_of_ble_eq_true rfl⟩) hA hS (fun H locs hP hS => ?_)
  refine lv_f2d hx hb dL_law_708 hn64 ?_
  rw [← hdd]
  refine lv_dstore (lv' := [(6, .double dd), (4, .double dd), (0, .ref b), (1, .ref (ad 0)), (2, .ref (ad 359)), (3, .int (nI n))]) hx hb dL_law_709 hl (by decide) rfl (fun ls hl => ?_)
  refine lv_dload hx hb dL_law_711 (lv_at hl 1 rfl) ?_
  refine lv_dload hx hb dL_law_713 (lv_at hl 0 rfl) ?_
  refine lv_dcmp hx hb dL_law_715 ?_
  obtain ⟨v, hv0⟩ : ∃ v, v = Op.cmpValue (FP.dcmp dd dd) CmpOp.l := ⟨_, rfl⟩
  rw [← hv0]
  refine lv_if_eq (tgt := 737) hx hb dL_law_716 (by decide) (fun _ => END _ _ ls dd hP hS hl) (fun hv => ?_)
  refine lv_dload hx hb dL_law_719 (lv_at hl 1 rfl) ?_
  refine lv_dload hx hb dL_law_721 (lv_at hl 1 rfl) ?_
  refine lv_dcmp hx hb dL_law_723 ?_
  rw [← hv0]
  refine lv_if_eq (tgt := 735) hx hb dL_law_724 (by decide) (fun h0 => absurd h0 hv) (fun _ => ?_)
  refine lv_dload hx hb dL_law_727 (lv_at hl 0 rfl) ?_
  refine lv_dload hx hb dL_law_729 (lv_at hl 0 rfl) ?_
  refine lv_dcmp hx hb dL_law_731 ?_
  rw [← hv0]
  exact lv_if_ne (tgt := 737) hx hb dL_law_732 (by decide) (fun _ => END _ _ ls dd hP hS hl) (fun h0 => absurd h0 hv)
