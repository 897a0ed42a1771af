set_option maxHeartbeats 4000000 in
set_option maxRecDepth 100000 in
theorem lc_25 {p : Program} {e : Env} {s : State} {m : MethodId} {below : List Frame} {meth : Method} {c : Code} {l : Launch} {b L : Nat} {xs : Nat → Int32} {D : va_G} {ad : Nat → Nat} {cI cR : ClassId} {Q : State → Prop} (C : LC p s m c b L xs D ad cI cR) {n : Nat} (hn : n + 4 ≤ L) {H : Heap} {locs : List Loc} {ls : Array Slot} {mm : Mem} (g : GR mm mm) (hP : va_P D vwCl (cw ad cI cR mm) H) (hS : va_S (fun q : Nat => s.heap.size ≤ q) s.heap H locs) (hl : lv_has ls 8 (lwl b ad n)) (K : ∀ (H : Heap) (locs : List Loc) (ls : Array Slot) (mm : Mem), GR mm mm → va_P D vwCl (cw ad cI cR mm) H → va_S (fun q : Nat => s.heap.size ≤ q) s.heap H locs → lv_has ls 8 (lwl b ad n) → W p l e room_1 s m #[Value.ref b] below meth c H locs 364 5491 Q (F0 m 996 ls [])) : W p l e room_1 s m #[Value.ref b] below meth c H locs 364 5491 Q (F0 m 799 ls []) := by
  obtain ⟨hx, hb, hml, hown, hts, hX, hbl, hi, hA, hK, hN, hL⟩ := C
  have hbA : ¬ s.heap.size ≤ b := Nat.not_le.mpr hbl
  have hv1 : vp_in (nI n + 1) L := by rw [show nI n + 1 = nI (n + 1) from nI_1 n]; exact vp_in_nI (by omega) (by omega)
  have hv2 : vp_in (nI n + 2) L := by rw [show nI n + 2 = nI (n + 2) from nI_add n 2]; exact vp_in_nI (by omega) (by omega)
  have hv3 : vp_in (nI n + 3) L := by rw [show nI n + 3 = nI (n + 3) from nI_add n 3]; exact vp_in_nI (by omega) (by omega)
  obtain ⟨r, m1, m2, e1, e2, g2⟩ := two (ok_done FU (xs (nI n + 1).toNatClampNeg)) g
  refine lv_aload_n hx hb dL_law_799 rfl (lv_at hl 1 rfl) ?_
  refine lv_aload_n hx hb dL_law_800 rfl (lv_at hl 0 rfl) ?_
  refine lv_iload_n hx hb dL_law_801 rfl (lv_at hl 3 rfl) ?_
  refine lv_iconst (v := 1) hx hb dL_law_802 (by decide) ?_
  refine lv_iadd hx hb dL_law_803 ?_
  refine va_sld hx hb hX hbl hbA hS (hv1) dL_law_804 ?_
  refine w_ci (va_runV (As := [.int (xs (nI n + 1).toNatClampNeg)]) (rest := []) ⟨hx, hb, hml, hown, hts⟩ (c_X6_done l D ad cI cR hi FU (xs (nI n + 1).toNatClampNeg) mm r m1 e1) (cwV 1 hts gL_law_X6_done rfl rfl rfl (by decide +kernel) ⟨Nat.le_of_ble_eq_true rfl, Nat.le_of_ble_eq_true rfl⟩) (w_preV (ci := 6) hK hP hN (S_ac ad cI cR).1 (S_ac ad cI cR).2 rfl) rfl rfl hl.1 rfl (lv_room (Nat.le_of_ble_eq_true rfl)) dL_law_805 ⟨Nat.le_of_ble_eq_true rfl, Nat.le_of_ble_eq_true rfl⟩) hA hS (fun H locs hP hS => ?_)
  refine lv_aload_n hx hb dL_law_808 rfl (lv_at hl 2 rfl) ?_
  refine lv_aload_n hx hb dL_law_809 rfl (lv_at hl 0 rfl) ?_
  refine lv_iload_n hx hb dL_law_810 rfl (lv_at hl 3 rfl) ?_
  refine lv_iconst (v := 1) hx hb dL_law_811 (by decide) ?_
  refine lv_iadd hx hb dL_law_812 ?_
  refine va_sld hx hb hX hbl hbA hS (hv1) dL_law_813 ?_
  refine w_ci (va_runV (As := [.int (xs (nI n + 1).toNatClampNeg)]) (rest := [.int r]) ⟨hx, hb, hml, hown, hts⟩ (c_X7_done l D ad cI cR hi FU (xs (nI n + 1).toNatClampNeg) m1 r m2 e2) (cwV 1 hts gL_law_X7_done rfl rfl rfl (by decide +kernel) ⟨Nat.le_of_ble_eq_true rfl, Nat.le_of_ble_eq_true rfl⟩) (w_preV (ci := 7) hK hP hN (S_mod ad cI cR).1 (S_mod ad cI cR).2 rfl) rfl rfl hl.1 rfl (lv_room (Nat.le_of_ble_eq_true rfl)) dL_law_814 ⟨Nat.le_of_ble_eq_true rfl, Nat.le_of_ble_eq_true rfl⟩) hA hS (fun H locs hP hS => ?_)
  refine lv_icmp_eq (tgt := 996) hx hb dL_law_817 (by decide) (fun _ => K _ _ ls m2 g2 hP hS hl) (fun c9 => absurd rfl c9)
set_option maxHeartbeats 4000000 in
set_option maxRecDepth 100000 in
theorem lc_26 {p : Program} {e : Env} {s : State} {m : MethodId} {below : List Frame} {meth : Method} {c : Code} {l : Launch} {b L : Nat} {xs : Nat → Int32} {D : va_G} {ad : Nat → Nat} {cI cR : ClassId} {Q : State → Prop} (C : LC p s m c b L xs D ad cI cR) {n : Nat} (hn : n + 4 ≤ L) {H : Heap} {locs : List Loc} {ls : Array Slot} {mm : Mem} (g : GR mm mm) (hP : va_P D vwCl (cw ad cI cR mm) H) (hS : va_S (fun q : Nat => s.heap.size ≤ q) s.heap H locs) (hl : lv_has ls 8 (lwl b ad n)) (K : ∀ (H : Heap) (locs : List Loc) (ls : Array Slot) (mm : Mem), GR mm mm → va_P D vwCl (cw ad cI cR mm) H → va_S (fun q : Nat => s.heap.size ≤ q) s.heap H locs → lv_has ls 8 (lwl b ad n) → W p l e room_1 s m #[Value.ref b] below meth c H locs 364 5491 Q (F0 m 996 ls [])) : W p l e room_1 s m #[Value.ref b] below meth c H locs 364 5491 Q (F0 m 822 ls []) := by
  obtain ⟨hx, hb, hml, hown, hts, hX, hbl, hi, hA, hK, hN, hL⟩ := C
  have hbA : ¬ s.heap.size ≤ b := Nat.not_le.mpr hbl
  have hv1 : vp_in (nI n + 1) L := by rw [show nI n + 1 = nI (n + 1) from nI_1 n]; exact vp_in_nI (by omega) (by omega)
  have hv2 : vp_in (nI n + 2) L := by rw [show nI n + 2 = nI (n + 2) from nI_add n 2]; exact vp_in_nI (by omega) (by omega)
  have hv3 : vp_in (nI n + 3) L := by rw [show nI n + 3 = nI (n + 3) from nI_add n 3]; exact vp_in_nI (by omega) (by omega)
  obtain ⟨r, m1, m2, e1, e2, g2⟩ := two (ok_offers FU (xs (nI n + 1).toNatClampNeg)) g
  refine lv_aload_n hx hb dL_law_822 rfl (lv_at hl 1 rfl) ?_
  refine lv_aload_n hx hb dL_law_823 rfl (lv_at hl 0 rfl) ?_
  refine lv_iload_n hx hb dL_law_824 rfl (lv_at hl 3 rfl) ?_
  refine lv_iconst (v := 1) hx hb dL_law_825 (by decide) ?_
  refine lv_iadd hx hb dL_law_826 ?_
  refine va_sld hx hb hX hbl hbA hS (hv1) dL_law_827 ?_
  refine w_ci (va_runV (As := [.int (xs (nI n + 1).toNatClampNeg)]) (rest := []) ⟨hx, hb, hml, hown, hts⟩ (c_X6_offers l D ad cI cR hi FU (xs (nI n + 1).toNatClampNeg) mm r m1 e1) (cwV 1 hts gL_law_X6_offers rfl rfl rfl (by decide +kernel) ⟨Nat.le_of_ble_eq_true rfl, Nat.le_of_ble_eq_true rfl⟩) (w_preV (ci := 6) hK hP hN (S_ac ad cI cR).1 (S_ac ad cI cR).2 rfl) rfl rfl hl.1 rfl (lv_room (Nat.le_of_ble_eq_true rfl)) dL_law_828 ⟨Nat.le_of_ble_eq_true rfl, Nat.le_of_ble_eq_true rfl⟩) hA hS (fun H locs hP hS => ?_)
  refine lv_aload_n hx hb dL_law_831 rfl (lv_at hl 2 rfl) ?_
  refine lv_aload_n hx hb dL_law_832 rfl (lv_at hl 0 rfl) ?_
  refine lv_iload_n hx hb dL_law_833 rfl (lv_at hl 3 rfl) ?_
  refine lv_iconst (v := 1) hx hb dL_law_834 (by decide) ?_
  refine lv_iadd hx hb dL_law_835 ?_
  refine va_sld hx hb hX hbl hbA hS (hv1) dL_law_836 ?_
  refine w_ci (va_runV (As := [.int (xs (nI n + 1).toNatClampNeg)]) (rest := [.int r]) ⟨hx, hb, hml, hown, hts⟩ (c_X7_offers l D ad cI cR hi FU (xs (nI n + 1).toNatClampNeg) m1 r m2 e2) (cwV 1 hts gL_law_X7_offers rfl rfl rfl (by decide +kernel) ⟨Nat.le_of_ble_eq_true rfl, Nat.le_of_ble_eq_true rfl⟩) (w_preV (ci := 7) hK hP hN (S_mod ad cI cR).1 (S_mod ad cI cR).2 rfl) rfl rfl hl.1 rfl (lv_room (Nat.le_of_ble_eq_true rfl)) dL_law_837 ⟨Nat.le_of_ble_eq_true rfl, Nat.le_of_ble_eq_true rfl⟩) hA hS (fun H locs hP hS => ?_)
  refine lv_icmp_eq (tgt := 996) hx hb dL_law_840 (by decide) (fun _ => K _ _ ls m2 g2 hP hS hl) (fun c9 => absurd rfl c9)
set_option maxHeartbeats 4000000 in
set_option maxRecDepth 100000 in
theorem lc_27 {p : Program} {e : Env} {s : State} {m : MethodId} {below : List Frame} {meth : Method} {c : Code} {l : Launch} {b L : Nat} {xs : Nat → Int32} {D : va_G} {ad : Nat → Nat} {cI cR : ClassId} {Q : State → Prop} (C : LC p s m c b L xs D ad cI cR) {n : Nat} (hn : n + 4 ≤ L) {H : Heap} {locs : List Loc} {ls : Array Slot} {mm : Mem} (g : GR mm mm) (hP : va_P D vwCl (cw ad cI cR mm) H) (hS : va_S (fun q : Nat => s.heap.size ≤ q) s.heap H locs) (hl : lv_has ls 8 (lwl b ad n)) (K : ∀ (H : Heap) (locs : List Loc) (ls : Array Slot) (mm : Mem), GR mm mm → va_P D vwCl (cw ad cI cR mm) H → va_S (fun q : Nat => s.heap.size ≤ q) s.heap H locs → lv_has ls 8 (lwl b ad n) → W p l e room_1 s m #[Value.ref b] below meth c H locs 364 5491 Q (F0 m 996 ls [])) : W p l e room_1 s m #[Value.ref b] below meth c H locs 364 5491 Q (F0 m 845 ls []) := by
  obtain ⟨hx, hb, hml, hown, hts, hX, hbl, hi, hA, hK, hN, hL⟩ := C
  have hbA : ¬ s.heap.size ≤ b := Nat.not_le.mpr hbl
  have hv1 : vp_in (nI n + 1) L := by rw [show nI n + 1 = nI (n + 1) from nI_1 n]; exact vp_in_nI (by omega) (by omega)
  have hv2 : vp_in (nI n + 2) L := by rw [show nI n + 2 = nI (n + 2) from nI_add n 2]; exact vp_in_nI (by omega) (by omega)
  have hv3 : vp_in (nI n + 3) L := by rw [show nI n + 3 = nI (n + 3) from nI_add n 3]; exact vp_in_nI (by omega) (by omega)
  obtain ⟨r, m1, m2, e1, e2, g2⟩ := two (ok_reason FU (xs (nI n + 1).toNatClampNeg)) g
  refine lv_aload_n hx hb dL_law_845 rfl (lv_at hl 1 rfl) ?_
  refine lv_aload_n hx hb dL_law_846 rfl (lv_at hl 0 rfl) ?_
  refine lv_iload_n hx hb dL_law_847 rfl (lv_at hl 3 rfl) ?_
  refine lv_iconst (v := 1) hx hb dL_law_848 (by decide) ?_
  refine lv_iadd hx hb dL_law_849 ?_
  refine va_sld hx hb hX hbl hbA hS (hv1) dL_law_850 ?_
  refine w_ci (va_runV (As := [.int (xs (nI n + 1).toNatClampNeg)]) (rest := []) ⟨hx, hb, hml, hown, hts⟩ (c_X6_reason l D ad cI cR hi FU (xs (nI n + 1).toNatClampNeg) mm r m1 e1) (cwV 1 hts gL_law_X6_reason rfl rfl rfl (by decide +kernel) ⟨Nat.le_of_ble_eq_true rfl, Nat.le_of_ble_eq_true rfl⟩) (w_preV (ci := 6) hK hP hN (S_ac ad cI cR).1 (S_ac ad cI cR).2 rfl) rfl rfl hl.1 rfl (lv_room (Nat.le_of_ble_eq_true rfl)) dL_law_851 ⟨Nat.le_of_ble_eq_true rfl, Nat.le_of_ble_eq_true rfl⟩) hA hS (fun H locs hP hS => ?_)
  refine lv_aload_n hx hb dL_law_854 rfl (lv_at hl 2 rfl) ?_
  refine lv_aload_n hx hb dL_law_855 rfl (lv_at hl 0 rfl) ?_
  refine lv_iload_n hx hb dL_law_856 rfl (lv_at hl 3 rfl) ?_
  refine lv_iconst (v := 1) hx hb dL_law_857 (by decide) ?_
  refine lv_iadd hx hb dL_law_858 ?_
  refine va_sld hx hb hX hbl hbA hS (hv1) dL_law_859 ?_
  refine w_ci (va_runV (As := [.int (xs (nI n + 1).toNatClampNeg)]) (rest := [.int r]) ⟨hx, hb, hml, hown, hts⟩ (c_X7_reason l D ad cI cR hi FU (xs (nI n + 1).toNatClampNeg) m1 r m2 e2) (cwV 1 hts gL_law_X7_reason rfl rfl rfl (by decide +kernel) ⟨Nat.le_of_ble_eq_true rfl, Nat.le_of_ble_eq_true rfl⟩) (w_preV (ci := 7) hK hP hN (S_mod ad cI cR).1 (S_mod ad cI cR).2 rfl) rfl rfl hl.1 rfl (lv_room (Nat.le_of_ble_eq_true rfl)) dL_law_860 ⟨Nat.le_of_ble_eq_true rfl, Nat.le_of_ble_eq_true rfl⟩) hA hS (fun H locs hP hS => ?_)
  refine lv_icmp_eq (tgt := 996) hx hb dL_law_863 (by decide) (fun _ => K _ _ ls m2 g2 hP hS hl) (fun c9 => absurd rfl c9)
set_option maxHeartbeats 4000000 in
set_option maxRecDepth 100000 in
theorem lc_28 {p : Program} {e : Env} {s : State} {m : MethodId} {below : List Frame} {meth : Method} {c : Code} {l : Launch} {b L : Nat} {xs : Nat → Int32} {D : va_G} {ad : Nat → Nat} {cI cR : ClassId} {Q : State → Prop} (C : LC p s m c b L xs D ad cI cR) {n : Nat} (hn : n + 4 ≤ L) {H : Heap} {locs : List Loc} {ls : Array Slot} {mm : Mem} (g : GR mm mm) (hP : va_P D vwCl (cw ad cI cR mm) H) (hS : va_S (fun q : Nat => s.heap.size ≤ q) s.heap H locs) (hl : lv_has ls 8 (lwl b ad n)) (K : ∀ (H : Heap) (locs : List Loc) (ls : Array Slot) (mm : Mem), GR mm mm → va_P D vwCl (cw ad cI cR mm) H → va_S (fun q : Nat => s.heap.size ≤ q) s.heap H locs → lv_has ls 8 (lwl b ad n) → W p l e room_1 s m #[Value.ref b] below meth c H locs 364 5491 Q (F0 m 996 ls [])) : W p l e room_1 s m #[Value.ref b] below meth c H locs 364 5491 Q (F0 m 868 ls []) := by
  obtain ⟨hx, hb, hml, hown, hts, hX, hbl, hi, hA, hK, hN, hL⟩ := C
  have hbA : ¬ s.heap.size ≤ b := Nat.not_le.mpr hbl
  have hv1 : vp_in (nI n + 1) L := by rw [show nI n + 1 = nI (n + 1) from nI_1 n]; exact vp_in_nI (by omega) (by omega)
  have hv2 : vp_in (nI n + 2) L := by rw [show nI n + 2 = nI (n + 2) from nI_add n 2]; exact vp_in_nI (by omega) (by omega)
  have hv3 : vp_in (nI n + 3) L := by rw [show nI n + 3 = nI (n + 3) from nI_add n 3]; exact vp_in_nI (by omega) (by omega)
  obtain ⟨r, m1, m2, e1, e2, g2⟩ := two (ok_when FU (xs (nI n + 1).toNatClampNeg)) g
  refine lv_aload_n hx hb dL_law_868 rfl (lv_at hl 1 rfl) ?_
  refine lv_aload_n hx hb dL_law_869 rfl (lv_at hl 0 rfl) ?_
  refine lv_iload_n hx hb dL_law_870 rfl (lv_at hl 3 rfl) ?_
  refine lv_iconst (v := 1) hx hb dL_law_871 (by decide) ?_
  refine lv_iadd hx hb dL_law_872 ?_
  refine va_sld hx hb hX hbl hbA hS (hv1) dL_law_873 ?_
  refine w_ci (va_runV (As := [.int (xs (nI n + 1).toNatClampNeg)]) (rest := []) ⟨hx, hb, hml, hown, hts⟩ (c_X6_when l D ad cI cR hi FU (xs (nI n + 1).toNatClampNeg) mm r m1 e1) (cwV 1 hts gL_law_X6_when rfl rfl rfl (by decide +kernel) ⟨Nat.le_of_ble_eq_true rfl, Nat.le_of_ble_eq_true rfl⟩) (w_preV (ci := 6) hK hP hN (S_ac ad cI cR).1 (S_ac ad cI cR).2 rfl) rfl rfl hl.1 rfl (lv_room (Nat.le_of_ble_eq_true rfl)) dL_law_874 ⟨Nat.le_of_ble_eq_true rfl, Nat.le_of_ble_eq_true rfl⟩) hA hS (fun H locs hP hS => ?_)
  refine lv_aload_n hx hb dL_law_877 rfl (lv_at hl 2 rfl) ?_
  refine lv_aload_n hx hb dL_law_878 rfl (lv_at hl 0 rfl) ?_
  refine lv_iload_n hx hb dL_law_879 rfl (lv_at hl 3 rfl) ?_
  refine lv_iconst (v := 1) hx hb dL_law_880 (by decide) ?_
  refine lv_iadd hx hb dL_law_881 ?_
  refine va_sld hx hb hX hbl hbA hS (hv1) dL_law_882 ?_
  refine w_ci (va_runV (As := [.int (xs (nI n + 1).toNatClampNeg)]) (rest := [.int r]) ⟨hx, hb, hml, hown, hts⟩ (c_X7_when l D ad cI cR hi FU (xs (nI n + 1).toNatClampNeg) m1 r m2 e2) (cwV 1 hts gL_law_X7_when rfl rfl rfl (by decide +kernel) ⟨Nat.le_of_ble_eq_true rfl, Nat.le_of_ble_eq_true rfl⟩) (w_preV (ci := 7) hK hP hN (S_mod ad cI cR).1 (S_mod ad cI cR).2 rfl) rfl rfl hl.1 rfl (lv_room (Nat.le_of_ble_eq_true rfl)) dL_law_883 ⟨Nat.le_of_ble_eq_true rfl, Nat.le_of_ble_eq_true rfl⟩) hA hS (fun H locs hP hS => ?_)
  refine lv_icmp_eq (tgt := 996) hx hb dL_law_886 (by decide) (fun _ => K _ _ ls m2 g2 hP hS hl) (fun c9 => absurd rfl c9)
set_option maxHeartbeats 4000000 in
set_option maxRecDepth 100000 in
theorem lc_29 {p : Program} {e : Env} {s : State} {m : MethodId} {below : List Frame} {meth : Method} {c : Code} {l : Launch} {b L : Nat} {xs : Nat → Int32} {D : va_G} {ad : Nat → Nat} {cI cR : ClassId} {Q : State → Prop} (C : LC p s m c b L xs D ad cI cR) {n : Nat} (hn : n + 4 ≤ L) {H : Heap} {locs : List Loc} {ls : Array Slot} {mm : Mem} (g : GR mm mm) (hP : va_P D vwCl (cw ad cI cR mm) H) (hS : va_S (fun q : Nat => s.heap.size ≤ q) s.heap H locs) (hl : lv_has ls 8 (lwl b ad n)) (K : ∀ (H : Heap) (locs : List Loc) (ls : Array Slot) (mm : Mem), GR mm mm → va_P D vwCl (cw ad cI cR mm) H → va_S (fun q : Nat => s.heap.size ≤ q) s.heap H locs → lv_has ls 8 (lwl b ad n) → W p l e room_1 s m #[Value.ref b] below meth c H locs 364 5491 Q (F0 m 996 ls [])) : W p l e room_1 s m #[Value.ref b] below meth c H locs 364 5491 Q (F0 m 891 ls []) := by
  obtain ⟨hx, hb, hml, hown, hts, hX, hbl, hi, hA, hK, hN, hL⟩ := C
  have hbA : ¬ s.heap.size ≤ b := Nat.not_le.mpr hbl
  have hv1 : vp_in (nI n + 1) L := by rw [show nI n + 1 = nI (n + 1) from nI_1 n]; exact vp_in_nI (by omega) (by omega)
  have hv2 : vp_in (nI n + 2) L := by rw [show nI n + 2 = nI (n + 2) from nI_add n 2]; exact vp_in_nI (by omega) (by omega)
  have hv3 : vp_in (nI n + 3) L := by rw [show nI n + 3 = nI (n + 3) from nI_add n 3]; exact vp_in_nI (by omega) (by omega)
  obtain ⟨r, m1, m2, e1, e2, g2⟩ := two (ok_wouldRefuse FU (by decide) (xs (nI n + 1).toNatClampNeg) (xs (nI n + 2).toNatClampNeg)) g
  refine lv_aload_n hx hb dL_law_891 rfl (lv_at hl 1 rfl) ?_
  refine lv_aload_n hx hb dL_law_892 rfl (lv_at hl 0 rfl) ?_
  refine lv_iload_n hx hb dL_law_893 rfl (lv_at hl 3 rfl) ?_
  refine lv_iconst (v := 1) hx hb dL_law_894 (by decide) ?_
  refine lv_iadd hx hb dL_law_895 ?_
  refine va_sld hx hb hX hbl hbA hS (hv1) dL_law_896 ?_
  refine lv_aload_n hx hb dL_law_897 rfl (lv_at hl 0 rfl) ?_
  refine lv_iload_n hx hb dL_law_898 rfl (lv_at hl 3 rfl) ?_
  refine lv_iconst (v := 2) hx hb dL_law_899 (by decide) ?_
  refine lv_iadd hx hb dL_law_900 ?_
  refine va_sld hx hb hX hbl hbA hS (hv2) dL_law_901 ?_
  refine w_ci (va_runV (As := [.int (xs (nI n + 1).toNatClampNeg), .int (xs (nI n + 2).toNatClampNeg)]) (rest := []) ⟨hx, hb, hml, hown, hts⟩ (c_X6_wouldRefuse l D ad cI cR hi FU (xs (nI n + 1).toNatClampNeg) (xs (nI n + 2).toNatClampNeg) mm r m1 e1) (cwV 2 hts gL_law_X6_wouldRefuse rfl rfl rfl (by decide +kernel) ⟨Nat.le_of_ble_eq_true rfl, Nat.le_of_ble_eq_true rfl⟩) (w_preV (ci := 6) hK hP hN (S_ac ad cI cR).1 (S_ac ad cI cR).2 rfl) rfl rfl hl.1 rfl (lv_room (Nat.le_of_ble_eq_true rfl)) dL_law_902 ⟨Nat.le_of_ble_eq_true rfl, Nat.le_of_ble_eq_true rfl⟩) hA hS (fun H locs hP hS => ?_)
  refine lv_aload_n hx hb dL_law_905 rfl (lv_at hl 2 rfl) ?_
  refine lv_aload_n hx hb dL_law_906 rfl (lv_at hl 0 rfl) ?_
  refine lv_iload_n hx hb dL_law_907 rfl (lv_at hl 3 rfl) ?_
  refine lv_iconst (v := 1) hx hb dL_law_908 (by decide) ?_
  refine lv_iadd hx hb dL_law_909 ?_
  refine va_sld hx hb hX hbl hbA hS (hv1) dL_law_910 ?_
  refine lv_aload_n hx hb dL_law_911 rfl (lv_at hl 0 rfl) ?_
  refine lv_iload_n hx hb dL_law_912 rfl (lv_at hl 3 rfl) ?_
  refine lv_iconst (v := 2) hx hb dL_law_913 (by decide) ?_
  refine lv_iadd hx hb dL_law_914 ?_
  refine va_sld hx hb hX hbl hbA hS (hv2) dL_law_915 ?_
  refine w_ci (va_runV (As := [.int (xs (nI n + 1).toNatClampNeg), .int (xs (nI n + 2).toNatClampNeg)]) (rest := [.int r]) ⟨hx, hb, hml, hown, hts⟩ (c_X7_wouldRefuse l D ad cI cR hi FU (xs (nI n + 1).toNatClampNeg) (xs (nI n + 2).toNatClampNeg) m1 r m2 e2) (cwV 2 hts gL_law_X7_wouldRefuse rfl rfl rfl (by decide +kernel) ⟨Nat.le_of_ble_eq_true rfl, Nat.le_of_ble_eq_true rfl⟩) (w_preV (ci := 7) hK hP hN (S_mod ad cI cR).1 (S_mod ad cI cR).2 rfl) rfl rfl hl.1 rfl (lv_room (Nat.le_of_ble_eq_true rfl)) dL_law_916 ⟨Nat.le_of_ble_eq_true rfl, Nat.le_of_ble_eq_true rfl⟩) hA hS (fun H locs hP hS => ?_)
  refine lv_icmp_eq (tgt := 996) hx hb dL_law_919 (by decide) (fun _ => K _ _ ls m2 g2 hP hS hl) (fun c9 => absurd rfl c9)
set_option maxHeartbeats 4000000 in
set_option maxRecDepth 100000 in
theorem lc_30 {p : Program} {e : Env} {s : State} {m : MethodId} {below : List Frame} {meth : Method} {c : Code} {l : Launch} {b L : Nat} {xs : Nat → Int32} {D : va_G} {ad : Nat → Nat} {cI cR : ClassId} {Q : State → Prop} (C : LC p s m c b L xs D ad cI cR) {n : Nat} (hn : n + 4 ≤ L) {H : Heap} {locs : List Loc} {ls : Array Slot} {mm : Mem} (g : GR mm mm) (hP : va_P D vwCl (cw ad cI cR mm) H) (hS : va_S (fun q : Nat => s.heap.size ≤ q) s.heap H locs) (hl : lv_has ls 8 (lwl b ad n)) (K : ∀ (H : Heap) (locs : List Loc) (ls : Array Slot) (mm : Mem), GR mm mm → va_P D vwCl (cw ad cI cR mm) H → va_S (fun q : Nat => s.heap.size ≤ q) s.heap H locs → lv_has ls 8 (lwl b ad n) → W p l e room_1 s m #[Value.ref b] below meth c H locs 364 5491 Q (F0 m 996 ls [])) : W p l e room_1 s m #[Value.ref b] below meth c H locs 364 5491 Q (F0 m 924 ls []) := by
  obtain ⟨hx, hb, hml, hown, hts, hX, hbl, hi, hA, hK, hN, hL⟩ := C
  have hbA : ¬ s.heap.size ≤ b := Nat.not_le.mpr hbl
  have hv1 : vp_in (nI n + 1) L := by rw [show nI n + 1 = nI (n + 1) from nI_1 n]; exact vp_in_nI (by omega) (by omega)
  have hv2 : vp_in (nI n + 2) L := by rw [show nI n + 2 = nI (n + 2) from nI_add n 2]; exact vp_in_nI (by omega) (by omega)
  have hv3 : vp_in (nI n + 3) L := by rw [show nI n + 3 = nI (n + 3) from nI_add n 3]; exact vp_in_nI (by omega) (by omega)
  obtain ⟨r, m1, m2, e1, e2, g2⟩ := two (ok_ticksLeft FU (by decide)) g
  refine lv_aload_n hx hb dL_law_924 rfl (lv_at hl 1 rfl) ?_
  refine w_ci (va_runV (As := []) (rest := []) ⟨hx, hb, hml, hown, hts⟩ (c_X6_ticksLeft l D ad cI cR hi FU  mm r m1 e1) (cwV 0 hts gL_law_X6_ticksLeft rfl rfl rfl (by decide +kernel) ⟨Nat.le_of_ble_eq_true rfl, Nat.le_of_ble_eq_true rfl⟩) (w_preV (ci := 6) hK hP hN (S_ac ad cI cR).1 (S_ac ad cI cR).2 rfl) rfl rfl hl.1 rfl (lv_room (Nat.le_of_ble_eq_true rfl)) dL_law_925 ⟨Nat.le_of_ble_eq_true rfl, Nat.le_of_ble_eq_true rfl⟩) hA hS (fun H locs hP hS => ?_)
  refine lv_aload_n hx hb dL_law_928 rfl (lv_at hl 2 rfl) ?_
  refine w_ci (va_runV (As := []) (rest := [.int r]) ⟨hx, hb, hml, hown, hts⟩ (c_X7_ticksLeft l D ad cI cR hi FU  m1 r m2 e2) (cwV 0 hts gL_law_X7_ticksLeft rfl rfl rfl (by decide +kernel) ⟨Nat.le_of_ble_eq_true rfl, Nat.le_of_ble_eq_true rfl⟩) (w_preV (ci := 7) hK hP hN (S_mod ad cI cR).1 (S_mod ad cI cR).2 rfl) rfl rfl hl.1 rfl (lv_room (Nat.le_of_ble_eq_true rfl)) dL_law_929 ⟨Nat.le_of_ble_eq_true rfl, Nat.le_of_ble_eq_true rfl⟩) hA hS (fun H locs hP hS => ?_)
  refine lv_icmp_eq (tgt := 996) hx hb dL_law_932 (by decide) (fun _ => K _ _ ls m2 g2 hP hS hl) (fun c9 => absurd rfl c9)
set_option maxHeartbeats 4000000 in
set_option maxRecDepth 100000 in
theorem lc_31 {p : Program} {e : Env} {s : State} {m : MethodId} {below : List Frame} {meth : Method} {c : Code} {l : Launch} {b L : Nat} {xs : Nat → Int32} {D : va_G} {ad : Nat → Nat} {cI cR : ClassId} {Q : State → Prop} (C : LC p s m c b L xs D ad cI cR) {n : Nat} (hn : n + 4 ≤ L) {H : Heap} {locs : List Loc} {ls : Array Slot} {mm : Mem} (g : GR mm mm) (hP : va_P D vwCl (cw ad cI cR mm) H) (hS : va_S (fun q : Nat => s.heap.size ≤ q) s.heap H locs) (hl : lv_has ls 8 (lwl b ad n)) (K : ∀ (H : Heap) (locs : List Loc) (ls : Array Slot) (mm : Mem), GR mm mm → va_P D vwCl (cw ad cI cR mm) H → va_S (fun q : Nat => s.heap.size ≤ q) s.heap H locs → lv_has ls 8 (lwl b ad n) → W p l e room_1 s m #[Value.ref b] below meth c H locs 364 5491 Q (F0 m 996 ls [])) : W p l e room_1 s m #[Value.ref b] below meth c H locs 364 5491 Q (F0 m 937 ls []) := by
  obtain ⟨hx, hb, hml, hown, hts, hX, hbl, hi, hA, hK, hN, hL⟩ := C
  have hbA : ¬ s.heap.size ≤ b := Nat.not_le.mpr hbl
  have hv1 : vp_in (nI n + 1) L := by rw [show nI n + 1 = nI (n + 1) from nI_1 n]; exact vp_in_nI (by omega) (by omega)
  have hv2 : vp_in (nI n + 2) L := by rw [show nI n + 2 = nI (n + 2) from nI_add n 2]; exact vp_in_nI (by omega) (by omega)
  have hv3 : vp_in (nI n + 3) L := by rw [show nI n + 3 = nI (n + 3) from nI_add n 3]; exact vp_in_nI (by omega) (by omega)
  obtain ⟨r, m1, m2, e1, e2, g2⟩ := two (ok_ticksIf FU (by decide) (xs (nI n + 1).toNatClampNeg)) g
  refine lv_aload_n hx hb dL_law_937 rfl (lv_at hl 1 rfl) ?_
  refine lv_aload_n hx hb dL_law_938 rfl (lv_at hl 0 rfl) ?_
  refine lv_iload_n hx hb dL_law_939 rfl (lv_at hl 3 rfl) ?_
  refine lv_iconst (v := 1) hx hb dL_law_940 (by decide) ?_
  refine lv_iadd hx hb dL_law_941 ?_
  refine va_sld hx hb hX hbl hbA hS (hv1) dL_law_942 ?_
  refine w_ci (va_runV (As := [.int (xs (nI n + 1).toNatClampNeg)]) (rest := []) ⟨hx, hb, hml, hown, hts⟩ (c_X6_ticksIf l D ad cI cR hi FU (xs (nI n + 1).toNatClampNeg) mm r m1 e1) (cwV 1 hts gL_law_X6_ticksIf rfl rfl rfl (by decide +kernel) ⟨Nat.le_of_ble_eq_true rfl, Nat.le_of_ble_eq_true rfl⟩) (w_preV (ci := 6) hK hP hN (S_ac ad cI cR).1 (S_ac ad cI cR).2 rfl) rfl rfl hl.1 rfl (lv_room (Nat.le_of_ble_eq_true rfl)) dL_law_943 ⟨Nat.le_of_ble_eq_true rfl, Nat.le_of_ble_eq_true rfl⟩) hA hS (fun H locs hP hS => ?_)
  refine lv_aload_n hx hb dL_law_946 rfl (lv_at hl 2 rfl) ?_
  refine lv_aload_n hx hb dL_law_947 rfl (lv_at hl 0 rfl) ?_
  refine lv_iload_n hx hb dL_law_948 rfl (lv_at hl 3 rfl) ?_
  refine lv_iconst (v := 1) hx hb dL_law_949 (by decide) ?_
  refine lv_iadd hx hb dL_law_950 ?_
  refine va_sld hx hb hX hbl hbA hS (hv1) dL_law_951 ?_
  refine w_ci (va_runV (As := [.int (xs (nI n + 1).toNatClampNeg)]) (rest := [.int r]) ⟨hx, hb, hml, hown, hts⟩ (c_X7_ticksIf l D ad cI cR hi FU (xs (nI n + 1).toNatClampNeg) m1 r m2 e2) (cwV 1 hts gL_law_X7_ticksIf rfl rfl rfl (by decide +kernel) ⟨Nat.le_of_ble_eq_true rfl, Nat.le_of_ble_eq_true rfl⟩) (w_preV (ci := 7) hK hP hN (S_mod ad cI cR).1 (S_mod ad cI cR).2 rfl) rfl rfl hl.1 rfl (lv_room (Nat.le_of_ble_eq_true rfl)) dL_law_952 ⟨Nat.le_of_ble_eq_true rfl, Nat.le_of_ble_eq_true rfl⟩) hA hS (fun H locs hP hS => ?_)
  refine lv_icmp_eq (tgt := 996) hx hb dL_law_955 (by decide) (fun _ => K _ _ ls m2 g2 hP hS hl) (fun c9 => absurd rfl c9)
set_option maxHeartbeats 4000000 in
set_option maxRecDepth 100000 in
theorem lc_32 {p : Program} {e : Env} {s : State} {m : MethodId} {below : List Frame} {meth : Method} {c : Code} {l : Launch} {b L : Nat} {xs : Nat → Int32} {D : va_G} {ad : Nat → Nat} {cI cR : ClassId} {Q : State → Prop} (C : LC p s m c b L xs D ad cI cR) {n : Nat} (hn : n + 4 ≤ L) {H : Heap} {locs : List Loc} {ls : Array Slot} {mm : Mem} (g : GR mm mm) (hP : va_P D vwCl (cw ad cI cR mm) H) (hS : va_S (fun q : Nat => s.heap.size ≤ q) s.heap H locs) (hl : lv_has ls 8 (lwl b ad n)) (K : ∀ (H : Heap) (locs : List Loc) (ls : Array Slot) (mm : Mem), GR mm mm → va_P D vwCl (cw ad cI cR mm) H → va_S (fun q : Nat => s.heap.size ≤ q) s.heap H locs → lv_has ls 8 (lwl b ad n) → W p l e room_1 s m #[Value.ref b] below meth c H locs 364 5491 Q (F0 m 996 ls [])) : W p l e room_1 s m #[Value.ref b] below meth c H locs 364 5491 Q (F0 m 960 ls []) := by
  obtain ⟨hx, hb, hml, hown, hts, hX, hbl, hi, hA, hK, hN, hL⟩ := C
  have hbA : ¬ s.heap.size ≤ b := Nat.not_le.mpr hbl
  have hv1 : vp_in (nI n + 1) L := by rw [show nI n + 1 = nI (n + 1) from nI_1 n]; exact vp_in_nI (by omega) (by omega)
  have hv2 : vp_in (nI n + 2) L := by rw [show nI n + 2 = nI (n + 2) from nI_add n 2]; exact vp_in_nI (by omega) (by omega)
  have hv3 : vp_in (nI n + 3) L := by rw [show nI n + 3 = nI (n + 3) from nI_add n 3]; exact vp_in_nI (by omega) (by omega)
  obtain ⟨r, m1, m2, e1, e2, g2⟩ := two (ok_least FU (by decide)) g
  refine lv_aload_n hx hb dL_law_960 rfl (lv_at hl 1 rfl) ?_
  refine w_ci (va_runV (As := []) (rest := []) ⟨hx, hb, hml, hown, hts⟩ (c_X6_leastCapacity l D ad cI cR hi FU  mm r m1 e1) (cwV 0 hts gL_law_X6_leastCapacity rfl rfl rfl (by decide +kernel) ⟨Nat.le_of_ble_eq_true rfl, Nat.le_of_ble_eq_true rfl⟩) (w_preV (ci := 6) hK hP hN (S_ac ad cI cR).1 (S_ac ad cI cR).2 rfl) rfl rfl hl.1 rfl (lv_room (Nat.le_of_ble_eq_true rfl)) dL_law_961 ⟨Nat.le_of_ble_eq_true rfl, Nat.le_of_ble_eq_true rfl⟩) hA hS (fun H locs hP hS => ?_)
  refine lv_aload_n hx hb dL_law_964 rfl (lv_at hl 2 rfl) ?_
  refine w_ci (va_runV (As := []) (rest := [.int r]) ⟨hx, hb, hml, hown, hts⟩ (c_X7_leastCapacity l D ad cI cR hi FU  m1 r m2 e2) (cwV 0 hts gL_law_X7_leastCapacity rfl rfl rfl (by decide +kernel) ⟨Nat.le_of_ble_eq_true rfl, Nat.le_of_ble_eq_true rfl⟩) (w_preV (ci := 7) hK hP hN (S_mod ad cI cR).1 (S_mod ad cI cR).2 rfl) rfl rfl hl.1 rfl (lv_room (Nat.le_of_ble_eq_true rfl)) dL_law_965 ⟨Nat.le_of_ble_eq_true rfl, Nat.le_of_ble_eq_true rfl⟩) hA hS (fun H locs hP hS => ?_)
  refine lv_icmp_eq (tgt := 996) hx hb dL_law_968 (by decide) (fun _ => K _ _ ls m2 g2 hP hS hl) (fun c9 => absurd rfl c9)
set_option maxHeartbeats 4000000 in
set_option maxRecDepth 100000 in
theorem lc_33 {p : Program} {e : Env} {s : State} {m : MethodId} {below : List Frame} {meth : Method} {c : Code} {l : Launch} {b L : Nat} {xs : Nat → Int32} {D : va_G} {ad : Nat → Nat} {cI cR : ClassId} {Q : State → Prop} (C : LC p s m c b L xs D ad cI cR) {n : Nat} (hn : n + 4 ≤ L) {H : Heap} {locs : List Loc} {ls : Array Slot} {mm : Mem} (g : GR mm mm) (hP : va_P D vwCl (cw ad cI cR mm) H) (hS : va_S (fun q : Nat => s.heap.size ≤ q) s.heap H locs) (hl : lv_has ls 8 (lwl b ad n)) (K : ∀ (H : Heap) (locs : List Loc) (ls : Array Slot) (mm : Mem), GR mm mm → va_P D vwCl (cw ad cI cR mm) H → va_S (fun q : Nat => s.heap.size ≤ q) s.heap H locs → lv_has ls 8 (lwl b ad n) → W p l e room_1 s m #[Value.ref b] below meth c H locs 364 5491 Q (F0 m 996 ls [])) : W p l e room_1 s m #[Value.ref b] below meth c H locs 364 5491 Q (F0 m 973 ls []) := by
  obtain ⟨hx, hb, hml, hown, hts, hX, hbl, hi, hA, hK, hN, hL⟩ := C
  have hbA : ¬ s.heap.size ≤ b := Nat.not_le.mpr hbl
  have hv1 : vp_in (nI n + 1) L := by rw [show nI n + 1 = nI (n + 1) from nI_1 n]; exact vp_in_nI (by omega) (by omega)
  have hv2 : vp_in (nI n + 2) L := by rw [show nI n + 2 = nI (n + 2) from nI_add n 2]; exact vp_in_nI (by omega) (by omega)
  have hv3 : vp_in (nI n + 3) L := by rw [show nI n + 3 = nI (n + 3) from nI_add n 3]; exact vp_in_nI (by omega) (by omega)
  obtain ⟨r, m1, m2, e1, e2, g2⟩ := two (ok_finish FU (by decide) (xs (nI n + 1).toNatClampNeg)) g
  refine lv_aload_n hx hb dL_law_973 rfl (lv_at hl 1 rfl) ?_
  refine lv_aload_n hx hb dL_law_974 rfl (lv_at hl 0 rfl) ?_
  refine lv_iload_n hx hb dL_law_975 rfl (lv_at hl 3 rfl) ?_
  refine lv_iconst (v := 1) hx hb dL_law_976 (by decide) ?_
  refine lv_iadd hx hb dL_law_977 ?_
  refine va_sld hx hb hX hbl hbA hS (hv1) dL_law_978 ?_
  refine w_ci (va_runV (As := [.int (xs (nI n + 1).toNatClampNeg)]) (rest := []) ⟨hx, hb, hml, hown, hts⟩ (c_X6_finish l D ad cI cR hi FU (xs (nI n + 1).toNatClampNeg) mm r m1 e1) (cwV 1 hts gL_law_X6_finish rfl rfl rfl (by decide +kernel) ⟨Nat.le_of_ble_eq_true rfl, Nat.le_of_ble_eq_true rfl⟩) (w_preV (ci := 6) hK hP hN (S_ac ad cI cR).1 (S_ac ad cI cR).2 rfl) rfl rfl hl.1 rfl (lv_room (Nat.le_of_ble_eq_true rfl)) dL_law_979 ⟨Nat.le_of_ble_eq_true rfl, Nat.le_of_ble_eq_true rfl⟩) hA hS (fun H locs hP hS => ?_)
  refine lv_aload_n hx hb dL_law_982 rfl (lv_at hl 2 rfl) ?_
  refine lv_aload_n hx hb dL_law_983 rfl (lv_at hl 0 rfl) ?_
  refine lv_iload_n hx hb dL_law_984 rfl (lv_at hl 3 rfl) ?_
  refine lv_iconst (v := 1) hx hb dL_law_985 (by decide) ?_
  refine lv_iadd hx hb dL_law_986 ?_
  refine va_sld hx hb hX hbl hbA hS (hv1) dL_law_987 ?_
  refine w_ci (va_runV (As := [.int (xs (nI n + 1).toNatClampNeg)]) (rest := [.int r]) ⟨hx, hb, hml, hown, hts⟩ (c_X7_finish l D ad cI cR hi FU (xs (nI n + 1).toNatClampNeg) m1 r m2 e2) (cwV 1 hts gL_law_X7_finish rfl rfl rfl (by decide +kernel) ⟨Nat.le_of_ble_eq_true rfl, Nat.le_of_ble_eq_true rfl⟩) (w_preV (ci := 7) hK hP hN (S_mod ad cI cR).1 (S_mod ad cI cR).2 rfl) rfl rfl hl.1 rfl (lv_room (Nat.le_of_ble_eq_true rfl)) dL_law_988 ⟨Nat.le_of_ble_eq_true rfl, Nat.le_of_ble_eq_true rfl⟩) hA hS (fun H locs hP hS => ?_)
  refine lv_icmp_eq (tgt := 996) hx hb dL_law_991 (by decide) (fun _ => K _ _ ls m2 g2 hP hS hl) (fun c9 => absurd rfl c9)
