set_option maxHeartbeats 4000000 in
set_option maxRecDepth 100000 in
theorem lc_12 {p : Program} {e : Env} {s : State} {m : MethodId} {below : List Frame} {meth : Method} {c : Code} {l : Launch} {b L : Nat} {xs : Nat → Int32} {D : va_G} {ad : Nat → Nat} {cI cR : ClassId} {Q : State → Prop} (C : LC p s m c b L xs D ad cI cR) {n : Nat} (hn : n + 4 ≤ L) {H : Heap} {locs : List Loc} {ls : Array Slot} {mm : Mem} (g : GR mm mm) (hP : va_P D vwCl (cw ad cI cR mm) H) (hS : va_S (fun q : Nat => s.heap.size ≤ q) s.heap H locs) (hl : lv_has ls 8 (lwl b ad n)) (K : ∀ (H : Heap) (locs : List Loc) (ls : Array Slot) (mm : Mem), GR mm mm → va_P D vwCl (cw ad cI cR mm) H → va_S (fun q : Nat => s.heap.size ≤ q) s.heap H locs → lv_has ls 8 (lwl b ad n) → W p l e room_1 s m #[Value.ref b] below meth c H locs 364 5491 Q (F0 m 996 ls [])) : W p l e room_1 s m #[Value.ref b] below meth c H locs 364 5491 Q (F0 m 470 ls []) := by
  obtain ⟨hx, hb, hml, hown, hts, hX, hbl, hi, hA, hK, hN, hL⟩ := C
  have hbA : ¬ s.heap.size ≤ b := Nat.not_le.mpr hbl
  have hv1 : vp_in (nI n + 1) L := by rw [show nI n + 1 = nI (n + 1) from nI_1 n]; exact vp_in_nI (by omega) (by omega)
  have hv2 : vp_in (nI n + 2) L := by rw [show nI n + 2 = nI (n + 2) from nI_add n 2]; exact vp_in_nI (by omega) (by omega)
  have hv3 : vp_in (nI n + 3) L := by rw [show nI n + 3 = nI (n + 3) from nI_add n 3]; exact vp_in_nI (by omega) (by omega)
  obtain ⟨r, m1, m2, e1, e2, g2⟩ := two (ok_estimate FU (xs (nI n + 1).toNatClampNeg)) g
  refine lv_aload_n hx hb dL_law_470 rfl (lv_at hl 1 rfl) ?_
  refine lv_aload_n hx hb dL_law_471 rfl (lv_at hl 0 rfl) ?_
  refine lv_iload_n hx hb dL_law_472 rfl (lv_at hl 3 rfl) ?_
  refine lv_iconst (v := 1) hx hb dL_law_473 (by decide) ?_
  refine lv_iadd hx hb dL_law_474 ?_
  refine va_sld hx hb hX hbl hbA hS (hv1) dL_law_475 ?_
  refine w_ci (va_runV (As := [.int (xs (nI n + 1).toNatClampNeg)]) (rest := []) ⟨hx, hb, hml, hown, hts⟩ (c_X6_estimate l D ad cI cR hi FU (xs (nI n + 1).toNatClampNeg) mm r m1 e1) (cwV 1 hts gL_law_X6_estimate rfl rfl rfl (by decide +kernel) ⟨Nat.le_of_ble_eq_true rfl, Nat.le_of_ble_eq_true rfl⟩) (w_preV (ci := 6) hK hP hN (S_ac ad cI cR).1 (S_ac ad cI cR).2 rfl) rfl rfl hl.1 rfl (lv_room (Nat.le_of_ble_eq_true rfl)) dL_law_476 ⟨Nat.le_of_ble_eq_true rfl, Nat.le_of_ble_eq_true rfl⟩) hA hS (fun H locs hP hS => ?_)
  refine lv_aload_n hx hb dL_law_479 rfl (lv_at hl 2 rfl) ?_
  refine lv_aload_n hx hb dL_law_480 rfl (lv_at hl 0 rfl) ?_
  refine lv_iload_n hx hb dL_law_481 rfl (lv_at hl 3 rfl) ?_
  refine lv_iconst (v := 1) hx hb dL_law_482 (by decide) ?_
  refine lv_iadd hx hb dL_law_483 ?_
  refine va_sld hx hb hX hbl hbA hS (hv1) dL_law_484 ?_
  refine w_ci (va_runV (As := [.int (xs (nI n + 1).toNatClampNeg)]) (rest := [.int r]) ⟨hx, hb, hml, hown, hts⟩ (c_X7_estimate l D ad cI cR hi FU (xs (nI n + 1).toNatClampNeg) m1 r m2 e2) (cwV 1 hts gL_law_X7_estimate rfl rfl rfl (by decide +kernel) ⟨Nat.le_of_ble_eq_true rfl, Nat.le_of_ble_eq_true rfl⟩) (w_preV (ci := 7) hK hP hN (S_mod ad cI cR).1 (S_mod ad cI cR).2 rfl) rfl rfl hl.1 rfl (lv_room (Nat.le_of_ble_eq_true rfl)) dL_law_485 ⟨Nat.le_of_ble_eq_true rfl, Nat.le_of_ble_eq_true rfl⟩) hA hS (fun H locs hP hS => ?_)
  refine lv_icmp_eq (tgt := 996) hx hb dL_law_488 (by decide) (fun _ => K _ _ ls m2 g2 hP hS hl) (fun c9 => absurd rfl c9)
set_option maxHeartbeats 4000000 in
set_option maxRecDepth 100000 in
theorem lc_13 {p : Program} {e : Env} {s : State} {m : MethodId} {below : List Frame} {meth : Method} {c : Code} {l : Launch} {b L : Nat} {xs : Nat → Int32} {D : va_G} {ad : Nat → Nat} {cI cR : ClassId} {Q : State → Prop} (C : LC p s m c b L xs D ad cI cR) {n : Nat} (hn : n + 4 ≤ L) {H : Heap} {locs : List Loc} {ls : Array Slot} {mm : Mem} (g : GR mm mm) (hP : va_P D vwCl (cw ad cI cR mm) H) (hS : va_S (fun q : Nat => s.heap.size ≤ q) s.heap H locs) (hl : lv_has ls 8 (lwl b ad n)) (K : ∀ (H : Heap) (locs : List Loc) (ls : Array Slot) (mm : Mem), GR mm mm → va_P D vwCl (cw ad cI cR mm) H → va_S (fun q : Nat => s.heap.size ≤ q) s.heap H locs → lv_has ls 8 (lwl b ad n) → W p l e room_1 s m #[Value.ref b] below meth c H locs 364 5491 Q (F0 m 996 ls [])) : W p l e room_1 s m #[Value.ref b] below meth c H locs 364 5491 Q (F0 m 493 ls []) := by
  obtain ⟨hx, hb, hml, hown, hts, hX, hbl, hi, hA, hK, hN, hL⟩ := C
  have hbA : ¬ s.heap.size ≤ b := Nat.not_le.mpr hbl
  have hv1 : vp_in (nI n + 1) L := by rw [show nI n + 1 = nI (n + 1) from nI_1 n]; exact vp_in_nI (by omega) (by omega)
  have hv2 : vp_in (nI n + 2) L := by rw [show nI n + 2 = nI (n + 2) from nI_add n 2]; exact vp_in_nI (by omega) (by omega)
  have hv3 : vp_in (nI n + 3) L := by rw [show nI n + 3 = nI (n + 3) from nI_add n 3]; exact vp_in_nI (by omega) (by omega)
  obtain ⟨r, m1, m2, e1, e2, g2⟩ := two (ok_tokens FU (xs (nI n + 1).toNatClampNeg)) g
  refine lv_aload_n hx hb dL_law_493 rfl (lv_at hl 1 rfl) ?_
  refine lv_aload_n hx hb dL_law_494 rfl (lv_at hl 0 rfl) ?_
  refine lv_iload_n hx hb dL_law_495 rfl (lv_at hl 3 rfl) ?_
  refine lv_iconst (v := 1) hx hb dL_law_496 (by decide) ?_
  refine lv_iadd hx hb dL_law_497 ?_
  refine va_sld hx hb hX hbl hbA hS (hv1) dL_law_498 ?_
  refine w_ci (va_runV (As := [.int (xs (nI n + 1).toNatClampNeg)]) (rest := []) ⟨hx, hb, hml, hown, hts⟩ (c_X6_tokens l D ad cI cR hi FU (xs (nI n + 1).toNatClampNeg) mm r m1 e1) (cwV 1 hts gL_law_X6_tokens rfl rfl rfl (by decide +kernel) ⟨Nat.le_of_ble_eq_true rfl, Nat.le_of_ble_eq_true rfl⟩) (w_preV (ci := 6) hK hP hN (S_ac ad cI cR).1 (S_ac ad cI cR).2 rfl) rfl rfl hl.1 rfl (lv_room (Nat.le_of_ble_eq_true rfl)) dL_law_499 ⟨Nat.le_of_ble_eq_true rfl, Nat.le_of_ble_eq_true rfl⟩) hA hS (fun H locs hP hS => ?_)
  refine lv_aload_n hx hb dL_law_502 rfl (lv_at hl 2 rfl) ?_
  refine lv_aload_n hx hb dL_law_503 rfl (lv_at hl 0 rfl) ?_
  refine lv_iload_n hx hb dL_law_504 rfl (lv_at hl 3 rfl) ?_
  refine lv_iconst (v := 1) hx hb dL_law_505 (by decide) ?_
  refine lv_iadd hx hb dL_law_506 ?_
  refine va_sld hx hb hX hbl hbA hS (hv1) dL_law_507 ?_
  refine w_ci (va_runV (As := [.int (xs (nI n + 1).toNatClampNeg)]) (rest := [.int r]) ⟨hx, hb, hml, hown, hts⟩ (c_X7_tokens l D ad cI cR hi FU (xs (nI n + 1).toNatClampNeg) m1 r m2 e2) (cwV 1 hts gL_law_X7_tokens rfl rfl rfl (by decide +kernel) ⟨Nat.le_of_ble_eq_true rfl, Nat.le_of_ble_eq_true rfl⟩) (w_preV (ci := 7) hK hP hN (S_mod ad cI cR).1 (S_mod ad cI cR).2 rfl) rfl rfl hl.1 rfl (lv_room (Nat.le_of_ble_eq_true rfl)) dL_law_508 ⟨Nat.le_of_ble_eq_true rfl, Nat.le_of_ble_eq_true rfl⟩) hA hS (fun H locs hP hS => ?_)
  refine lv_icmp_eq (tgt := 996) hx hb dL_law_511 (by decide) (fun _ => K _ _ ls m2 g2 hP hS hl) (fun c9 => absurd rfl c9)
set_option maxHeartbeats 4000000 in
set_option maxRecDepth 100000 in
theorem lc_14 {p : Program} {e : Env} {s : State} {m : MethodId} {below : List Frame} {meth : Method} {c : Code} {l : Launch} {b L : Nat} {xs : Nat → Int32} {D : va_G} {ad : Nat → Nat} {cI cR : ClassId} {Q : State → Prop} (C : LC p s m c b L xs D ad cI cR) {n : Nat} (hn : n + 4 ≤ L) {H : Heap} {locs : List Loc} {ls : Array Slot} {mm : Mem} (g : GR mm mm) (hP : va_P D vwCl (cw ad cI cR mm) H) (hS : va_S (fun q : Nat => s.heap.size ≤ q) s.heap H locs) (hl : lv_has ls 8 (lwl b ad n)) (K : ∀ (H : Heap) (locs : List Loc) (ls : Array Slot) (mm : Mem), GR mm mm → va_P D vwCl (cw ad cI cR mm) H → va_S (fun q : Nat => s.heap.size ≤ q) s.heap H locs → lv_has ls 8 (lwl b ad n) → W p l e room_1 s m #[Value.ref b] below meth c H locs 364 5491 Q (F0 m 996 ls [])) : W p l e room_1 s m #[Value.ref b] below meth c H locs 364 5491 Q (F0 m 516 ls []) := by
  obtain ⟨hx, hb, hml, hown, hts, hX, hbl, hi, hA, hK, hN, hL⟩ := C
  have hbA : ¬ s.heap.size ≤ b := Nat.not_le.mpr hbl
  have hv1 : vp_in (nI n + 1) L := by rw [show nI n + 1 = nI (n + 1) from nI_1 n]; exact vp_in_nI (by omega) (by omega)
  have hv2 : vp_in (nI n + 2) L := by rw [show nI n + 2 = nI (n + 2) from nI_add n 2]; exact vp_in_nI (by omega) (by omega)
  have hv3 : vp_in (nI n + 3) L := by rw [show nI n + 3 = nI (n + 3) from nI_add n 3]; exact vp_in_nI (by omega) (by omega)
  obtain ⟨r, m1, m2, e1, e2, g2⟩ := two (ok_pass FU (xs (nI n + 1).toNatClampNeg)) g
  refine lv_aload_n hx hb dL_law_516 rfl (lv_at hl 1 rfl) ?_
  refine lv_aload_n hx hb dL_law_517 rfl (lv_at hl 0 rfl) ?_
  refine lv_iload_n hx hb dL_law_518 rfl (lv_at hl 3 rfl) ?_
  refine lv_iconst (v := 1) hx hb dL_law_519 (by decide) ?_
  refine lv_iadd hx hb dL_law_520 ?_
  refine va_sld hx hb hX hbl hbA hS (hv1) dL_law_521 ?_
  refine w_ci (va_runV (As := [.int (xs (nI n + 1).toNatClampNeg)]) (rest := []) ⟨hx, hb, hml, hown, hts⟩ (c_X6_pass l D ad cI cR hi FU (xs (nI n + 1).toNatClampNeg) mm r m1 e1) (cwV 1 hts gL_law_X6_pass rfl rfl rfl (by decide +kernel) ⟨Nat.le_of_ble_eq_true rfl, Nat.le_of_ble_eq_true rfl⟩) (w_preV (ci := 6) hK hP hN (S_ac ad cI cR).1 (S_ac ad cI cR).2 rfl) rfl rfl hl.1 rfl (lv_room (Nat.le_of_ble_eq_true rfl)) dL_law_522 ⟨Nat.le_of_ble_eq_true rfl, Nat.le_of_ble_eq_true rfl⟩) hA hS (fun H locs hP hS => ?_)
  refine lv_aload_n hx hb dL_law_525 rfl (lv_at hl 2 rfl) ?_
  refine lv_aload_n hx hb dL_law_526 rfl (lv_at hl 0 rfl) ?_
  refine lv_iload_n hx hb dL_law_527 rfl (lv_at hl 3 rfl) ?_
  refine lv_iconst (v := 1) hx hb dL_law_528 (by decide) ?_
  refine lv_iadd hx hb dL_law_529 ?_
  refine va_sld hx hb hX hbl hbA hS (hv1) dL_law_530 ?_
  refine w_ci (va_runV (As := [.int (xs (nI n + 1).toNatClampNeg)]) (rest := [.int r]) ⟨hx, hb, hml, hown, hts⟩ (c_X7_pass l D ad cI cR hi FU (xs (nI n + 1).toNatClampNeg) m1 r m2 e2) (cwV 1 hts gL_law_X7_pass rfl rfl rfl (by decide +kernel) ⟨Nat.le_of_ble_eq_true rfl, Nat.le_of_ble_eq_true rfl⟩) (w_preV (ci := 7) hK hP hN (S_mod ad cI cR).1 (S_mod ad cI cR).2 rfl) rfl rfl hl.1 rfl (lv_room (Nat.le_of_ble_eq_true rfl)) dL_law_531 ⟨Nat.le_of_ble_eq_true rfl, Nat.le_of_ble_eq_true rfl⟩) hA hS (fun H locs hP hS => ?_)
  refine lv_icmp_eq (tgt := 996) hx hb dL_law_534 (by decide) (fun _ => K _ _ ls m2 g2 hP hS hl) (fun c9 => absurd rfl c9)
set_option maxHeartbeats 4000000 in
set_option maxRecDepth 100000 in
theorem lc_15 {p : Program} {e : Env} {s : State} {m : MethodId} {below : List Frame} {meth : Method} {c : Code} {l : Launch} {b L : Nat} {xs : Nat → Int32} {D : va_G} {ad : Nat → Nat} {cI cR : ClassId} {Q : State → Prop} (C : LC p s m c b L xs D ad cI cR) {n : Nat} (hn : n + 4 ≤ L) {H : Heap} {locs : List Loc} {ls : Array Slot} {mm : Mem} (g : GR mm mm) (hP : va_P D vwCl (cw ad cI cR mm) H) (hS : va_S (fun q : Nat => s.heap.size ≤ q) s.heap H locs) (hl : lv_has ls 8 (lwl b ad n)) (K : ∀ (H : Heap) (locs : List Loc) (ls : Array Slot) (mm : Mem), GR mm mm → va_P D vwCl (cw ad cI cR mm) H → va_S (fun q : Nat => s.heap.size ≤ q) s.heap H locs → lv_has ls 8 (lwl b ad n) → W p l e room_1 s m #[Value.ref b] below meth c H locs 364 5491 Q (F0 m 996 ls [])) : W p l e room_1 s m #[Value.ref b] below meth c H locs 364 5491 Q (F0 m 539 ls []) := by
  obtain ⟨hx, hb, hml, hown, hts, hX, hbl, hi, hA, hK, hN, hL⟩ := C
  have hbA : ¬ s.heap.size ≤ b := Nat.not_le.mpr hbl
  have hv1 : vp_in (nI n + 1) L := by rw [show nI n + 1 = nI (n + 1) from nI_1 n]; exact vp_in_nI (by omega) (by omega)
  have hv2 : vp_in (nI n + 2) L := by rw [show nI n + 2 = nI (n + 2) from nI_add n 2]; exact vp_in_nI (by omega) (by omega)
  have hv3 : vp_in (nI n + 3) L := by rw [show nI n + 3 = nI (n + 3) from nI_add n 3]; exact vp_in_nI (by omega) (by omega)
  obtain ⟨r, m1, m2, e1, e2, g2⟩ := two (ok_queued FU (xs (nI n + 1).toNatClampNeg)) g
  refine lv_aload_n hx hb dL_law_539 rfl (lv_at hl 1 rfl) ?_
  refine lv_aload_n hx hb dL_law_540 rfl (lv_at hl 0 rfl) ?_
  refine lv_iload_n hx hb dL_law_541 rfl (lv_at hl 3 rfl) ?_
  refine lv_iconst (v := 1) hx hb dL_law_542 (by decide) ?_
  refine lv_iadd hx hb dL_law_543 ?_
  refine va_sld hx hb hX hbl hbA hS (hv1) dL_law_544 ?_
  refine w_ci (va_runV (As := [.int (xs (nI n + 1).toNatClampNeg)]) (rest := []) ⟨hx, hb, hml, hown, hts⟩ (c_X6_queued l D ad cI cR hi FU (xs (nI n + 1).toNatClampNeg) mm r m1 e1) (cwV 1 hts gL_law_X6_queued rfl rfl rfl (by decide +kernel) ⟨Nat.le_of_ble_eq_true rfl, Nat.le_of_ble_eq_true rfl⟩) (w_preV (ci := 6) hK hP hN (S_ac ad cI cR).1 (S_ac ad cI cR).2 rfl) rfl rfl hl.1 rfl (lv_room (Nat.le_of_ble_eq_true rfl)) dL_law_545 ⟨Nat.le_of_ble_eq_true rfl, Nat.le_of_ble_eq_true rfl⟩) hA hS (fun H locs hP hS => ?_)
  refine lv_aload_n hx hb dL_law_548 rfl (lv_at hl 2 rfl) ?_
  refine lv_aload_n hx hb dL_law_549 rfl (lv_at hl 0 rfl) ?_
  refine lv_iload_n hx hb dL_law_550 rfl (lv_at hl 3 rfl) ?_
  refine lv_iconst (v := 1) hx hb dL_law_551 (by decide) ?_
  refine lv_iadd hx hb dL_law_552 ?_
  refine va_sld hx hb hX hbl hbA hS (hv1) dL_law_553 ?_
  refine w_ci (va_runV (As := [.int (xs (nI n + 1).toNatClampNeg)]) (rest := [.int r]) ⟨hx, hb, hml, hown, hts⟩ (c_X7_queued l D ad cI cR hi FU (xs (nI n + 1).toNatClampNeg) m1 r m2 e2) (cwV 1 hts gL_law_X7_queued rfl rfl rfl (by decide +kernel) ⟨Nat.le_of_ble_eq_true rfl, Nat.le_of_ble_eq_true rfl⟩) (w_preV (ci := 7) hK hP hN (S_mod ad cI cR).1 (S_mod ad cI cR).2 rfl) rfl rfl hl.1 rfl (lv_room (Nat.le_of_ble_eq_true rfl)) dL_law_554 ⟨Nat.le_of_ble_eq_true rfl, Nat.le_of_ble_eq_true rfl⟩) hA hS (fun H locs hP hS => ?_)
  refine lv_icmp_eq (tgt := 996) hx hb dL_law_557 (by decide) (fun _ => K _ _ ls m2 g2 hP hS hl) (fun c9 => absurd rfl c9)
set_option maxHeartbeats 4000000 in
set_option maxRecDepth 100000 in
theorem lc_16 {p : Program} {e : Env} {s : State} {m : MethodId} {below : List Frame} {meth : Method} {c : Code} {l : Launch} {b L : Nat} {xs : Nat → Int32} {D : va_G} {ad : Nat → Nat} {cI cR : ClassId} {Q : State → Prop} (C : LC p s m c b L xs D ad cI cR) {n : Nat} (hn : n + 4 ≤ L) {H : Heap} {locs : List Loc} {ls : Array Slot} {mm : Mem} (g : GR mm mm) (hP : va_P D vwCl (cw ad cI cR mm) H) (hS : va_S (fun q : Nat => s.heap.size ≤ q) s.heap H locs) (hl : lv_has ls 8 (lwl b ad n)) (K : ∀ (H : Heap) (locs : List Loc) (ls : Array Slot) (mm : Mem), GR mm mm → va_P D vwCl (cw ad cI cR mm) H → va_S (fun q : Nat => s.heap.size ≤ q) s.heap H locs → lv_has ls 8 (lwl b ad n) → W p l e room_1 s m #[Value.ref b] below meth c H locs 364 5491 Q (F0 m 996 ls [])) : W p l e room_1 s m #[Value.ref b] below meth c H locs 364 5491 Q (F0 m 562 ls []) := by
  obtain ⟨hx, hb, hml, hown, hts, hX, hbl, hi, hA, hK, hN, hL⟩ := C
  have hbA : ¬ s.heap.size ≤ b := Nat.not_le.mpr hbl
  have hv1 : vp_in (nI n + 1) L := by rw [show nI n + 1 = nI (n + 1) from nI_1 n]; exact vp_in_nI (by omega) (by omega)
  have hv2 : vp_in (nI n + 2) L := by rw [show nI n + 2 = nI (n + 2) from nI_add n 2]; exact vp_in_nI (by omega) (by omega)
  have hv3 : vp_in (nI n + 3) L := by rw [show nI n + 3 = nI (n + 3) from nI_add n 3]; exact vp_in_nI (by omega) (by omega)
  obtain ⟨r, m1, m2, e1, e2, g2⟩ := two (ok_queuedAt FU (xs (nI n + 1).toNatClampNeg) (xs (nI n + 2).toNatClampNeg)) g
  refine lv_aload_n hx hb dL_law_562 rfl (lv_at hl 1 rfl) ?_
  refine lv_aload_n hx hb dL_law_563 rfl (lv_at hl 0 rfl) ?_
  refine lv_iload_n hx hb dL_law_564 rfl (lv_at hl 3 rfl) ?_
  refine lv_iconst (v := 1) hx hb dL_law_565 (by decide) ?_
  refine lv_iadd hx hb dL_law_566 ?_
  refine va_sld hx hb hX hbl hbA hS (hv1) dL_law_567 ?_
  refine lv_aload_n hx hb dL_law_568 rfl (lv_at hl 0 rfl) ?_
  refine lv_iload_n hx hb dL_law_569 rfl (lv_at hl 3 rfl) ?_
  refine lv_iconst (v := 2) hx hb dL_law_570 (by decide) ?_
  refine lv_iadd hx hb dL_law_571 ?_
  refine va_sld hx hb hX hbl hbA hS (hv2) dL_law_572 ?_
  refine w_ci (va_runV (As := [.int (xs (nI n + 1).toNatClampNeg), .int (xs (nI n + 2).toNatClampNeg)]) (rest := []) ⟨hx, hb, hml, hown, hts⟩ (c_X6_queuedAt l D ad cI cR hi FU (xs (nI n + 1).toNatClampNeg) (xs (nI n + 2).toNatClampNeg) mm r m1 e1) (cwV 2 hts gL_law_X6_queuedAt rfl rfl rfl (by decide +kernel) ⟨Nat.le_of_ble_eq_true rfl, Nat.le_of_ble_eq_true rfl⟩) (w_preV (ci := 6) hK hP hN (S_ac ad cI cR).1 (S_ac ad cI cR).2 rfl) rfl rfl hl.1 rfl (lv_room (Nat.le_of_ble_eq_true rfl)) dL_law_573 ⟨Nat.le_of_ble_eq_true rfl, Nat.le_of_ble_eq_true rfl⟩) hA hS (fun H locs hP hS => ?_)
  refine lv_aload_n hx hb dL_law_576 rfl (lv_at hl 2 rfl) ?_
  refine lv_aload_n hx hb dL_law_577 rfl (lv_at hl 0 rfl) ?_
  refine lv_iload_n hx hb dL_law_578 rfl (lv_at hl 3 rfl) ?_
  refine lv_iconst (v := 1) hx hb dL_law_579 (by decide) ?_
  refine lv_iadd hx hb dL_law_580 ?_
  refine va_sld hx hb hX hbl hbA hS (hv1) dL_law_581 ?_
  refine lv_aload_n hx hb dL_law_582 rfl (lv_at hl 0 rfl) ?_
  refine lv_iload_n hx hb dL_law_583 rfl (lv_at hl 3 rfl) ?_
  refine lv_iconst (v := 2) hx hb dL_law_584 (by decide) ?_
  refine lv_iadd hx hb dL_law_585 ?_
  refine va_sld hx hb hX hbl hbA hS (hv2) dL_law_586 ?_
  refine w_ci (va_runV (As := [.int (xs (nI n + 1).toNatClampNeg), .int (xs (nI n + 2).toNatClampNeg)]) (rest := [.int r]) ⟨hx, hb, hml, hown, hts⟩ (c_X7_queuedAt l D ad cI cR hi FU (xs (nI n + 1).toNatClampNeg) (xs (nI n + 2).toNatClampNeg) m1 r m2 e2) (cwV 2 hts gL_law_X7_queuedAt rfl rfl rfl (by decide +kernel) ⟨Nat.le_of_ble_eq_true rfl, Nat.le_of_ble_eq_true rfl⟩) (w_preV (ci := 7) hK hP hN (S_mod ad cI cR).1 (S_mod ad cI cR).2 rfl) rfl rfl hl.1 rfl (lv_room (Nat.le_of_ble_eq_true rfl)) dL_law_587 ⟨Nat.le_of_ble_eq_true rfl, Nat.le_of_ble_eq_true rfl⟩) hA hS (fun H locs hP hS => ?_)
  refine lv_icmp_eq (tgt := 996) hx hb dL_law_590 (by decide) (fun _ => K _ _ ls m2 g2 hP hS hl) (fun c9 => absurd rfl c9)
set_option maxHeartbeats 4000000 in
set_option maxRecDepth 100000 in
theorem lc_17 {p : Program} {e : Env} {s : State} {m : MethodId} {below : List Frame} {meth : Method} {c : Code} {l : Launch} {b L : Nat} {xs : Nat → Int32} {D : va_G} {ad : Nat → Nat} {cI cR : ClassId} {Q : State → Prop} (C : LC p s m c b L xs D ad cI cR) {n : Nat} (hn : n + 4 ≤ L) {H : Heap} {locs : List Loc} {ls : Array Slot} {mm : Mem} (g : GR mm mm) (hP : va_P D vwCl (cw ad cI cR mm) H) (hS : va_S (fun q : Nat => s.heap.size ≤ q) s.heap H locs) (hl : lv_has ls 8 (lwl b ad n)) (K : ∀ (H : Heap) (locs : List Loc) (ls : Array Slot) (mm : Mem), GR mm mm → va_P D vwCl (cw ad cI cR mm) H → va_S (fun q : Nat => s.heap.size ≤ q) s.heap H locs → lv_has ls 8 (lwl b ad n) → W p l e room_1 s m #[Value.ref b] below meth c H locs 364 5491 Q (F0 m 996 ls [])) : W p l e room_1 s m #[Value.ref b] below meth c H locs 364 5491 Q (F0 m 595 ls []) := by
  obtain ⟨hx, hb, hml, hown, hts, hX, hbl, hi, hA, hK, hN, hL⟩ := C
  have hbA : ¬ s.heap.size ≤ b := Nat.not_le.mpr hbl
  have hv1 : vp_in (nI n + 1) L := by rw [show nI n + 1 = nI (n + 1) from nI_1 n]; exact vp_in_nI (by omega) (by omega)
  have hv2 : vp_in (nI n + 2) L := by rw [show nI n + 2 = nI (n + 2) from nI_add n 2]; exact vp_in_nI (by omega) (by omega)
  have hv3 : vp_in (nI n + 3) L := by rw [show nI n + 3 = nI (n + 3) from nI_add n 3]; exact vp_in_nI (by omega) (by omega)
  obtain ⟨r, m1, m2, e1, e2, g2⟩ := two (ok_backlog FU (by decide) (xs (nI n + 1).toNatClampNeg)) g
  refine lv_aload_n hx hb dL_law_595 rfl (lv_at hl 1 rfl) ?_
  refine lv_aload_n hx hb dL_law_596 rfl (lv_at hl 0 rfl) ?_
  refine lv_iload_n hx hb dL_law_597 rfl (lv_at hl 3 rfl) ?_
  refine lv_iconst (v := 1) hx hb dL_law_598 (by decide) ?_
  refine lv_iadd hx hb dL_law_599 ?_
  refine va_sld hx hb hX hbl hbA hS (hv1) dL_law_600 ?_
  refine w_ci (va_runV (As := [.int (xs (nI n + 1).toNatClampNeg)]) (rest := []) ⟨hx, hb, hml, hown, hts⟩ (c_X6_backlog l D ad cI cR hi FU (xs (nI n + 1).toNatClampNeg) mm r m1 e1) (cwV 1 hts gL_law_X6_backlog rfl rfl rfl (by decide +kernel) ⟨Nat.le_of_ble_eq_true rfl, Nat.le_of_ble_eq_true rfl⟩) (w_preV (ci := 6) hK hP hN (S_ac ad cI cR).1 (S_ac ad cI cR).2 rfl) rfl rfl hl.1 rfl (lv_room (Nat.le_of_ble_eq_true rfl)) dL_law_601 ⟨Nat.le_of_ble_eq_true rfl, Nat.le_of_ble_eq_true rfl⟩) hA hS (fun H locs hP hS => ?_)
  refine lv_aload_n hx hb dL_law_604 rfl (lv_at hl 2 rfl) ?_
  refine lv_aload_n hx hb dL_law_605 rfl (lv_at hl 0 rfl) ?_
  refine lv_iload_n hx hb dL_law_606 rfl (lv_at hl 3 rfl) ?_
  refine lv_iconst (v := 1) hx hb dL_law_607 (by decide) ?_
  refine lv_iadd hx hb dL_law_608 ?_
  refine va_sld hx hb hX hbl hbA hS (hv1) dL_law_609 ?_
  refine w_ci (va_runV (As := [.int (xs (nI n + 1).toNatClampNeg)]) (rest := [.int r]) ⟨hx, hb, hml, hown, hts⟩ (c_X7_backlog l D ad cI cR hi FU (xs (nI n + 1).toNatClampNeg) m1 r m2 e2) (cwV 1 hts gL_law_X7_backlog rfl rfl rfl (by decide +kernel) ⟨Nat.le_of_ble_eq_true rfl, Nat.le_of_ble_eq_true rfl⟩) (w_preV (ci := 7) hK hP hN (S_mod ad cI cR).1 (S_mod ad cI cR).2 rfl) rfl rfl hl.1 rfl (lv_room (Nat.le_of_ble_eq_true rfl)) dL_law_610 ⟨Nat.le_of_ble_eq_true rfl, Nat.le_of_ble_eq_true rfl⟩) hA hS (fun H locs hP hS => ?_)
  refine lv_icmp_eq (tgt := 996) hx hb dL_law_613 (by decide) (fun _ => K _ _ ls m2 g2 hP hS hl) (fun c9 => absurd rfl c9)
set_option maxHeartbeats 4000000 in
set_option maxRecDepth 100000 in
theorem lc_18 {p : Program} {e : Env} {s : State} {m : MethodId} {below : List Frame} {meth : Method} {c : Code} {l : Launch} {b L : Nat} {xs : Nat → Int32} {D : va_G} {ad : Nat → Nat} {cI cR : ClassId} {Q : State → Prop} (C : LC p s m c b L xs D ad cI cR) {n : Nat} (hn : n + 4 ≤ L) {H : Heap} {locs : List Loc} {ls : Array Slot} {mm : Mem} (g : GR mm mm) (hP : va_P D vwCl (cw ad cI cR mm) H) (hS : va_S (fun q : Nat => s.heap.size ≤ q) s.heap H locs) (hl : lv_has ls 8 (lwl b ad n)) (K : ∀ (H : Heap) (locs : List Loc) (ls : Array Slot) (mm : Mem), GR mm mm → va_P D vwCl (cw ad cI cR mm) H → va_S (fun q : Nat => s.heap.size ≤ q) s.heap H locs → lv_has ls 8 (lwl b ad n) → W p l e room_1 s m #[Value.ref b] below meth c H locs 364 5491 Q (F0 m 996 ls [])) : W p l e room_1 s m #[Value.ref b] below meth c H locs 364 5491 Q (F0 m 618 ls []) := by
  obtain ⟨hx, hb, hml, hown, hts, hX, hbl, hi, hA, hK, hN, hL⟩ := C
  have hbA : ¬ s.heap.size ≤ b := Nat.not_le.mpr hbl
  have hv1 : vp_in (nI n + 1) L := by rw [show nI n + 1 = nI (n + 1) from nI_1 n]; exact vp_in_nI (by omega) (by omega)
  have hv2 : vp_in (nI n + 2) L := by rw [show nI n + 2 = nI (n + 2) from nI_add n 2]; exact vp_in_nI (by omega) (by omega)
  have hv3 : vp_in (nI n + 3) L := by rw [show nI n + 3 = nI (n + 3) from nI_add n 3]; exact vp_in_nI (by omega) (by omega)
  obtain ⟨r, m1, m2, e1, e2, g2⟩ := two (ok_worked FU (xs (nI n + 1).toNatClampNeg)) g
  refine lv_aload_n hx hb dL_law_618 rfl (lv_at hl 1 rfl) ?_
  refine lv_aload_n hx hb dL_law_619 rfl (lv_at hl 0 rfl) ?_
  refine lv_iload_n hx hb dL_law_620 rfl (lv_at hl 3 rfl) ?_
  refine lv_iconst (v := 1) hx hb dL_law_621 (by decide) ?_
  refine lv_iadd hx hb dL_law_622 ?_
  refine va_sld hx hb hX hbl hbA hS (hv1) dL_law_623 ?_
  refine w_ci (va_runV (As := [.int (xs (nI n + 1).toNatClampNeg)]) (rest := []) ⟨hx, hb, hml, hown, hts⟩ (c_X6_worked l D ad cI cR hi FU (xs (nI n + 1).toNatClampNeg) mm r m1 e1) (cwV 1 hts gL_law_X6_worked rfl rfl rfl (by decide +kernel) ⟨Nat.le_of_ble_eq_true rfl, Nat.le_of_ble_eq_true rfl⟩) (w_preV (ci := 6) hK hP hN (S_ac ad cI cR).1 (S_ac ad cI cR).2 rfl) rfl rfl hl.1 rfl (lv_room (Nat.le_of_ble_eq_true rfl)) dL_law_624 ⟨Nat.le_of_ble_eq_true rfl, Nat.le_of_ble_eq_true rfl⟩) hA hS (fun H locs hP hS => ?_)
  refine lv_aload_n hx hb dL_law_627 rfl (lv_at hl 2 rfl) ?_
  refine lv_aload_n hx hb dL_law_628 rfl (lv_at hl 0 rfl) ?_
  refine lv_iload_n hx hb dL_law_629 rfl (lv_at hl 3 rfl) ?_
  refine lv_iconst (v := 1) hx hb dL_law_630 (by decide) ?_
  refine lv_iadd hx hb dL_law_631 ?_
  refine va_sld hx hb hX hbl hbA hS (hv1) dL_law_632 ?_
  refine w_ci (va_runV (As := [.int (xs (nI n + 1).toNatClampNeg)]) (rest := [.int r]) ⟨hx, hb, hml, hown, hts⟩ (c_X7_worked l D ad cI cR hi FU (xs (nI n + 1).toNatClampNeg) m1 r m2 e2) (cwV 1 hts gL_law_X7_worked rfl rfl rfl (by decide +kernel) ⟨Nat.le_of_ble_eq_true rfl, Nat.le_of_ble_eq_true rfl⟩) (w_preV (ci := 7) hK hP hN (S_mod ad cI cR).1 (S_mod ad cI cR).2 rfl) rfl rfl hl.1 rfl (lv_room (Nat.le_of_ble_eq_true rfl)) dL_law_633 ⟨Nat.le_of_ble_eq_true rfl, Nat.le_of_ble_eq_true rfl⟩) hA hS (fun H locs hP hS => ?_)
  refine lv_icmp_eq (tgt := 996) hx hb dL_law_636 (by decide) (fun _ => K _ _ ls m2 g2 hP hS hl) (fun c9 => absurd rfl c9)
set_option maxHeartbeats 4000000 in
set_option maxRecDepth 100000 in
theorem lc_19 {p : Program} {e : Env} {s : State} {m : MethodId} {below : List Frame} {meth : Method} {c : Code} {l : Launch} {b L : Nat} {xs : Nat → Int32} {D : va_G} {ad : Nat → Nat} {cI cR : ClassId} {Q : State → Prop} (C : LC p s m c b L xs D ad cI cR) {n : Nat} (hn : n + 4 ≤ L) {H : Heap} {locs : List Loc} {ls : Array Slot} {mm : Mem} (g : GR mm mm) (hP : va_P D vwCl (cw ad cI cR mm) H) (hS : va_S (fun q : Nat => s.heap.size ≤ q) s.heap H locs) (hl : lv_has ls 8 (lwl b ad n)) (K : ∀ (H : Heap) (locs : List Loc) (ls : Array Slot) (mm : Mem), GR mm mm → va_P D vwCl (cw ad cI cR mm) H → va_S (fun q : Nat => s.heap.size ≤ q) s.heap H locs → lv_has ls 8 (lwl b ad n) → W p l e room_1 s m #[Value.ref b] below meth c H locs 364 5491 Q (F0 m 996 ls [])) : W p l e room_1 s m #[Value.ref b] below meth c H locs 364 5491 Q (F0 m 641 ls []) := by
  obtain ⟨hx, hb, hml, hown, hts, hX, hbl, hi, hA, hK, hN, hL⟩ := C
  have hbA : ¬ s.heap.size ≤ b := Nat.not_le.mpr hbl
  have hv1 : vp_in (nI n + 1) L := by rw [show nI n + 1 = nI (n + 1) from nI_1 n]; exact vp_in_nI (by omega) (by omega)
  have hv2 : vp_in (nI n + 2) L := by rw [show nI n + 2 = nI (n + 2) from nI_add n 2]; exact vp_in_nI (by omega) (by omega)
  have hv3 : vp_in (nI n + 3) L := by rw [show nI n + 3 = nI (n + 3) from nI_add n 3]; exact vp_in_nI (by omega) (by omega)
  obtain ⟨r, m1, m2, e1, e2, g2⟩ := two (ok_refused FU (xs (nI n + 1).toNatClampNeg) (xs (nI n + 2).toNatClampNeg)) g
  refine lv_aload_n hx hb dL_law_641 rfl (lv_at hl 1 rfl) ?_
  refine lv_aload_n hx hb dL_law_642 rfl (lv_at hl 0 rfl) ?_
  refine lv_iload_n hx hb dL_law_643 rfl (lv_at hl 3 rfl) ?_
  refine lv_iconst (v := 1) hx hb dL_law_644 (by decide) ?_
  refine lv_iadd hx hb dL_law_645 ?_
  refine va_sld hx hb hX hbl hbA hS (hv1) dL_law_646 ?_
  refine lv_aload_n hx hb dL_law_647 rfl (lv_at hl 0 rfl) ?_
  refine lv_iload_n hx hb dL_law_648 rfl (lv_at hl 3 rfl) ?_
  refine lv_iconst (v := 2) hx hb dL_law_649 (by decide) ?_
  refine lv_iadd hx hb dL_law_650 ?_
  refine va_sld hx hb hX hbl hbA hS (hv2) dL_law_651 ?_
  refine w_ci (va_runV (As := [.int (xs (nI n + 1).toNatClampNeg), .int (xs (nI n + 2).toNatClampNeg)]) (rest := []) ⟨hx, hb, hml, hown, hts⟩ (c_X6_refused l D ad cI cR hi FU (xs (nI n + 1).toNatClampNeg) (xs (nI n + 2).toNatClampNeg) mm r m1 e1) (cwV 2 hts gL_law_X6_refused rfl rfl rfl (by decide +kernel) ⟨Nat.le_of_ble_eq_true rfl, Nat.le_of_ble_eq_true rfl⟩) (w_preV (ci := 6) hK hP hN (S_ac ad cI cR).1 (S_ac ad cI cR).2 rfl) rfl rfl hl.1 rfl (lv_room (Nat.le_of_ble_eq_true rfl)) dL_law_652 ⟨Nat.le_of_ble_eq_true rfl, Nat.le_of_ble_eq_true rfl⟩) hA hS (fun H locs hP hS => ?_)
  refine lv_aload_n hx hb dL_law_655 rfl (lv_at hl 2 rfl) ?_
  refine lv_aload_n hx hb dL_law_656 rfl (lv_at hl 0 rfl) ?_
  refine lv_iload_n hx hb dL_law_657 rfl (lv_at hl 3 rfl) ?_
  refine lv_iconst (v := 1) hx hb dL_law_658 (by decide) ?_
  refine lv_iadd hx hb dL_law_659 ?_
  refine va_sld hx hb hX hbl hbA hS (hv1) dL_law_660 ?_
  refine lv_aload_n hx hb dL_law_661 rfl (lv_at hl 0 rfl) ?_
  refine lv_iload_n hx hb dL_law_662 rfl (lv_at hl 3 rfl) ?_
  refine lv_iconst (v := 2) hx hb dL_law_663 (by decide) ?_
  refine lv_iadd hx hb dL_law_664 ?_
  refine va_sld hx hb hX hbl hbA hS (hv2) dL_law_665 ?_
  refine w_ci (va_runV (As := [.int (xs (nI n + 1).toNatClampNeg), .int (xs (nI n + 2).toNatClampNeg)]) (rest := [.int r]) ⟨hx, hb, hml, hown, hts⟩ (c_X7_refused l D ad cI cR hi FU (xs (nI n + 1).toNatClampNeg) (xs (nI n + 2).toNatClampNeg) m1 r m2 e2) (cwV 2 hts gL_law_X7_refused rfl rfl rfl (by decide +kernel) ⟨Nat.le_of_ble_eq_true rfl, Nat.le_of_ble_eq_true rfl⟩) (w_preV (ci := 7) hK hP hN (S_mod ad cI cR).1 (S_mod ad cI cR).2 rfl) rfl rfl hl.1 rfl (lv_room (Nat.le_of_ble_eq_true rfl)) dL_law_666 ⟨Nat.le_of_ble_eq_true rfl, Nat.le_of_ble_eq_true rfl⟩) hA hS (fun H locs hP hS => ?_)
  refine lv_icmp_eq (tgt := 996) hx hb dL_law_669 (by decide) (fun _ => K _ _ ls m2 g2 hP hS hl) (fun c9 => absurd rfl c9)
set_option maxHeartbeats 4000000 in
set_option maxRecDepth 100000 in
theorem lc_20 {p : Program} {e : Env} {s : State} {m : MethodId} {below : List Frame} {meth : Method} {c : Code} {l : Launch} {b L : Nat} {xs : Nat → Int32} {D : va_G} {ad : Nat → Nat} {cI cR : ClassId} {Q : State → Prop} (C : LC p s m c b L xs D ad cI cR) {n : Nat} (hn : n + 4 ≤ L) {H : Heap} {locs : List Loc} {ls : Array Slot} {mm : Mem} (g : GR mm mm) (hP : va_P D vwCl (cw ad cI cR mm) H) (hS : va_S (fun q : Nat => s.heap.size ≤ q) s.heap H locs) (hl : lv_has ls 8 (lwl b ad n)) (K : ∀ (H : Heap) (locs : List Loc) (ls : Array Slot) (mm : Mem), GR mm mm → va_P D vwCl (cw ad cI cR mm) H → va_S (fun q : Nat => s.heap.size ≤ q) s.heap H locs → lv_has ls 8 (lwl b ad n) → W p l e room_1 s m #[Value.ref b] below meth c H locs 364 5491 Q (F0 m 996 ls [])) : W p l e room_1 s m #[Value.ref b] below meth c H locs 364 5491 Q (F0 m 674 ls []) := by
  obtain ⟨hx, hb, hml, hown, hts, hX, hbl, hi, hA, hK, hN, hL⟩ := C
  have hbA : ¬ s.heap.size ≤ b := Nat.not_le.mpr hbl
  have hv1 : vp_in (nI n + 1) L := by rw [show nI n + 1 = nI (n + 1) from nI_1 n]; exact vp_in_nI (by omega) (by omega)
  have hv2 : vp_in (nI n + 2) L := by rw [show nI n + 2 = nI (n + 2) from nI_add n 2]; exact vp_in_nI (by omega) (by omega)
  have hv3 : vp_in (nI n + 3) L := by rw [show nI n + 3 = nI (n + 3) from nI_add n 3]; exact vp_in_nI (by omega) (by omega)
  obtain ⟨r, m1, m2, e1, e2, g2⟩ := two (ok_idle FU) g
  refine lv_aload_n hx hb dL_law_674 rfl (lv_at hl 1 rfl) ?_
  refine w_ci (va_runV (As := []) (rest := []) ⟨hx, hb, hml, hown, hts⟩ (c_X6_idle l D ad cI cR hi FU  mm r m1 e1) (cwV 0 hts gL_law_X6_idle rfl rfl rfl (by decide +kernel) ⟨Nat.le_of_ble_eq_true rfl, Nat.le_of_ble_eq_true rfl⟩) (w_preV (ci := 6) hK hP hN (S_ac ad cI cR).1 (S_ac ad cI cR).2 rfl) rfl rfl hl.1 rfl (lv_room (Nat.le_of_ble_eq_true rfl)) dL_law_675 ⟨Nat.le_of_ble_eq_true rfl, Nat.le_of_ble_eq_true rfl⟩) hA hS (fun H locs hP hS => ?_)
  refine lv_aload_n hx hb dL_law_678 rfl (lv_at hl 2 rfl) ?_
  refine w_ci (va_runV (As := []) (rest := [.int r]) ⟨hx, hb, hml, hown, hts⟩ (c_X7_idle l D ad cI cR hi FU  m1 r m2 e2) (cwV 0 hts gL_law_X7_idle rfl rfl rfl (by decide +kernel) ⟨Nat.le_of_ble_eq_true rfl, Nat.le_of_ble_eq_true rfl⟩) (w_preV (ci := 7) hK hP hN (S_mod ad cI cR).1 (S_mod ad cI cR).2 rfl) rfl rfl hl.1 rfl (lv_room (Nat.le_of_ble_eq_true rfl)) dL_law_679 ⟨Nat.le_of_ble_eq_true rfl, Nat.le_of_ble_eq_true rfl⟩) hA hS (fun H locs hP hS => ?_)
  refine lv_icmp_eq (tgt := 996) hx hb dL_law_682 (by decide) (fun _ => K _ _ ls m2 g2 hP hS hl) (fun c9 => absurd rfl c9)
set_option maxHeartbeats 4000000 in
set_option maxRecDepth 100000 in
theorem lc_22 {p : Program} {e : Env} {s : State} {m : MethodId} {below : List Frame} {meth : Method} {c : Code} {l : Launch} {b L : Nat} {xs : Nat → Int32} {D : va_G} {ad : Nat → Nat} {cI cR : ClassId} {Q : State → Prop} (C : LC p s m c b L xs D ad cI cR) {n : Nat} (hn : n + 4 ≤ L) {H : Heap} {locs : List Loc} {ls : Array Slot} {mm : Mem} (g : GR mm mm) (hP : va_P D vwCl (cw ad cI cR mm) H) (hS : va_S (fun q : Nat => s.heap.size ≤ q) s.heap H locs) (hl : lv_has ls 8 (lwl b ad n)) (K : ∀ (H : Heap) (locs : List Loc) (ls : Array Slot) (mm : Mem), GR mm mm → va_P D vwCl (cw ad cI cR mm) H → va_S (fun q : Nat => s.heap.size ≤ q) s.heap H locs → lv_has ls 8 (lwl b ad n) → W p l e room_1 s m #[Value.ref b] below meth c H locs 364 5491 Q (F0 m 996 ls [])) : W p l e room_1 s m #[Value.ref b] below meth c H locs 364 5491 Q (F0 m 740 ls []) := by
  obtain ⟨hx, hb, hml, hown, hts, hX, hbl, hi, hA, hK, hN, hL⟩ := C
  have hbA : ¬ s.heap.size ≤ b := Nat.not_le.mpr hbl
  have hv1 : vp_in (nI n + 1) L := by rw [show nI n + 1 = nI (n + 1) from nI_1 n]; exact vp_in_nI (by omega) (by omega)
  have hv2 : vp_in (nI n + 2) L := by rw [show nI n + 2 = nI (n + 2) from nI_add n 2]; exact vp_in_nI (by omega) (by omega)
  have hv3 : vp_in (nI n + 3) L := by rw [show nI n + 3 = nI (n + 3) from nI_add n 3]; exact vp_in_nI (by omega) (by omega)
  obtain ⟨r, m1, m2, e1, e2, g2⟩ := two (ok_requests FU) g
  refine lv_aload_n hx hb dL_law_740 rfl (lv_at hl 1 rfl) ?_
  refine w_ci (va_runV (As := []) (rest := []) ⟨hx, hb, hml, hown, hts⟩ (c_X6_requests l D ad cI cR hi FU  mm r m1 e1) (cwV 0 hts gL_law_X6_requests rfl rfl rfl (by decide +kernel) ⟨Nat.le_of_ble_eq_true rfl, Nat.le_of_ble_eq_true rfl⟩) (w_preV (ci := 6) hK hP hN (S_ac ad cI cR).1 (S_ac ad cI cR).2 rfl) rfl rfl hl.1 rfl (lv_room (Nat.le_of_ble_eq_true rfl)) dL_law_741 ⟨Nat.le_of_ble_eq_true rfl, Nat.le_of_ble_eq_true rfl⟩) hA hS (fun H locs hP hS => ?_)
  refine lv_aload_n hx hb dL_law_744 rfl (lv_at hl 2 rfl) ?_
  refine w_ci (va_runV (As := []) (rest := [.int r]) ⟨hx, hb, hml, hown, hts⟩ (c_X7_requests l D ad cI cR hi FU  m1 r m2 e2) (cwV 0 hts gL_law_X7_requests rfl rfl rfl (by decide +kernel) ⟨Nat.le_of_ble_eq_true rfl, Nat.le_of_ble_eq_true rfl⟩) (w_preV (ci := 7) hK hP hN (S_mod ad cI cR).1 (S_mod ad cI cR).2 rfl) rfl rfl hl.1 rfl (lv_room (Nat.le_of_ble_eq_true rfl)) dL_law_745 ⟨Nat.le_of_ble_eq_true rfl, Nat.le_of_ble_eq_true rfl⟩) hA hS (fun H locs hP hS => ?_)
  refine lv_icmp_eq (tgt := 996) hx hb dL_law_748 (by decide) (fun _ => K _ _ ls m2 g2 hP hS hl) (fun c9 => absurd rfl c9)
set_option maxHeartbeats 4000000 in
set_option maxRecDepth 100000 in
theorem lc_23 {p : Program} {e : Env} {s : State} {m : MethodId} {below : List Frame} {meth : Method} {c : Code} {l : Launch} {b L : Nat} {xs : Nat → Int32} {D : va_G} {ad : Nat → Nat} {cI cR : ClassId} {Q : State → Prop} (C : LC p s m c b L xs D ad cI cR) {n : Nat} (hn : n + 4 ≤ L) {H : Heap} {locs : List Loc} {ls : Array Slot} {mm : Mem} (g : GR mm mm) (hP : va_P D vwCl (cw ad cI cR mm) H) (hS : va_S (fun q : Nat => s.heap.size ≤ q) s.heap H locs) (hl : lv_has ls 8 (lwl b ad n)) (K : ∀ (H : Heap) (locs : List Loc) (ls : Array Slot) (mm : Mem), GR mm mm → va_P D vwCl (cw ad cI cR mm) H → va_S (fun q : Nat => s.heap.size ≤ q) s.heap H locs → lv_has ls 8 (lwl b ad n) → W p l e room_1 s m #[Value.ref b] below meth c H locs 364 5491 Q (F0 m 996 ls [])) : W p l e room_1 s m #[Value.ref b] below meth c H locs 364 5491 Q (F0 m 753 ls []) := by
  obtain ⟨hx, hb, hml, hown, hts, hX, hbl, hi, hA, hK, hN, hL⟩ := C
  have hbA : ¬ s.heap.size ≤ b := Nat.not_le.mpr hbl
  have hv1 : vp_in (nI n + 1) L := by rw [show nI n + 1 = nI (n + 1) from nI_1 n]; exact vp_in_nI (by omega) (by omega)
  have hv2 : vp_in (nI n + 2) L := by rw [show nI n + 2 = nI (n + 2) from nI_add n 2]; exact vp_in_nI (by omega) (by omega)
  have hv3 : vp_in (nI n + 3) L := by rw [show nI n + 3 = nI (n + 3) from nI_add n 3]; exact vp_in_nI (by omega) (by omega)
  obtain ⟨r, m1, m2, e1, e2, g2⟩ := two (ok_state FU (xs (nI n + 1).toNatClampNeg)) g
  refine lv_aload_n hx hb dL_law_753 rfl (lv_at hl 1 rfl) ?_
  refine lv_aload_n hx hb dL_law_754 rfl (lv_at hl 0 rfl) ?_
  refine lv_iload_n hx hb dL_law_755 rfl (lv_at hl 3 rfl) ?_
  refine lv_iconst (v := 1) hx hb dL_law_756 (by decide) ?_
  refine lv_iadd hx hb dL_law_757 ?_
  refine va_sld hx hb hX hbl hbA hS (hv1) dL_law_758 ?_
  refine w_ci (va_runV (As := [.int (xs (nI n + 1).toNatClampNeg)]) (rest := []) ⟨hx, hb, hml, hown, hts⟩ (c_X6_state l D ad cI cR hi FU (xs (nI n + 1).toNatClampNeg) mm r m1 e1) (cwV 1 hts gL_law_X6_state rfl rfl rfl (by decide +kernel) ⟨Nat.le_of_ble_eq_true rfl, Nat.le_of_ble_eq_true rfl⟩) (w_preV (ci := 6) hK hP hN (S_ac ad cI cR).1 (S_ac ad cI cR).2 rfl) rfl rfl hl.1 rfl (lv_room (Nat.le_of_ble_eq_true rfl)) dL_law_759 ⟨Nat.le_of_ble_eq_true rfl, Nat.le_of_ble_eq_true rfl⟩) hA hS (fun H locs hP hS => ?_)
  refine lv_aload_n hx hb dL_law_762 rfl (lv_at hl 2 rfl) ?_
  refine lv_aload_n hx hb dL_law_763 rfl (lv_at hl 0 rfl) ?_
  refine lv_iload_n hx hb dL_law_764 rfl (lv_at hl 3 rfl) ?_
  refine lv_iconst (v := 1) hx hb dL_law_765 (by decide) ?_
  refine lv_iadd hx hb dL_law_766 ?_
  refine va_sld hx hb hX hbl hbA hS (hv1) dL_law_767 ?_
  refine w_ci (va_runV (As := [.int (xs (nI n + 1).toNatClampNeg)]) (rest := [.int r]) ⟨hx, hb, hml, hown, hts⟩ (c_X7_state l D ad cI cR hi FU (xs (nI n + 1).toNatClampNeg) m1 r m2 e2) (cwV 1 hts gL_law_X7_state rfl rfl rfl (by decide +kernel) ⟨Nat.le_of_ble_eq_true rfl, Nat.le_of_ble_eq_true rfl⟩) (w_preV (ci := 7) hK hP hN (S_mod ad cI cR).1 (S_mod ad cI cR).2 rfl) rfl rfl hl.1 rfl (lv_room (Nat.le_of_ble_eq_true rfl)) dL_law_768 ⟨Nat.le_of_ble_eq_true rfl, Nat.le_of_ble_eq_true rfl⟩) hA hS (fun H locs hP hS => ?_)
  refine lv_icmp_eq (tgt := 996) hx hb dL_law_771 (by decide) (fun _ => K _ _ ls m2 g2 hP hS hl) (fun c9 => absurd rfl c9)
set_option maxHeartbeats 4000000 in
set_option maxRecDepth 100000 in
theorem lc_24 {p : Program} {e : Env} {s : State} {m : MethodId} {below : List Frame} {meth : Method} {c : Code} {l : Launch} {b L : Nat} {xs : Nat → Int32} {D : va_G} {ad : Nat → Nat} {cI cR : ClassId} {Q : State → Prop} (C : LC p s m c b L xs D ad cI cR) {n : Nat} (hn : n + 4 ≤ L) {H : Heap} {locs : List Loc} {ls : Array Slot} {mm : Mem} (g : GR mm mm) (hP : va_P D vwCl (cw ad cI cR mm) H) (hS : va_S (fun q : Nat => s.heap.size ≤ q) s.heap H locs) (hl : lv_has ls 8 (lwl b ad n)) (K : ∀ (H : Heap) (locs : List Loc) (ls : Array Slot) (mm : Mem), GR mm mm → va_P D vwCl (cw ad cI cR mm) H → va_S (fun q : Nat => s.heap.size ≤ q) s.heap H locs → lv_has ls 8 (lwl b ad n) → W p l e room_1 s m #[Value.ref b] below meth c H locs 364 5491 Q (F0 m 996 ls [])) : W p l e room_1 s m #[Value.ref b] below meth c H locs 364 5491 Q (F0 m 776 ls []) := by
  obtain ⟨hx, hb, hml, hown, hts, hX, hbl, hi, hA, hK, hN, hL⟩ := C
  have hbA : ¬ s.heap.size ≤ b := Nat.not_le.mpr hbl
  have hv1 : vp_in (nI n + 1) L := by rw [show nI n + 1 = nI (n + 1) from nI_1 n]; exact vp_in_nI (by omega) (by omega)
  have hv2 : vp_in (nI n + 2) L := by rw [show nI n + 2 = nI (n + 2) from nI_add n 2]; exact vp_in_nI (by omega) (by omega)
  have hv3 : vp_in (nI n + 3) L := by rw [show nI n + 3 = nI (n + 3) from nI_add n 3]; exact vp_in_nI (by omega) (by omega)
  obtain ⟨r, m1, m2, e1, e2, g2⟩ := two (ok_price FU (xs (nI n + 1).toNatClampNeg)) g
  refine lv_aload_n hx hb dL_law_776 rfl (lv_at hl 1 rfl) ?_
  refine lv_aload_n hx hb dL_law_777 rfl (lv_at hl 0 rfl) ?_
  refine lv_iload_n hx hb dL_law_778 rfl (lv_at hl 3 rfl) ?_
  refine lv_iconst (v := 1) hx hb dL_law_779 (by decide) ?_
  refine lv_iadd hx hb dL_law_780 ?_
  refine va_sld hx hb hX hbl hbA hS (hv1) dL_law_781 ?_
  refine w_ci (va_runV (As := [.int (xs (nI n + 1).toNatClampNeg)]) (rest := []) ⟨hx, hb, hml, hown, hts⟩ (c_X6_price l D ad cI cR hi FU (xs (nI n + 1).toNatClampNeg) mm r m1 e1) (cwV 1 hts gL_law_X6_price rfl rfl rfl (by decide +kernel) ⟨Nat.le_of_ble_eq_true rfl, Nat.le_of_ble_eq_true rfl⟩) (w_preV (ci := 6) hK hP hN (S_ac ad cI cR).1 (S_ac ad cI cR).2 rfl) rfl rfl hl.1 rfl (lv_room (Nat.le_of_ble_eq_true rfl)) dL_law_782 ⟨Nat.le_of_ble_eq_true rfl, Nat.le_of_ble_eq_true rfl⟩) hA hS (fun H locs hP hS => ?_)
  refine lv_aload_n hx hb dL_law_785 rfl (lv_at hl 2 rfl) ?_
  refine lv_aload_n hx hb dL_law_786 rfl (lv_at hl 0 rfl) ?_
  refine lv_iload_n hx hb dL_law_787 rfl (lv_at hl 3 rfl) ?_
  refine lv_iconst (v := 1) hx hb dL_law_788 (by decide) ?_
  refine lv_iadd hx hb dL_law_789 ?_
  refine va_sld hx hb hX hbl hbA hS (hv1) dL_law_790 ?_
  refine w_ci (va_runV (As := [.int (xs (nI n + 1).toNatClampNeg)]) (rest := [.int r]) ⟨hx, hb, hml, hown, hts⟩ (c_X7_price l D ad cI cR hi FU (xs (nI n + 1).toNatClampNeg) m1 r m2 e2) (cwV 1 hts gL_law_X7_price rfl rfl rfl (by decide +kernel) ⟨Nat.le_of_ble_eq_true rfl, Nat.le_of_ble_eq_true rfl⟩) (w_preV (ci := 7) hK hP hN (S_mod ad cI cR).1 (S_mod ad cI cR).2 rfl) rfl rfl hl.1 rfl (lv_room (Nat.le_of_ble_eq_true rfl)) dL_law_791 ⟨Nat.le_of_ble_eq_true rfl, Nat.le_of_ble_eq_true rfl⟩) hA hS (fun H locs hP hS => ?_)
  refine lv_icmp_eq (tgt := 996) hx hb dL_law_794 (by decide) (fun _ => K _ _ ls m2 g2 hP hS hl) (fun c9 => absurd rfl c9)
