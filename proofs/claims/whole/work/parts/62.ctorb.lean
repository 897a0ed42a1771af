def rowL : Nat → Int32 := upd (upd (upd (upd z0 0 1) 1 2) 2 30) 3 40
def laneW (cI : ClassId) (h : Nat) (u : Nat → Nat) : va_W := [(h, .inr (1, [.ref (u 1), .ref (u 3), .ref (u 5), .int 0, .int 30, .int 0, .int 0])), (u 1, .inr (3, [.ref (u 2)])), (u 2, .inl (cI, 4, .inl rowL)), (u 3, .inr (3, [.ref (u 4)])), (u 4, .inl (cI, 6, .inl z0)), (u 5, .inr (3, [.ref (u 6)])), (u 6, .inl (cI, 8, .inl z0))]
set_option maxHeartbeats 4000000 in
set_option maxRecDepth 100000 in
theorem k_X1 (l : Launch) (D : va_G) (cI cR : ClassId) (h0 sz : Nat) : Met l yX1_init wsX1_init { frames := 2, cells := 6, slots := 21, locals := 33 } (va_Pc [.ref h0] (KG D cI cR [(h0, .inr (1, [.null, .null, .null, .int 0, .int 0, .int 0, .int 0]))] sz)) (va_Qv (fun _ : Nat → Nat => True) (fun u t => KH D (va_A [(h0, .inr (1, [.null, .null, .null, .int 0, .int 0, .int 0, .int 0]))] sz) (laneW cI h0 u) t) (va_A [(h0, .inr (1, [.null, .null, .null, .int 0, .int 0, .int 0, .int 0]))] sz)) 6 21 (va_A [(h0, .inr (1, [.null, .null, .null, .int 0, .int 0, .int 0, .int 0]))] sz) := by
  refine Met.ofW (cc := cX1_init) (maxL := 1) (ret := none) (by decide) rfl ?_
  intro p e s m args below meth c s₁ B hml hv
  obtain ⟨rfl, hsz, hP, hK, hN, hD0⟩ := hv
  have hx := B.exec
  have hb := B.bytes
  have hr := B.returns
  have hts := atoms_spec (ws := wsX1_init) B.pre
  have hown : s.vm.findClass RX1 = some m.cls := findClass_of_methodNamed B.named
  have hlocks := B.notSynchronized
  have hin : meth.name = "<init>" := (name_of_methodNamed B.named B.method).1
  subst hsz
  have hD := hD0.self (sz := s.heap.size)
  generalize hAe : va_A [(h0, .inr (1, [.null, .null, .null, .int 0, .int 0, .int 0, .int 0]))] s.heap.size = A at hD ⊢
  have hA : ∀ q : Nat, s.heap.size ≤ q → A q := fun q h => by rw [← hAe]; exact Or.inr h
  have hS : va_S A s.heap s.heap [] := va_S.rf
  have hinX3 : ∀ w ∈ wsX30, w ∈ wsX1_init := (fun _ h => List.mem_cons_of_mem _ (List.mem_append_left _ (List.mem_append_right _ h)))
  have hinX1 : ∀ w ∈ wsX10, w ∈ wsX1_init := (fun _ h => List.mem_cons_of_mem _ (List.mem_append_right _ h))
  have hl := lv_entry ([.ref h0]) (n := 1) (Nat.le_of_ble_eq_true rfl)
  rw [lg_entry_eq]
  generalize (lg_sl ([.ref h0]) ++ List.replicate (1 - (lg_sl ([.ref h0])).length) Slot.unset).toArray = ls at hl ⊢
  have hl : lv_has ls 1 [(0, .ref h0)] := hl
  have hP : va_P D vwCl [(h0, .inr (1, [.null, .null, .null, .int 0, .int 0, .int 0, .int 0]))] s.heap := hP
  have hD : va_D A [(h0, .inr (1, [.null, .null, .null, .int 0, .int 0, .int 0, .int 0]))] := hD
  refine lv_aload_n hx hb dX1_init_0 rfl (lv_at hl 0 rfl) ?_
  refine W.objInit hx hb hown (hts (.methodLink RX1 3 objectInit) (List.mem_of_getElem? (i := 1) rfl)) (hts (.instanceMethod objectInit) (List.mem_of_getElem? (i := 2) rfl)) (hts _ (List.mem_of_getElem? (i := 3) rfl)) rfl (by rw [hml]; exact hl.1) rfl dX1_init_1 (Nat.le_of_ble_eq_true rfl) (Nat.le_of_ble_eq_true rfl) ?_
  refine W.eq (g2 := F0 m 4 ls []) rfl ?_
  refine lv_aload_n hx hb dX1_init_4 rfl (lv_at hl 0 rfl) ?_
  refine va_new (ci := 3) (fs := [.null]) (C := RX3) (T := TX3) (N := 1) hx hb hts hinX3 tyX3 tyX3_ok hown (hts (.classLink RX1 9 RX3) (List.mem_of_getElem? (i := 4) rfl)) (hts (.instantiable RX3 1) (List.mem_of_getElem? (i := 5) rfl)) (hts (.initialized RX3) (List.mem_of_getElem? (i := 6) rfl)) hK hP hD hS hA rfl (fun j hj => by rcases (show j = 0 by omega) with rfl <;> rfl) (Nat.le_of_ble_eq_true rfl) (Nat.le_of_ble_eq_true rfl) dX1_init_5 (fun q1 H hP hD hS => ?_)
  refine lv_dup hx hb dX1_init_8 rfl ?_
  refine lv_iconst (v := 4) hx hb dX1_init_9 (by decide) ?_
  refine g_cv (S := Nat) (W1 := fun v => rowW cI q1 v 4 z0) hP hD (va_runI (As := [.int (nI 4)]) (rest := [.ref q1, .ref h0]) ⟨hx, hb, hml, hown, hts⟩ (k_X3 l D cI cR q1 H.size 4 (by omega)) (cwI 1 hts gX1_init_X3_init rfl rfl rfl (hts (.initialized RX3) (List.mem_of_getElem? (i := 6) rfl)) (hts (.methodLink RX1 11 yX3_init) (List.mem_of_getElem? (i := 14) rfl)) (hts (.instanceMethod yX3_init) (List.mem_of_getElem? (i := 15) rfl)) rfl (by decide +kernel) ⟨Nat.le_of_ble_eq_true rfl, Nat.le_of_ble_eq_true rfl⟩) (g_preI hP hD hK hN) rfl rfl hl.1 rfl (lv_room (Nat.le_of_ble_eq_true rfl)) dX1_init_10 ⟨Nat.le_of_ble_eq_true rfl, Nat.le_of_ble_eq_true rfl⟩) hS hA (fun q2 H locs hP hD hS => ?_)
  have hP : va_P D vwCl [(h0, .inr (1, [.null, .null, .null, .int 0, .int 0, .int 0, .int 0])), (q1, .inr (3, [.ref q2])), (q2, .inl (cI, 4, .inl z0))] H := hP
  have hD : va_D A [(h0, .inr (1, [.null, .null, .null, .int 0, .int 0, .int 0, .int 0])), (q1, .inr (3, [.ref q2])), (q2, .inl (cI, 4, .inl z0))] := hD
  refine va_putF (D := D) (ci := 1) (v := .ref q1) (ty := .object "AdmissionControl$Row") (C := RX1) (T := TX1) (N := 7) hx hb hts hinX1 tyX1 tyX1_ok nmX1 hown hK hP hD hS 0 rfl rfl 0 (by decide) (hts (.fieldLink RX1 14 "AdmissionControl$Lane" "settings" "LAdmissionControl$Row;") (List.mem_of_getElem? (i := 7) rfl)) (fun _ h9 => h9) rfl hin rfl (by decide +kernel) rfl rfl (Nat.le_of_ble_eq_true rfl) dX1_init_13 (fun H locs hP hD hS => ?_)
  have hP : va_P D vwCl [(h0, .inr (1, [.ref q1, .null, .null, .int 0, .int 0, .int 0, .int 0])), (q1, .inr (3, [.ref q2])), (q2, .inl (cI, 4, .inl z0))] H := hP
  have hD : va_D A [(h0, .inr (1, [.ref q1, .null, .null, .int 0, .int 0, .int 0, .int 0])), (q1, .inr (3, [.ref q2])), (q2, .inl (cI, 4, .inl z0))] := hD
  refine lv_aload_n hx hb dX1_init_16 rfl (lv_at hl 0 rfl) ?_
  refine va_new (ci := 3) (fs := [.null]) (C := RX3) (T := TX3) (N := 1) hx hb hts hinX3 tyX3 tyX3_ok hown (hts (.classLink RX1 9 RX3) (List.mem_of_getElem? (i := 4) rfl)) (hts (.instantiable RX3 1) (List.mem_of_getElem? (i := 5) rfl)) (hts (.initialized RX3) (List.mem_of_getElem? (i := 6) rfl)) hK hP hD hS hA rfl (fun j hj => by rcases (show j = 0 by omega) with rfl <;> rfl) (Nat.le_of_ble_eq_true rfl) (Nat.le_of_ble_eq_true rfl) dX1_init_17 (fun q3 H hP hD hS => ?_)
  refine lv_dup hx hb dX1_init_20 rfl ?_
  refine lv_bipush (v := 6) hx hb dX1_init_21 (by decide) ?_
  refine g_cv (S := Nat) (W1 := fun v => rowW cI q3 v 6 z0) hP hD (va_runI (As := [.int (nI 6)]) (rest := [.ref q3, .ref h0]) ⟨hx, hb, hml, hown, hts⟩ (k_X3 l D cI cR q3 H.size 6 (by omega)) (cwI 1 hts gX1_init_X3_init rfl rfl rfl (hts (.initialized RX3) (List.mem_of_getElem? (i := 6) rfl)) (hts (.methodLink RX1 11 yX3_init) (List.mem_of_getElem? (i := 14) rfl)) (hts (.instanceMethod yX3_init) (List.mem_of_getElem? (i := 15) rfl)) rfl (by decide +kernel) ⟨Nat.le_of_ble_eq_true rfl, Nat.le_of_ble_eq_true rfl⟩) (g_preI hP hD hK hN) rfl rfl hl.1 rfl (lv_room (Nat.le_of_ble_eq_true rfl)) dX1_init_23 ⟨Nat.le_of_ble_eq_true rfl, Nat.le_of_ble_eq_true rfl⟩) hS hA (fun q4 H locs hP hD hS => ?_)
  have hP : va_P D vwCl [(h0, .inr (1, [.ref q1, .null, .null, .int 0, .int 0, .int 0, .int 0])), (q1, .inr (3, [.ref q2])), (q2, .inl (cI, 4, .inl z0)), (q3, .inr (3, [.ref q4])), (q4, .inl (cI, 6, .inl z0))] H := hP
  have hD : va_D A [(h0, .inr (1, [.ref q1, .null, .null, .int 0, .int 0, .int 0, .int 0])), (q1, .inr (3, [.ref q2])), (q2, .inl (cI, 4, .inl z0)), (q3, .inr (3, [.ref q4])), (q4, .inl (cI, 6, .inl z0))] := hD
  refine va_putF (D := D) (ci := 1) (v := .ref q3) (ty := .object "AdmissionControl$Row") (C := RX1) (T := TX1) (N := 7) hx hb hts hinX1 tyX1 tyX1_ok nmX1 hown hK hP hD hS 0 rfl rfl 1 (by decide) (hts (.fieldLink RX1 20 "AdmissionControl$Lane" "refusals" "LAdmissionControl$Row;") (List.mem_of_getElem? (i := 8) rfl)) (fun _ h9 => h9) rfl hin rfl (by decide +kernel) rfl rfl (Nat.le_of_ble_eq_true rfl) dX1_init_26 (fun H locs hP hD hS => ?_)
  have hP : va_P D vwCl [(h0, .inr (1, [.ref q1, .ref q3, .null, .int 0, .int 0, .int 0, .int 0])), (q1, .inr (3, [.ref q2])), (q2, .inl (cI, 4, .inl z0)), (q3, .inr (3, [.ref q4])), (q4, .inl (cI, 6, .inl z0))] H := hP
  have hD : va_D A [(h0, .inr (1, [.ref q1, .ref q3, .null, .int 0, .int 0, .int 0, .int 0])), (q1, .inr (3, [.ref q2])), (q2, .inl (cI, 4, .inl z0)), (q3, .inr (3, [.ref q4])), (q4, .inl (cI, 6, .inl z0))] := hD
  refine lv_aload_n hx hb dX1_init_29 rfl (lv_at hl 0 rfl) ?_
  refine va_new (ci := 3) (fs := [.null]) (C := RX3) (T := TX3) (N := 1) hx hb hts hinX3 tyX3 tyX3_ok hown (hts (.classLink RX1 9 RX3) (List.mem_of_getElem? (i := 4) rfl)) (hts (.instantiable RX3 1) (List.mem_of_getElem? (i := 5) rfl)) (hts (.initialized RX3) (List.mem_of_getElem? (i := 6) rfl)) hK hP hD hS hA rfl (fun j hj => by rcases (show j = 0 by omega) with rfl <;> rfl) (Nat.le_of_ble_eq_true rfl) (Nat.le_of_ble_eq_true rfl) dX1_init_30 (fun q5 H hP hD hS => ?_)
  refine lv_dup hx hb dX1_init_33 rfl ?_
  refine lv_bipush (v := 8) hx hb dX1_init_34 (by decide) ?_
  refine g_cv (S := Nat) (W1 := fun v => rowW cI q5 v 8 z0) hP hD (va_runI (As := [.int (nI 8)]) (rest := [.ref q5, .ref h0]) ⟨hx, hb, hml, hown, hts⟩ (k_X3 l D cI cR q5 H.size 8 (by omega)) (cwI 1 hts gX1_init_X3_init rfl rfl rfl (hts (.initialized RX3) (List.mem_of_getElem? (i := 6) rfl)) (hts (.methodLink RX1 11 yX3_init) (List.mem_of_getElem? (i := 14) rfl)) (hts (.instanceMethod yX3_init) (List.mem_of_getElem? (i := 15) rfl)) rfl (by decide +kernel) ⟨Nat.le_of_ble_eq_true rfl, Nat.le_of_ble_eq_true rfl⟩) (g_preI hP hD hK hN) rfl rfl hl.1 rfl (lv_room (Nat.le_of_ble_eq_true rfl)) dX1_init_36 ⟨Nat.le_of_ble_eq_true rfl, Nat.le_of_ble_eq_true rfl⟩) hS hA (fun q6 H locs hP hD hS => ?_)
  have hP : va_P D vwCl [(h0, .inr (1, [.ref q1, .ref q3, .null, .int 0, .int 0, .int 0, .int 0])), (q1, .inr (3, [.ref q2])), (q2, .inl (cI, 4, .inl z0)), (q3, .inr (3, [.ref q4])), (q4, .inl (cI, 6, .inl z0)), (q5, .inr (3, [.ref q6])), (q6, .inl (cI, 8, .inl z0))] H := hP
  have hD : va_D A [(h0, .inr (1, [.ref q1, .ref q3, .null, .int 0, .int 0, .int 0, .int 0])), (q1, .inr (3, [.ref q2])), (q2, .inl (cI, 4, .inl z0)), (q3, .inr (3, [.ref q4])), (q4, .inl (cI, 6, .inl z0)), (q5, .inr (3, [.ref q6])), (q6, .inl (cI, 8, .inl z0))] := hD
  refine va_putF (D := D) (ci := 1) (v := .ref q5) (ty := .object "AdmissionControl$Row") (C := RX1) (T := TX1) (N := 7) hx hb hts hinX1 tyX1 tyX1_ok nmX1 hown hK hP hD hS 0 rfl rfl 2 (by decide) (hts (.fieldLink RX1 23 "AdmissionControl$Lane" "queue" "LAdmissionControl$Row;") (List.mem_of_getElem? (i := 9) rfl)) (fun _ h9 => h9) rfl hin rfl (by decide +kernel) rfl rfl (Nat.le_of_ble_eq_true rfl) dX1_init_39 (fun H locs hP hD hS => ?_)
  have hP : va_P D vwCl [(h0, .inr (1, [.ref q1, .ref q3, .ref q5, .int 0, .int 0, .int 0, .int 0])), (q1, .inr (3, [.ref q2])), (q2, .inl (cI, 4, .inl z0)), (q3, .inr (3, [.ref q4])), (q4, .inl (cI, 6, .inl z0)), (q5, .inr (3, [.ref q6])), (q6, .inl (cI, 8, .inl z0))] H := hP
  have hD : va_D A [(h0, .inr (1, [.ref q1, .ref q3, .ref q5, .int 0, .int 0, .int 0, .int 0])), (q1, .inr (3, [.ref q2])), (q2, .inl (cI, 4, .inl z0)), (q3, .inr (3, [.ref q4])), (q4, .inl (cI, 6, .inl z0)), (q5, .inr (3, [.ref q6])), (q6, .inl (cI, 8, .inl z0))] := hD
  refine lv_aload_n hx hb dX1_init_42 rfl (lv_at hl 0 rfl) ?_
  refine lv_iconst (v := 0) hx hb dX1_init_43 (by decide) ?_
  refine va_put (D := D) (ci := 1) (v := .int 0) (ty := .int) (C := RX1) (T := TX1) (N := 7) hx hb hts hinX1 tyX1 tyX1_ok nmX1 hown hK hP hD hS 0 rfl rfl 3 (by decide) (hts (.fieldLink RX1 26 "AdmissionControl$Lane" "length" "I") (List.mem_of_getElem? (i := 10) rfl)) (fun _ h9 => h9) rfl (by decide +kernel) rfl rfl (Nat.le_of_ble_eq_true rfl) dX1_init_44 (fun H locs hP hD hS => ?_)
  have hP : va_P D vwCl [(h0, .inr (1, [.ref q1, .ref q3, .ref q5, .int 0, .int 0, .int 0, .int 0])), (q1, .inr (3, [.ref q2])), (q2, .inl (cI, 4, .inl z0)), (q3, .inr (3, [.ref q4])), (q4, .inl (cI, 6, .inl z0)), (q5, .inr (3, [.ref q6])), (q6, .inl (cI, 8, .inl z0))] H := hP
  have hD : va_D A [(h0, .inr (1, [.ref q1, .ref q3, .ref q5, .int 0, .int 0, .int 0, .int 0])), (q1, .inr (3, [.ref q2])), (q2, .inl (cI, 4, .inl z0)), (q3, .inr (3, [.ref q4])), (q4, .inl (cI, 6, .inl z0)), (q5, .inr (3, [.ref q6])), (q6, .inl (cI, 8, .inl z0))] := hD
  refine lv_aload_n hx hb dX1_init_47 rfl (lv_at hl 0 rfl) ?_
  refine lv_bipush (v := 30) hx hb dX1_init_48 (by decide) ?_
  refine va_put (D := D) (ci := 1) (v := .int 30) (ty := .int) (C := RX1) (T := TX1) (N := 7) hx hb hts hinX1 tyX1 tyX1_ok nmX1 hown hK hP hD hS 0 rfl rfl 4 (by decide) (hts (.fieldLink RX1 30 "AdmissionControl$Lane" "tokens" "I") (List.mem_of_getElem? (i := 11) rfl)) (fun _ h9 => h9) rfl (by decide +kernel) rfl rfl (Nat.le_of_ble_eq_true rfl) dX1_init_50 (fun H locs hP hD hS => ?_)
  have hP : va_P D vwCl [(h0, .inr (1, [.ref q1, .ref q3, .ref q5, .int 0, .int 30, .int 0, .int 0])), (q1, .inr (3, [.ref q2])), (q2, .inl (cI, 4, .inl z0)), (q3, .inr (3, [.ref q4])), (q4, .inl (cI, 6, .inl z0)), (q5, .inr (3, [.ref q6])), (q6, .inl (cI, 8, .inl z0))] H := hP
  have hD : va_D A [(h0, .inr (1, [.ref q1, .ref q3, .ref q5, .int 0, .int 30, .int 0, .int 0])), (q1, .inr (3, [.ref q2])), (q2, .inl (cI, 4, .inl z0)), (q3, .inr (3, [.ref q4])), (q4, .inl (cI, 6, .inl z0)), (q5, .inr (3, [.ref q6])), (q6, .inl (cI, 8, .inl z0))] := hD
  refine lv_aload_n hx hb dX1_init_53 rfl (lv_at hl 0 rfl) ?_
  refine lv_iconst (v := 0) hx hb dX1_init_54 (by decide) ?_
  refine va_put (D := D) (ci := 1) (v := .int 0) (ty := .int) (C := RX1) (T := TX1) (N := 7) hx hb hts hinX1 tyX1 tyX1_ok nmX1 hown hK hP hD hS 0 rfl rfl 5 (by decide) (hts (.fieldLink RX1 33 "AdmissionControl$Lane" "pass" "I") (List.mem_of_getElem? (i := 12) rfl)) (fun _ h9 => h9) rfl (by decide +kernel) rfl rfl (Nat.le_of_ble_eq_true rfl) dX1_init_55 (fun H locs hP hD hS => ?_)
  have hP : va_P D vwCl [(h0, .inr (1, [.ref q1, .ref q3, .ref q5, .int 0, .int 30, .int 0, .int 0])), (q1, .inr (3, [.ref q2])), (q2, .inl (cI, 4, .inl z0)), (q3, .inr (3, [.ref q4])), (q4, .inl (cI, 6, .inl z0)), (q5, .inr (3, [.ref q6])), (q6, .inl (cI, 8, .inl z0))] H := hP
  have hD : va_D A [(h0, .inr (1, [.ref q1, .ref q3, .ref q5, .int 0, .int 30, .int 0, .int 0])), (q1, .inr (3, [.ref q2])), (q2, .inl (cI, 4, .inl z0)), (q3, .inr (3, [.ref q4])), (q4, .inl (cI, 6, .inl z0)), (q5, .inr (3, [.ref q6])), (q6, .inl (cI, 8, .inl z0))] := hD
  refine lv_aload_n hx hb dX1_init_58 rfl (lv_at hl 0 rfl) ?_
  refine lv_iconst (v := 0) hx hb dX1_init_59 (by decide) ?_
  refine va_put (D := D) (ci := 1) (v := .int 0) (ty := .int) (C := RX1) (T := TX1) (N := 7) hx hb hts hinX1 tyX1 tyX1_ok nmX1 hown hK hP hD hS 0 rfl rfl 6 (by decide) (hts (.fieldLink RX1 36 "AdmissionControl$Lane" "units" "I") (List.mem_of_getElem? (i := 13) rfl)) (fun _ h9 => h9) rfl (by decide +kernel) rfl rfl (Nat.le_of_ble_eq_true rfl) dX1_init_60 (fun H locs hP hD hS => ?_)
  have hP : va_P D vwCl [(h0, .inr (1, [.ref q1, .ref q3, .ref q5, .int 0, .int 30, .int 0, .int 0])), (q1, .inr (3, [.ref q2])), (q2, .inl (cI, 4, .inl z0)), (q3, .inr (3, [.ref q4])), (q4, .inl (cI, 6, .inl z0)), (q5, .inr (3, [.ref q6])), (q6, .inl (cI, 8, .inl z0))] H := hP
  have hD : va_D A [(h0, .inr (1, [.ref q1, .ref q3, .ref q5, .int 0, .int 30, .int 0, .int 0])), (q1, .inr (3, [.ref q2])), (q2, .inl (cI, 4, .inl z0)), (q3, .inr (3, [.ref q4])), (q4, .inl (cI, 6, .inl z0)), (q5, .inr (3, [.ref q6])), (q6, .inl (cI, 8, .inl z0))] := hD
  have hP := hP.sub (ws' := [(h0, .inr (1, [.ref q1, .ref q3, .ref q5, .int 0, .int 30, .int 0, .int 0])), (q3, .inr (3, [.ref q4])), (q4, .inl (cI, 6, .inl z0)), (q5, .inr (3, [.ref q6])), (q6, .inl (cI, 8, .inl z0))] ++ rowW cI q1 q2 4 (z0)) [0, 3, 4, 5, 6, 1, 2] rfl
  have hD := hD.sub (ws' := [(h0, .inr (1, [.ref q1, .ref q3, .ref q5, .int 0, .int 30, .int 0, .int 0])), (q3, .inr (3, [.ref q4])), (q4, .inl (cI, 6, .inl z0)), (q5, .inr (3, [.ref q6])), (q6, .inl (cI, 8, .inl z0))] ++ rowW cI q1 q2 4 (z0)) [0, 3, 4, 5, 6, 1, 2] (by decide) rfl
  refine lv_aload_n hx hb dX1_init_63 rfl (lv_at hl 0 rfl) ?_
  refine va_get (D := D) (ci := 1) (v := .ref q1) (C := RX1) (T := TX1) (N := 7) hx hb hts hinX1 hown hK hP 0 rfl rfl 0 (by decide) (hts (.fieldLink RX1 14 "AdmissionControl$Lane" "settings" "LAdmissionControl$Row;") (List.mem_of_getElem? (i := 7) rfl)) (fun _ h9 => h9) rfl dX1_init_64 ?_
  refine lv_iconst (v := 0) hx hb dX1_init_67 (by decide) ?_
  refine lv_iconst (v := 1) hx hb dX1_init_68 (by decide) ?_
  refine g_cv (S := Unit) (wc := rowW cI q1 q2 4 (z0)) (W1 := fun _ => rowW cI q1 q2 4 (upd (z0) 0 1)) hP hD (va_runV (As := [.int (nI 0), .int 1]) (rest := []) ⟨hx, hb, hml, hown, hts⟩ (k_put l D cI cR q1 q2 4 0 H.size (z0) 1 (by omega) (by omega)) (cwV 2 hts gX1_init_X3_put rfl rfl rfl (by decide +kernel) ⟨Nat.le_of_ble_eq_true rfl, Nat.le_of_ble_eq_true rfl⟩) (g_preV hP hD hK hN (ci := 3) rfl rfl) rfl rfl hl.1 rfl (lv_room (Nat.le_of_ble_eq_true rfl)) dX1_init_69 ⟨Nat.le_of_ble_eq_true rfl, Nat.le_of_ble_eq_true rfl⟩) hS hA (fun _ H locs hP hD hS => ?_)
  refine lv_aload_n hx hb dX1_init_72 rfl (lv_at hl 0 rfl) ?_
  refine va_get (D := D) (ci := 1) (v := .ref q1) (C := RX1) (T := TX1) (N := 7) hx hb hts hinX1 hown hK hP 0 rfl rfl 0 (by decide) (hts (.fieldLink RX1 14 "AdmissionControl$Lane" "settings" "LAdmissionControl$Row;") (List.mem_of_getElem? (i := 7) rfl)) (fun _ h9 => h9) rfl dX1_init_73 ?_
  refine lv_iconst (v := 1) hx hb dX1_init_76 (by decide) ?_
  refine lv_iconst (v := 2) hx hb dX1_init_77 (by decide) ?_
  refine g_cv (S := Unit) (wc := rowW cI q1 q2 4 (upd (z0) 0 1)) (W1 := fun _ => rowW cI q1 q2 4 (upd (upd (z0) 0 1) 1 2)) hP hD (va_runV (As := [.int (nI 1), .int 2]) (rest := []) ⟨hx, hb, hml, hown, hts⟩ (k_put l D cI cR q1 q2 4 1 H.size (upd (z0) 0 1) 2 (by omega) (by omega)) (cwV 2 hts gX1_init_X3_put rfl rfl rfl (by decide +kernel) ⟨Nat.le_of_ble_eq_true rfl, Nat.le_of_ble_eq_true rfl⟩) (g_preV hP hD hK hN (ci := 3) rfl rfl) rfl rfl hl.1 rfl (lv_room (Nat.le_of_ble_eq_true rfl)) dX1_init_78 ⟨Nat.le_of_ble_eq_true rfl, Nat.le_of_ble_eq_true rfl⟩) hS hA (fun _ H locs hP hD hS => ?_)
  refine lv_aload_n hx hb dX1_init_81 rfl (lv_at hl 0 rfl) ?_
  refine va_get (D := D) (ci := 1) (v := .ref q1) (C := RX1) (T := TX1) (N := 7) hx hb hts hinX1 hown hK hP 0 rfl rfl 0 (by decide) (hts (.fieldLink RX1 14 "AdmissionControl$Lane" "settings" "LAdmissionControl$Row;") (List.mem_of_getElem? (i := 7) rfl)) (fun _ h9 => h9) rfl dX1_init_82 ?_
  refine lv_iconst (v := 2) hx hb dX1_init_85 (by decide) ?_
  refine lv_bipush (v := 30) hx hb dX1_init_86 (by decide) ?_
  refine g_cv (S := Unit) (wc := rowW cI q1 q2 4 (upd (upd (z0) 0 1) 1 2)) (W1 := fun _ => rowW cI q1 q2 4 (upd (upd (upd (z0) 0 1) 1 2) 2 30)) hP hD (va_runV (As := [.int (nI 2), .int 30]) (rest := []) ⟨hx, hb, hml, hown, hts⟩ (k_put l D cI cR q1 q2 4 2 H.size (upd (upd (z0) 0 1) 1 2) 30 (by omega) (by omega)) (cwV 2 hts gX1_init_X3_put rfl rfl rfl (by decide +kernel) ⟨Nat.le_of_ble_eq_true rfl, Nat.le_of_ble_eq_true rfl⟩) (g_preV hP hD hK hN (ci := 3) rfl rfl) rfl rfl hl.1 rfl (lv_room (Nat.le_of_ble_eq_true rfl)) dX1_init_88 ⟨Nat.le_of_ble_eq_true rfl, Nat.le_of_ble_eq_true rfl⟩) hS hA (fun _ H locs hP hD hS => ?_)
  refine lv_aload_n hx hb dX1_init_91 rfl (lv_at hl 0 rfl) ?_
  refine va_get (D := D) (ci := 1) (v := .ref q1) (C := RX1) (T := TX1) (N := 7) hx hb hts hinX1 hown hK hP 0 rfl rfl 0 (by decide) (hts (.fieldLink RX1 14 "AdmissionControl$Lane" "settings" "LAdmissionControl$Row;") (List.mem_of_getElem? (i := 7) rfl)) (fun _ h9 => h9) rfl dX1_init_92 ?_
  refine lv_iconst (v := 3) hx hb dX1_init_95 (by decide) ?_
  refine lv_bipush (v := 40) hx hb dX1_init_96 (by decide) ?_
  refine g_cv (S := Unit) (wc := rowW cI q1 q2 4 (upd (upd (upd (z0) 0 1) 1 2) 2 30)) (W1 := fun _ => rowW cI q1 q2 4 (upd (upd (upd (upd (z0) 0 1) 1 2) 2 30) 3 40)) hP hD (va_runV (As := [.int (nI 3), .int 40]) (rest := []) ⟨hx, hb, hml, hown, hts⟩ (k_put l D cI cR q1 q2 4 3 H.size (upd (upd (upd (z0) 0 1) 1 2) 2 30) 40 (by omega) (by omega)) (cwV 2 hts gX1_init_X3_put rfl rfl rfl (by decide +kernel) ⟨Nat.le_of_ble_eq_true rfl, Nat.le_of_ble_eq_true rfl⟩) (g_preV hP hD hK hN (ci := 3) rfl rfl) rfl rfl hl.1 rfl (lv_room (Nat.le_of_ble_eq_true rfl)) dX1_init_98 ⟨Nat.le_of_ble_eq_true rfl, Nat.le_of_ble_eq_true rfl⟩) hS hA (fun _ H locs hP hD hS => ?_)
  have hP := hP.sub (ws' := laneW cI h0 (fun i => match i with | 1 => q1 | 2 => q2 | 3 => q3 | 4 => q4 | 5 => q5 | _ => q6)) [0, 5, 6, 1, 2, 3, 4] rfl
  have hD := hD.sub (ws' := laneW cI h0 (fun i => match i with | 1 => q1 | 2 => q2 | 3 => q3 | 4 => q4 | 5 => q5 | _ => q6)) [0, 5, 6, 1, 2, 3, 4] (by decide) rfl
  refine W.widen (k := 6) (n := 21) (by omega) (by omega) ?_
  exact W.vret hx hb hr (fun t ht hW => ⟨⟨(fun i => match i with | 1 => q1 | 2 => q2 | 3 => q3 | 4 => q4 | 5 => q5 | _ => q6), rfl, trivial, by rw [ht]; exact hP, hD⟩, hS.F ht⟩) hS.2.2 dX1_init_101
def textW (cI : ClassId) (h : Nat) (u : Nat → Nat) : va_W := [(h, .inr (5, [.ref (u 1), .int 0])), (u 1, .inr (3, [.ref (u 2)])), (u 2, .inl (cI, 80, .inl z0))]
set_option maxHeartbeats 4000000 in
set_option maxRecDepth 100000 in
theorem k_X5 (l : Launch) (D : va_G) (cI cR : ClassId) (h0 sz : Nat) : Met l yX5_init wsX5_init { frames := 2, cells := 2, slots := 81, locals := 33 } (va_Pc [.ref h0] (KG D cI cR [(h0, .inr (5, [.null, .int 0]))] sz)) (va_Qv (fun _ : Nat → Nat => True) (fun u t => KH D (va_A [(h0, .inr (5, [.null, .int 0]))] sz) (textW cI h0 u) t) (va_A [(h0, .inr (5, [.null, .int 0]))] sz)) 2 81 (va_A [(h0, .inr (5, [.null, .int 0]))] sz) := by
  refine Met.ofW (cc := cX5_init) (maxL := 1) (ret := none) (by decide) rfl ?_
  intro p e s m args below meth c s₁ B hml hv
  obtain ⟨rfl, hsz, hP, hK, hN, hD0⟩ := hv
  have hx := B.exec
  have hb := B.bytes
  have hr := B.returns
  have hts := atoms_spec (ws := wsX5_init) B.pre
  have hown : s.vm.findClass RX5 = some m.cls := findClass_of_methodNamed B.named
  have hlocks := B.notSynchronized
  have hin : meth.name = "<init>" := (name_of_methodNamed B.named B.method).1
  subst hsz
  have hD := hD0.self (sz := s.heap.size)
  generalize hAe : va_A [(h0, .inr (5, [.null, .int 0]))] s.heap.size = A at hD ⊢
  have hA : ∀ q : Nat, s.heap.size ≤ q → A q := fun q h => by rw [← hAe]; exact Or.inr h
  have hS : va_S A s.heap s.heap [] := va_S.rf
  have hinX3 : ∀ w ∈ wsX30, w ∈ wsX5_init := (fun _ h => List.mem_cons_of_mem _ (List.mem_append_left _ (List.mem_append_right _ h)))
  have hinX5 : ∀ w ∈ wsX50, w ∈ wsX5_init := (fun _ h => List.mem_cons_of_mem _ (List.mem_append_right _ h))
  have hl := lv_entry ([.ref h0]) (n := 1) (Nat.le_of_ble_eq_true rfl)
  rw [lg_entry_eq]
  generalize (lg_sl ([.ref h0]) ++ List.replicate (1 - (lg_sl ([.ref h0])).length) Slot.unset).toArray = ls at hl ⊢
  have hl : lv_has ls 1 [(0, .ref h0)] := hl
  have hP : va_P D vwCl [(h0, .inr (5, [.null, .int 0]))] s.heap := hP
  have hD : va_D A [(h0, .inr (5, [.null, .int 0]))] := hD
  refine lv_aload_n hx hb dX5_init_0 rfl (lv_at hl 0 rfl) ?_
  refine W.objInit hx hb hown (hts (.methodLink RX5 3 objectInit) (List.mem_of_getElem? (i := 1) rfl)) (hts (.instanceMethod objectInit) (List.mem_of_getElem? (i := 2) rfl)) (hts _ (List.mem_of_getElem? (i := 3) rfl)) rfl (by rw [hml]; exact hl.1) rfl dX5_init_1 (Nat.le_of_ble_eq_true rfl) (Nat.le_of_ble_eq_true rfl) ?_
  refine W.eq (g2 := F0 m 4 ls []) rfl ?_
  refine lv_aload_n hx hb dX5_init_4 rfl (lv_at hl 0 rfl) ?_
  refine va_new (ci := 3) (fs := [.null]) (C := RX3) (T := TX3) (N := 1) hx hb hts hinX3 tyX3 tyX3_ok hown (hts (.classLink RX5 9 RX3) (List.mem_of_getElem? (i := 4) rfl)) (hts (.instantiable RX3 1) (List.mem_of_getElem? (i := 5) rfl)) (hts (.initialized RX3) (List.mem_of_getElem? (i := 6) rfl)) hK hP hD hS hA rfl (fun j hj => by rcases (show j = 0 by omega) with rfl <;> rfl) (Nat.le_of_ble_eq_true rfl) (Nat.le_of_ble_eq_true rfl) dX5_init_5 (fun q1 H hP hD hS => ?_)
  refine lv_dup hx hb dX5_init_8 rfl ?_
  refine lv_bipush (v := 80) hx hb dX5_init_9 (by decide) ?_
  refine g_cv (S := Nat) (W1 := fun v => rowW cI q1 v 80 z0) hP hD (va_runI (As := [.int (nI 80)]) (rest := [.ref q1, .ref h0]) ⟨hx, hb, hml, hown, hts⟩ (k_X3 l D cI cR q1 H.size 80 (by omega)) (cwI 1 hts gX5_init_X3_init rfl rfl rfl (hts (.initialized RX3) (List.mem_of_getElem? (i := 6) rfl)) (hts (.methodLink RX5 11 yX3_init) (List.mem_of_getElem? (i := 9) rfl)) (hts (.instanceMethod yX3_init) (List.mem_of_getElem? (i := 10) rfl)) rfl (by decide +kernel) ⟨Nat.le_of_ble_eq_true rfl, Nat.le_of_ble_eq_true rfl⟩) (g_preI hP hD hK hN) rfl rfl hl.1 rfl (lv_room (Nat.le_of_ble_eq_true rfl)) dX5_init_11 ⟨Nat.le_of_ble_eq_true rfl, Nat.le_of_ble_eq_true rfl⟩) hS hA (fun q2 H locs hP hD hS => ?_)
  have hP : va_P D vwCl [(h0, .inr (5, [.null, .int 0])), (q1, .inr (3, [.ref q2])), (q2, .inl (cI, 80, .inl z0))] H := hP
  have hD : va_D A [(h0, .inr (5, [.null, .int 0])), (q1, .inr (3, [.ref q2])), (q2, .inl (cI, 80, .inl z0))] := hD
  refine va_putF (D := D) (ci := 5) (v := .ref q1) (ty := .object "AdmissionControl$Row") (C := RX5) (T := TX5) (N := 2) hx hb hts hinX5 tyX5 tyX5_ok nmX5 hown hK hP hD hS 0 rfl rfl 0 (by decide) (hts (.fieldLink RX5 14 "AdmissionControl$Text" "characters" "LAdmissionControl$Row;") (List.mem_of_getElem? (i := 7) rfl)) (fun _ h9 => h9) rfl hin rfl (by decide +kernel) rfl rfl (Nat.le_of_ble_eq_true rfl) dX5_init_14 (fun H locs hP hD hS => ?_)
  have hP : va_P D vwCl [(h0, .inr (5, [.ref q1, .int 0])), (q1, .inr (3, [.ref q2])), (q2, .inl (cI, 80, .inl z0))] H := hP
  have hD : va_D A [(h0, .inr (5, [.ref q1, .int 0])), (q1, .inr (3, [.ref q2])), (q2, .inl (cI, 80, .inl z0))] := hD
  refine lv_aload_n hx hb dX5_init_17 rfl (lv_at hl 0 rfl) ?_
  refine lv_iconst (v := 0) hx hb dX5_init_18 (by decide) ?_
  refine va_put (D := D) (ci := 5) (v := .int 0) (ty := .int) (C := RX5) (T := TX5) (N := 2) hx hb hts hinX5 tyX5 tyX5_ok nmX5 hown hK hP hD hS 0 rfl rfl 1 (by decide) (hts (.fieldLink RX5 20 "AdmissionControl$Text" "length" "I") (List.mem_of_getElem? (i := 8) rfl)) (fun _ h9 => h9) rfl (by decide +kernel) rfl rfl (Nat.le_of_ble_eq_true rfl) dX5_init_19 (fun H locs hP hD hS => ?_)
  have hP : va_P D vwCl (textW cI h0 (fun i => match i with | 1 => q1 | _ => q2)) H := hP
  have hD : va_D A (textW cI h0 (fun i => match i with | 1 => q1 | _ => q2)) := hD
  refine W.widen (k := 2) (n := 81) (by omega) (by omega) ?_
  exact W.vret hx hb hr (fun t ht hW => ⟨⟨(fun i => match i with | 1 => q1 | _ => q2), rfl, trivial, by rw [ht]; exact hP, hD⟩, hS.F ht⟩) hS.2.2 dX5_init_22
