def histW (cI cR : ClassId) (h : Nat) (v : (Nat → Nat) × (Nat → Nat → Nat)) : va_W := [(h, .inr (0, [.ref (v.1 0), .ref (v.1 1), .ref (v.1 2), .ref (v.1 3), .int 0]))] ++ srvW cI cR (v.1 0) (v.2 0) ++ srvW cI cR (v.1 1) (v.2 1) ++ srvW cI cR (v.1 2) (v.2 2) ++ srvW cI cR (v.1 3) (v.2 3)
abbrev acS : Type := (Nat → Nat) × (Nat → Nat) × (Nat → Nat) × ((Nat → Nat) × (Nat → Nat → Nat)) × (Nat → Nat)
def acW (cI cR : ClassId) (h : Nat) (v : acS) : va_W := [(h, .inr (6, [.ref (v.1 0), .ref (v.1 1), .ref (v.1 2), .ref (v.1 3)]))] ++ srvW cI cR (v.1 0) v.2.1 ++ srvW cI cR (v.1 1) v.2.2.1 ++ histW cI cR (v.1 2) v.2.2.2.1 ++ textW cI (v.1 3) v.2.2.2.2
set_option maxHeartbeats 8000000 in
set_option maxRecDepth 100000 in
theorem k_X0 (l : Launch) (D : va_G) (cI cR : ClassId) (h0 sz : Nat) : Met l yX0_init wsX0_init { frames := 4, cells := 236, slots := 1960, locals := 74 } (va_Pc [.ref h0] (KG D cI cR [(h0, .inr (0, [.null, .null, .null, .null, .int 0]))] sz)) (va_Qv (fun _ : (Nat → Nat) × (Nat → Nat → Nat) => True) (fun u t => KH D (va_A [(h0, .inr (0, [.null, .null, .null, .null, .int 0]))] sz) (histW cI cR h0 u) t) (va_A [(h0, .inr (0, [.null, .null, .null, .null, .int 0]))] sz)) 236 1960 (va_A [(h0, .inr (0, [.null, .null, .null, .null, .int 0]))] sz) := by
  refine Met.ofW (cc := cX0_init) (maxL := 1) (ret := none) (by decide) rfl ?_
  intro p e s m args below meth c s₁ B hml hv
  obtain ⟨rfl, hsz, hP, hK, hN, hD0⟩ := hv
  have hx := B.exec
  have hb := B.bytes
  have hr := B.returns
  have hts := atoms_spec (ws := wsX0_init) B.pre
  have hown : s.vm.findClass RX0 = some m.cls := findClass_of_methodNamed B.named
  have hlocks := B.notSynchronized
  have hin : meth.name = "<init>" := (name_of_methodNamed B.named B.method).1
  subst hsz
  have hD := hD0.self (sz := s.heap.size)
  generalize hAe : va_A [(h0, .inr (0, [.null, .null, .null, .null, .int 0]))] s.heap.size = A at hD ⊢
  have hA : ∀ q : Nat, s.heap.size ≤ q → A q := fun q h => by rw [← hAe]; exact Or.inr h
  have hS : va_S A s.heap s.heap [] := va_S.rf
  have hinX4 : ∀ w ∈ wsX40, w ∈ wsX0_init := (fun _ h => List.mem_cons_of_mem _ (List.mem_append_left _ (List.mem_append_left _ (List.mem_append_left _ (List.mem_append_left _ (List.mem_append_right _ h))))))
  have hinX0 : ∀ w ∈ wsX00, w ∈ wsX0_init := (fun _ h => List.mem_cons_of_mem _ (List.mem_append_left _ (List.mem_append_left _ (List.mem_append_left _ (List.mem_append_right _ h)))))
  have hinX3 : ∀ w ∈ wsX30, w ∈ wsX0_init := (fun _ h => List.mem_cons_of_mem _ (List.mem_append_left _ (List.mem_append_left _ (List.mem_append_right _ h))))
  have hinX1 : ∀ w ∈ wsX10, w ∈ wsX0_init := (fun _ h => List.mem_cons_of_mem _ (List.mem_append_left _ (List.mem_append_right _ h)))
  have hinX2 : ∀ w ∈ wsX20, w ∈ wsX0_init := (fun _ h => List.mem_cons_of_mem _ (List.mem_append_right _ h))
  have hl := lv_entry ([.ref h0]) (n := 1) (Nat.le_of_ble_eq_true rfl)
  rw [lg_entry_eq]
  generalize (lg_sl ([.ref h0]) ++ List.replicate (1 - (lg_sl ([.ref h0])).length) Slot.unset).toArray = ls at hl ⊢
  have hl : lv_has ls 1 [(0, .ref h0)] := hl
  have hP : va_P D vwCl [(h0, .inr (0, [.null, .null, .null, .null, .int 0]))] s.heap := hP
  have hD : va_D A [(h0, .inr (0, [.null, .null, .null, .null, .int 0]))] := hD
  refine lv_aload_n hx hb dX0_init_0 rfl (lv_at hl 0 rfl) ?_
  refine W.objInit hx hb hown (hts (.methodLink RX0 3 objectInit) (List.mem_of_getElem? (i := 1) rfl)) (hts (.instanceMethod objectInit) (List.mem_of_getElem? (i := 2) rfl)) (hts _ (List.mem_of_getElem? (i := 3) rfl)) rfl (by rw [hml]; exact hl.1) rfl dX0_init_1 (Nat.le_of_ble_eq_true rfl) (Nat.le_of_ble_eq_true rfl) ?_
  refine W.eq (g2 := F0 m 4 ls []) rfl ?_
  refine lv_aload_n hx hb dX0_init_4 rfl (lv_at hl 0 rfl) ?_
  refine va_new (ci := 4) (fs := [.null, .null, .null, .null, .null, .null, .int 0, .int 0, .int 0, .int 0, .int 0]) (C := RX4) (T := TX4) (N := 11) hx hb hts hinX4 tyX4 tyX4_ok hown (hts (.classLink RX0 9 RX4) (List.mem_of_getElem? (i := 4) rfl)) (hts (.instantiable RX4 11) (List.mem_of_getElem? (i := 5) rfl)) (hts (.initialized RX4) (List.mem_of_getElem? (i := 6) rfl)) hK hP hD hS hA rfl (fun j hj => by rcases (show j = 0 ∨ j = 1 ∨ j = 2 ∨ j = 3 ∨ j = 4 ∨ j = 5 ∨ j = 6 ∨ j = 7 ∨ j = 8 ∨ j = 9 ∨ j = 10 by omega) with rfl | rfl | rfl | rfl | rfl | rfl | rfl | rfl | rfl | rfl | rfl <;> rfl) (Nat.le_of_ble_eq_true rfl) (Nat.le_of_ble_eq_true rfl) dX0_init_5 (fun q0 H hP hD hS => ?_)
  refine lv_dup hx hb dX0_init_8 rfl ?_
  refine g_cv (S := (Nat → Nat)) (W1 := fun u => srvW cI cR q0 u) hP hD (va_runI (As := []) (rest := [.ref q0, .ref h0]) ⟨hx, hb, hml, hown, hts⟩ (k_X4 l D cI cR q0 H.size) (cwI 0 hts gX0_init_X4_init rfl rfl rfl (hts (.initialized RX4) (List.mem_of_getElem? (i := 6) rfl)) (hts (.methodLink RX0 11 yX4_init) (List.mem_of_getElem? (i := 12) rfl)) (hts (.instanceMethod yX4_init) (List.mem_of_getElem? (i := 13) rfl)) rfl (by decide +kernel) ⟨Nat.le_of_ble_eq_true rfl, Nat.le_of_ble_eq_true rfl⟩) (g_preI hP hD hK hN) rfl rfl hl.1 rfl (lv_room (Nat.le_of_ble_eq_true rfl)) dX0_init_9 ⟨Nat.le_of_ble_eq_true rfl, Nat.le_of_ble_eq_true rfl⟩) hS hA (fun u0 H locs hP hD hS => ?_)
  have hP : va_P D vwCl ([(h0, .inr (0, [.null, .null, .null, .null, .int 0]))] ++ srvW cI cR q0 u0) H := hP
  have hD : va_D A ([(h0, .inr (0, [.null, .null, .null, .null, .int 0]))] ++ srvW cI cR q0 u0) := hD
  refine va_put (D := D) (ci := 0) (v := .ref q0) (ty := .object "AdmissionControl$Server") (C := RX0) (T := TX0) (N := 5) hx hb hts hinX0 tyX0 tyX0_ok nmX0 hown hK hP hD hS 0 rfl rfl 0 (by decide) (hts (.fieldLink RX0 12 "AdmissionControl$History" "newest" "LAdmissionControl$Server;") (List.mem_of_getElem? (i := 7) rfl)) (fun _ h9 => h9) rfl (by decide +kernel) rfl rfl (Nat.le_of_ble_eq_true rfl) dX0_init_12 (fun H locs hP hD hS => ?_)
  have hP : va_P D vwCl ([(h0, .inr (0, [.ref q0, .null, .null, .null, .int 0]))] ++ srvW cI cR q0 u0) H := hP
  have hD : va_D A ([(h0, .inr (0, [.ref q0, .null, .null, .null, .int 0]))] ++ srvW cI cR q0 u0) := hD
  refine lv_aload_n hx hb dX0_init_15 rfl (lv_at hl 0 rfl) ?_
  refine va_new (ci := 4) (fs := [.null, .null, .null, .null, .null, .null, .int 0, .int 0, .int 0, .int 0, .int 0]) (C := RX4) (T := TX4) (N := 11) hx hb hts hinX4 tyX4 tyX4_ok hown (hts (.classLink RX0 9 RX4) (List.mem_of_getElem? (i := 4) rfl)) (hts (.instantiable RX4 11) (List.mem_of_getElem? (i := 5) rfl)) (hts (.initialized RX4) (List.mem_of_getElem? (i := 6) rfl)) hK hP hD hS hA rfl (fun j hj => by rcases (show j = 0 ∨ j = 1 ∨ j = 2 ∨ j = 3 ∨ j = 4 ∨ j = 5 ∨ j = 6 ∨ j = 7 ∨ j = 8 ∨ j = 9 ∨ j = 10 by omega) with rfl | rfl | rfl | rfl | rfl | rfl | rfl | rfl | rfl | rfl | rfl <;> rfl) (Nat.le_of_ble_eq_true rfl) (Nat.le_of_ble_eq_true rfl) dX0_init_16 (fun q1 H hP hD hS => ?_)
  refine lv_dup hx hb dX0_init_19 rfl ?_
  refine g_cv (S := (Nat → Nat)) (W1 := fun u => srvW cI cR q1 u) hP hD (va_runI (As := []) (rest := [.ref q1, .ref h0]) ⟨hx, hb, hml, hown, hts⟩ (k_X4 l D cI cR q1 H.size) (cwI 0 hts gX0_init_X4_init rfl rfl rfl (hts (.initialized RX4) (List.mem_of_getElem? (i := 6) rfl)) (hts (.methodLink RX0 11 yX4_init) (List.mem_of_getElem? (i := 12) rfl)) (hts (.instanceMethod yX4_init) (List.mem_of_getElem? (i := 13) rfl)) rfl (by decide +kernel) ⟨Nat.le_of_ble_eq_true rfl, Nat.le_of_ble_eq_true rfl⟩) (g_preI hP hD hK hN) rfl rfl hl.1 rfl (lv_room (Nat.le_of_ble_eq_true rfl)) dX0_init_20 ⟨Nat.le_of_ble_eq_true rfl, Nat.le_of_ble_eq_true rfl⟩) hS hA (fun u1 H locs hP hD hS => ?_)
  have hP : va_P D vwCl ([(h0, .inr (0, [.ref q0, .null, .null, .null, .int 0]))] ++ srvW cI cR q0 u0 ++ srvW cI cR q1 u1) H := hP
  have hD : va_D A ([(h0, .inr (0, [.ref q0, .null, .null, .null, .int 0]))] ++ srvW cI cR q0 u0 ++ srvW cI cR q1 u1) := hD
  refine va_put (D := D) (ci := 0) (v := .ref q1) (ty := .object "AdmissionControl$Server") (C := RX0) (T := TX0) (N := 5) hx hb hts hinX0 tyX0 tyX0_ok nmX0 hown hK hP hD hS 0 rfl rfl 1 (by decide) (hts (.fieldLink RX0 18 "AdmissionControl$History" "second" "LAdmissionControl$Server;") (List.mem_of_getElem? (i := 8) rfl)) (fun _ h9 => h9) rfl (by decide +kernel) rfl rfl (Nat.le_of_ble_eq_true rfl) dX0_init_23 (fun H locs hP hD hS => ?_)
  have hP : va_P D vwCl ([(h0, .inr (0, [.ref q0, .ref q1, .null, .null, .int 0]))] ++ srvW cI cR q0 u0 ++ srvW cI cR q1 u1) H := hP
  have hD : va_D A ([(h0, .inr (0, [.ref q0, .ref q1, .null, .null, .int 0]))] ++ srvW cI cR q0 u0 ++ srvW cI cR q1 u1) := hD
  refine lv_aload_n hx hb dX0_init_26 rfl (lv_at hl 0 rfl) ?_
  refine va_new (ci := 4) (fs := [.null, .null, .null, .null, .null, .null, .int 0, .int 0, .int 0, .int 0, .int 0]) (C := RX4) (T := TX4) (N := 11) hx hb hts hinX4 tyX4 tyX4_ok hown (hts (.classLink RX0 9 RX4) (List.mem_of_getElem? (i := 4) rfl)) (hts (.instantiable RX4 11) (List.mem_of_getElem? (i := 5) rfl)) (hts (.initialized RX4) (List.mem_of_getElem? (i := 6) rfl)) hK hP hD hS hA rfl (fun j hj => by rcases (show j = 0 ∨ j = 1 ∨ j = 2 ∨ j = 3 ∨ j = 4 ∨ j = 5 ∨ j = 6 ∨ j = 7 ∨ j = 8 ∨ j = 9 ∨ j = 10 by omega) with rfl | rfl | rfl | rfl | rfl | rfl | rfl | rfl | rfl | rfl | rfl <;> rfl) (Nat.le_of_ble_eq_true rfl) (Nat.le_of_ble_eq_true rfl) dX0_init_27 (fun q2 H hP hD hS => ?_)
  refine lv_dup hx hb dX0_init_30 rfl ?_
  refine g_cv (S := (Nat → Nat)) (W1 := fun u => srvW cI cR q2 u) hP hD (va_runI (As := []) (rest := [.ref q2, .ref h0]) ⟨hx, hb, hml, hown, hts⟩ (k_X4 l D cI cR q2 H.size) (cwI 0 hts gX0_init_X4_init rfl rfl rfl (hts (.initialized RX4) (List.mem_of_getElem? (i := 6) rfl)) (hts (.methodLink RX0 11 yX4_init) (List.mem_of_getElem? (i := 12) rfl)) (hts (.instanceMethod yX4_init) (List.mem_of_getElem? (i := 13) rfl)) rfl (by decide +kernel) ⟨Nat.le_of_ble_eq_true rfl, Nat.le_of_ble_eq_true rfl⟩) (g_preI hP hD hK hN) rfl rfl hl.1 rfl (lv_room (Nat.le_of_ble_eq_true rfl)) dX0_init_31 ⟨Nat.le_of_ble_eq_true rfl, Nat.le_of_ble_eq_true rfl⟩) hS hA (fun u2 H locs hP hD hS => ?_)
  have hP : va_P D vwCl ([(h0, .inr (0, [.ref q0, .ref q1, .null, .null, .int 0]))] ++ srvW cI cR q0 u0 ++ srvW cI cR q1 u1 ++ srvW cI cR q2 u2) H := hP
  have hD : va_D A ([(h0, .inr (0, [.ref q0, .ref q1, .null, .null, .int 0]))] ++ srvW cI cR q0 u0 ++ srvW cI cR q1 u1 ++ srvW cI cR q2 u2) := hD
  refine va_put (D := D) (ci := 0) (v := .ref q2) (ty := .object "AdmissionControl$Server") (C := RX0) (T := TX0) (N := 5) hx hb hts hinX0 tyX0 tyX0_ok nmX0 hown hK hP hD hS 0 rfl rfl 2 (by decide) (hts (.fieldLink RX0 21 "AdmissionControl$History" "third" "LAdmissionControl$Server;") (List.mem_of_getElem? (i := 9) rfl)) (fun _ h9 => h9) rfl (by decide +kernel) rfl rfl (Nat.le_of_ble_eq_true rfl) dX0_init_34 (fun H locs hP hD hS => ?_)
  have hP : va_P D vwCl ([(h0, .inr (0, [.ref q0, .ref q1, .ref q2, .null, .int 0]))] ++ srvW cI cR q0 u0 ++ srvW cI cR q1 u1 ++ srvW cI cR q2 u2) H := hP
  have hD : va_D A ([(h0, .inr (0, [.ref q0, .ref q1, .ref q2, .null, .int 0]))] ++ srvW cI cR q0 u0 ++ srvW cI cR q1 u1 ++ srvW cI cR q2 u2) := hD
  refine lv_aload_n hx hb dX0_init_37 rfl (lv_at hl 0 rfl) ?_
  refine va_new (ci := 4) (fs := [.null, .null, .null, .null, .null, .null, .int 0, .int 0, .int 0, .int 0, .int 0]) (C := RX4) (T := TX4) (N := 11) hx hb hts hinX4 tyX4 tyX4_ok hown (hts (.classLink RX0 9 RX4) (List.mem_of_getElem? (i := 4) rfl)) (hts (.instantiable RX4 11) (List.mem_of_getElem? (i := 5) rfl)) (hts (.initialized RX4) (List.mem_of_getElem? (i := 6) rfl)) hK hP hD hS hA rfl (fun j hj => by rcases (show j = 0 ∨ j = 1 ∨ j = 2 ∨ j = 3 ∨ j = 4 ∨ j = 5 ∨ j = 6 ∨ j = 7 ∨ j = 8 ∨ j = 9 ∨ j = 10 by omega) with rfl | rfl | rfl | rfl | rfl | rfl | rfl | rfl | rfl | rfl | rfl <;> rfl) (Nat.le_of_ble_eq_true rfl) (Nat.le_of_ble_eq_true rfl) dX0_init_38 (fun q3 H hP hD hS => ?_)
  refine lv_dup hx hb dX0_init_41 rfl ?_
  refine g_cv (S := (Nat → Nat)) (W1 := fun u => srvW cI cR q3 u) hP hD (va_runI (As := []) (rest := [.ref q3, .ref h0]) ⟨hx, hb, hml, hown, hts⟩ (k_X4 l D cI cR q3 H.size) (cwI 0 hts gX0_init_X4_init rfl rfl rfl (hts (.initialized RX4) (List.mem_of_getElem? (i := 6) rfl)) (hts (.methodLink RX0 11 yX4_init) (List.mem_of_getElem? (i := 12) rfl)) (hts (.instanceMethod yX4_init) (List.mem_of_getElem? (i := 13) rfl)) rfl (by decide +kernel) ⟨Nat.le_of_ble_eq_true rfl, Nat.le_of_ble_eq_true rfl⟩) (g_preI hP hD hK hN) rfl rfl hl.1 rfl (lv_room (Nat.le_of_ble_eq_true rfl)) dX0_init_42 ⟨Nat.le_of_ble_eq_true rfl, Nat.le_of_ble_eq_true rfl⟩) hS hA (fun u3 H locs hP hD hS => ?_)
  have hP : va_P D vwCl ([(h0, .inr (0, [.ref q0, .ref q1, .ref q2, .null, .int 0]))] ++ srvW cI cR q0 u0 ++ srvW cI cR q1 u1 ++ srvW cI cR q2 u2 ++ srvW cI cR q3 u3) H := hP
  have hD : va_D A ([(h0, .inr (0, [.ref q0, .ref q1, .ref q2, .null, .int 0]))] ++ srvW cI cR q0 u0 ++ srvW cI cR q1 u1 ++ srvW cI cR q2 u2 ++ srvW cI cR q3 u3) := hD
  refine va_put (D := D) (ci := 0) (v := .ref q3) (ty := .object "AdmissionControl$Server") (C := RX0) (T := TX0) (N := 5) hx hb hts hinX0 tyX0 tyX0_ok nmX0 hown hK hP hD hS 0 rfl rfl 3 (by decide) (hts (.fieldLink RX0 24 "AdmissionControl$History" "oldest" "LAdmissionControl$Server;") (List.mem_of_getElem? (i := 10) rfl)) (fun _ h9 => h9) rfl (by decide +kernel) rfl rfl (Nat.le_of_ble_eq_true rfl) dX0_init_45 (fun H locs hP hD hS => ?_)
  have hP : va_P D vwCl ([(h0, .inr (0, [.ref q0, .ref q1, .ref q2, .ref q3, .int 0]))] ++ srvW cI cR q0 u0 ++ srvW cI cR q1 u1 ++ srvW cI cR q2 u2 ++ srvW cI cR q3 u3) H := hP
  have hD : va_D A ([(h0, .inr (0, [.ref q0, .ref q1, .ref q2, .ref q3, .int 0]))] ++ srvW cI cR q0 u0 ++ srvW cI cR q1 u1 ++ srvW cI cR q2 u2 ++ srvW cI cR q3 u3) := hD
  refine lv_aload_n hx hb dX0_init_48 rfl (lv_at hl 0 rfl) ?_
  refine lv_iconst (v := 0) hx hb dX0_init_49 (by decide) ?_
  refine va_put (D := D) (ci := 0) (v := .int 0) (ty := .int) (C := RX0) (T := TX0) (N := 5) hx hb hts hinX0 tyX0 tyX0_ok nmX0 hown hK hP hD hS 0 rfl rfl 4 (by decide) (hts (.fieldLink RX0 27 "AdmissionControl$History" "states" "I") (List.mem_of_getElem? (i := 11) rfl)) (fun _ h9 => h9) rfl (by decide +kernel) rfl rfl (Nat.le_of_ble_eq_true rfl) dX0_init_50 (fun H locs hP hD hS => ?_)
  have hP : va_P D vwCl (histW cI cR h0 ((fun i => match i with | 0 => q0 | 1 => q1 | 2 => q2 | _ => q3), (fun i => match i with | 0 => u0 | 1 => u1 | 2 => u2 | _ => u3))) H := hP
  have hD : va_D A (histW cI cR h0 ((fun i => match i with | 0 => q0 | 1 => q1 | 2 => q2 | _ => q3), (fun i => match i with | 0 => u0 | 1 => u1 | 2 => u2 | _ => u3))) := hD
  refine W.widen (k := 236) (n := 1960) (by omega) (by omega) ?_
  exact W.vret hx hb hr (fun t ht hW => ⟨⟨((fun i => match i with | 0 => q0 | 1 => q1 | 2 => q2 | _ => q3), (fun i => match i with | 0 => u0 | 1 => u1 | 2 => u2 | _ => u3)), rfl, trivial, by rw [ht]; exact hP, hD⟩, hS.F ht⟩) hS.2.2 dX0_init_53
set_option maxHeartbeats 8000000 in
set_option maxRecDepth 100000 in
theorem k_X6 (l : Launch) (D : va_G) (cI cR : ClassId) (h0 sz : Nat) : Met l yX6_init wsX6_init { frames := 5, cells := 358, slots := 3028, locals := 94 } (va_Pc [.ref h0] (KG D cI cR [(h0, .inr (6, [.null, .null, .null, .null]))] sz)) (va_Qv (fun _ : acS => True) (fun u t => KH D (va_A [(h0, .inr (6, [.null, .null, .null, .null]))] sz) (acW cI cR h0 u) t) (va_A [(h0, .inr (6, [.null, .null, .null, .null]))] sz)) 358 3028 (va_A [(h0, .inr (6, [.null, .null, .null, .null]))] sz) := by
  refine Met.ofW (cc := cX6_init) (maxL := 1) (ret := none) (by decide) rfl ?_
  intro p e s m args below meth c s₁ B hml hv
  obtain ⟨rfl, hsz, hP, hK, hN, hD0⟩ := hv
  have hx := B.exec
  have hb := B.bytes
  have hr := B.returns
  have hts := atoms_spec (ws := wsX6_init) B.pre
  have hown : s.vm.findClass RX6 = some m.cls := findClass_of_methodNamed B.named
  have hlocks := B.notSynchronized
  have hin : meth.name = "<init>" := (name_of_methodNamed B.named B.method).1
  subst hsz
  have hD := hD0.self (sz := s.heap.size)
  generalize hAe : va_A [(h0, .inr (6, [.null, .null, .null, .null]))] s.heap.size = A at hD ⊢
  have hA : ∀ q : Nat, s.heap.size ≤ q → A q := fun q h => by rw [← hAe]; exact Or.inr h
  have hS : va_S A s.heap s.heap [] := va_S.rf
  have hinX4 : ∀ w ∈ wsX40, w ∈ wsX6_init := (fun _ h => List.mem_cons_of_mem _ (List.mem_append_left _ (List.mem_append_left _ (List.mem_append_left _ (List.mem_append_left _ (List.mem_append_left _ (List.mem_append_left _ (List.mem_append_right _ h))))))))
  have hinX6 : ∀ w ∈ wsX60, w ∈ wsX6_init := (fun _ h => List.mem_cons_of_mem _ (List.mem_append_left _ (List.mem_append_left _ (List.mem_append_left _ (List.mem_append_left _ (List.mem_append_left _ (List.mem_append_right _ h)))))))
  have hinX0 : ∀ w ∈ wsX00, w ∈ wsX6_init := (fun _ h => List.mem_cons_of_mem _ (List.mem_append_left _ (List.mem_append_left _ (List.mem_append_left _ (List.mem_append_left _ (List.mem_append_right _ h))))))
  have hinX5 : ∀ w ∈ wsX50, w ∈ wsX6_init := (fun _ h => List.mem_cons_of_mem _ (List.mem_append_left _ (List.mem_append_left _ (List.mem_append_left _ (List.mem_append_right _ h)))))
  have hinX3 : ∀ w ∈ wsX30, w ∈ wsX6_init := (fun _ h => List.mem_cons_of_mem _ (List.mem_append_left _ (List.mem_append_left _ (List.mem_append_right _ h))))
  have hinX1 : ∀ w ∈ wsX10, w ∈ wsX6_init := (fun _ h => List.mem_cons_of_mem _ (List.mem_append_left _ (List.mem_append_right _ h)))
  have hinX2 : ∀ w ∈ wsX20, w ∈ wsX6_init := (fun _ h => List.mem_cons_of_mem _ (List.mem_append_right _ h))
  have hl := lv_entry ([.ref h0]) (n := 1) (Nat.le_of_ble_eq_true rfl)
  rw [lg_entry_eq]
  generalize (lg_sl ([.ref h0]) ++ List.replicate (1 - (lg_sl ([.ref h0])).length) Slot.unset).toArray = ls at hl ⊢
  have hl : lv_has ls 1 [(0, .ref h0)] := hl
  have hP : va_P D vwCl [(h0, .inr (6, [.null, .null, .null, .null]))] s.heap := hP
  have hD : va_D A [(h0, .inr (6, [.null, .null, .null, .null]))] := hD
  refine lv_aload_n hx hb dX6_init_0 rfl (lv_at hl 0 rfl) ?_
  refine W.objInit hx hb hown (hts (.methodLink RX6 1 objectInit) (List.mem_of_getElem? (i := 1) rfl)) (hts (.instanceMethod objectInit) (List.mem_of_getElem? (i := 2) rfl)) (hts _ (List.mem_of_getElem? (i := 3) rfl)) rfl (by rw [hml]; exact hl.1) rfl dX6_init_1 (Nat.le_of_ble_eq_true rfl) (Nat.le_of_ble_eq_true rfl) ?_
  refine W.eq (g2 := F0 m 4 ls []) rfl ?_
  refine lv_aload_n hx hb dX6_init_4 rfl (lv_at hl 0 rfl) ?_
  refine va_new (ci := 4) (fs := [.null, .null, .null, .null, .null, .null, .int 0, .int 0, .int 0, .int 0, .int 0]) (C := RX4) (T := TX4) (N := 11) hx hb hts hinX4 tyX4 tyX4_ok hown (hts (.classLink RX6 7 RX4) (List.mem_of_getElem? (i := 4) rfl)) (hts (.instantiable RX4 11) (List.mem_of_getElem? (i := 5) rfl)) (hts (.initialized RX4) (List.mem_of_getElem? (i := 6) rfl)) hK hP hD hS hA rfl (fun j hj => by rcases (show j = 0 ∨ j = 1 ∨ j = 2 ∨ j = 3 ∨ j = 4 ∨ j = 5 ∨ j = 6 ∨ j = 7 ∨ j = 8 ∨ j = 9 ∨ j = 10 by omega) with rfl | rfl | rfl | rfl | rfl | rfl | rfl | rfl | rfl | rfl | rfl <;> rfl) (Nat.le_of_ble_eq_true rfl) (Nat.le_of_ble_eq_true rfl) dX6_init_5 (fun q0 H hP hD hS => ?_)
  refine lv_dup hx hb dX6_init_8 rfl ?_
  refine g_cv (S := (Nat → Nat)) (W1 := fun u => srvW cI cR q0 u) hP hD (va_runI (As := []) (rest := [.ref q0, .ref h0]) ⟨hx, hb, hml, hown, hts⟩ (k_X4 l D cI cR q0 H.size) (cwI 0 hts gX6_init_X4_init rfl rfl rfl (hts (.initialized RX4) (List.mem_of_getElem? (i := 6) rfl)) (hts (.methodLink RX6 9 yX4_init) (List.mem_of_getElem? (i := 17) rfl)) (hts (.instanceMethod yX4_init) (List.mem_of_getElem? (i := 18) rfl)) rfl (by decide +kernel) ⟨Nat.le_of_ble_eq_true rfl, Nat.le_of_ble_eq_true rfl⟩) (g_preI hP hD hK hN) rfl rfl hl.1 rfl (lv_room (Nat.le_of_ble_eq_true rfl)) dX6_init_9 ⟨Nat.le_of_ble_eq_true rfl, Nat.le_of_ble_eq_true rfl⟩) hS hA (fun u0 H locs hP hD hS => ?_)
  have hP : va_P D vwCl ([(h0, .inr (6, [.null, .null, .null, .null]))] ++ srvW cI cR q0 u0) H := hP
  have hD : va_D A ([(h0, .inr (6, [.null, .null, .null, .null]))] ++ srvW cI cR q0 u0) := hD
  refine va_putF (D := D) (ci := 6) (v := .ref q0) (ty := .object "AdmissionControl$Server") (C := RX6) (T := TX6) (N := 4) hx hb hts hinX6 tyX6 tyX6_ok nmX6 hown hK hP hD hS 0 rfl rfl 0 (by decide) (hts (.fieldLink RX6 10 "AdmissionControl" "server" "LAdmissionControl$Server;") (List.mem_of_getElem? (i := 7) rfl)) (fun _ h9 => h9) rfl hin rfl (by decide +kernel) rfl rfl (Nat.le_of_ble_eq_true rfl) dX6_init_12 (fun H locs hP hD hS => ?_)
  have hP : va_P D vwCl ([(h0, .inr (6, [.ref q0, .null, .null, .null]))] ++ srvW cI cR q0 u0) H := hP
  have hD : va_D A ([(h0, .inr (6, [.ref q0, .null, .null, .null]))] ++ srvW cI cR q0 u0) := hD
  refine lv_aload_n hx hb dX6_init_15 rfl (lv_at hl 0 rfl) ?_
  refine va_new (ci := 4) (fs := [.null, .null, .null, .null, .null, .null, .int 0, .int 0, .int 0, .int 0, .int 0]) (C := RX4) (T := TX4) (N := 11) hx hb hts hinX4 tyX4 tyX4_ok hown (hts (.classLink RX6 7 RX4) (List.mem_of_getElem? (i := 4) rfl)) (hts (.instantiable RX4 11) (List.mem_of_getElem? (i := 5) rfl)) (hts (.initialized RX4) (List.mem_of_getElem? (i := 6) rfl)) hK hP hD hS hA rfl (fun j hj => by rcases (show j = 0 ∨ j = 1 ∨ j = 2 ∨ j = 3 ∨ j = 4 ∨ j = 5 ∨ j = 6 ∨ j = 7 ∨ j = 8 ∨ j = 9 ∨ j = 10 by omega) with rfl | rfl | rfl | rfl | rfl | rfl | rfl | rfl | rfl | rfl | rfl <;> rfl) (Nat.le_of_ble_eq_true rfl) (Nat.le_of_ble_eq_true rfl) dX6_init_16 (fun q1 H hP hD hS => ?_)
  refine lv_dup hx hb dX6_init_19 rfl ?_
  refine g_cv (S := (Nat → Nat)) (W1 := fun u => srvW cI cR q1 u) hP hD (va_runI (As := []) (rest := [.ref q1, .ref h0]) ⟨hx, hb, hml, hown, hts⟩ (k_X4 l D cI cR q1 H.size) (cwI 0 hts gX6_init_X4_init rfl rfl rfl (hts (.initialized RX4) (List.mem_of_getElem? (i := 6) rfl)) (hts (.methodLink RX6 9 yX4_init) (List.mem_of_getElem? (i := 17) rfl)) (hts (.instanceMethod yX4_init) (List.mem_of_getElem? (i := 18) rfl)) rfl (by decide +kernel) ⟨Nat.le_of_ble_eq_true rfl, Nat.le_of_ble_eq_true rfl⟩) (g_preI hP hD hK hN) rfl rfl hl.1 rfl (lv_room (Nat.le_of_ble_eq_true rfl)) dX6_init_20 ⟨Nat.le_of_ble_eq_true rfl, Nat.le_of_ble_eq_true rfl⟩) hS hA (fun u1 H locs hP hD hS => ?_)
  have hP : va_P D vwCl ([(h0, .inr (6, [.ref q0, .null, .null, .null]))] ++ srvW cI cR q0 u0 ++ srvW cI cR q1 u1) H := hP
  have hD : va_D A ([(h0, .inr (6, [.ref q0, .null, .null, .null]))] ++ srvW cI cR q0 u0 ++ srvW cI cR q1 u1) := hD
  refine va_putF (D := D) (ci := 6) (v := .ref q1) (ty := .object "AdmissionControl$Server") (C := RX6) (T := TX6) (N := 4) hx hb hts hinX6 tyX6 tyX6_ok nmX6 hown hK hP hD hS 0 rfl rfl 1 (by decide) (hts (.fieldLink RX6 16 "AdmissionControl" "trial" "LAdmissionControl$Server;") (List.mem_of_getElem? (i := 8) rfl)) (fun _ h9 => h9) rfl hin rfl (by decide +kernel) rfl rfl (Nat.le_of_ble_eq_true rfl) dX6_init_23 (fun H locs hP hD hS => ?_)
  have hP : va_P D vwCl ([(h0, .inr (6, [.ref q0, .ref q1, .null, .null]))] ++ srvW cI cR q0 u0 ++ srvW cI cR q1 u1) H := hP
  have hD : va_D A ([(h0, .inr (6, [.ref q0, .ref q1, .null, .null]))] ++ srvW cI cR q0 u0 ++ srvW cI cR q1 u1) := hD
  refine lv_aload_n hx hb dX6_init_26 rfl (lv_at hl 0 rfl) ?_
  refine va_new (ci := 0) (fs := [.null, .null, .null, .null, .int 0]) (C := RX0) (T := TX0) (N := 5) hx hb hts hinX0 tyX0 tyX0_ok hown (hts (.classLink RX6 19 RX0) (List.mem_of_getElem? (i := 9) rfl)) (hts (.instantiable RX0 5) (List.mem_of_getElem? (i := 10) rfl)) (hts (.initialized RX0) (List.mem_of_getElem? (i := 11) rfl)) hK hP hD hS hA rfl (fun j hj => by rcases (show j = 0 ∨ j = 1 ∨ j = 2 ∨ j = 3 ∨ j = 4 by omega) with rfl | rfl | rfl | rfl | rfl <;> rfl) (Nat.le_of_ble_eq_true rfl) (Nat.le_of_ble_eq_true rfl) dX6_init_27 (fun q2 H hP hD hS => ?_)
  refine lv_dup hx hb dX6_init_30 rfl ?_
  refine g_cv (S := ((Nat → Nat) × (Nat → Nat → Nat))) (W1 := fun u => histW cI cR q2 u) hP hD (va_runIN (As := []) (rest := [.ref q2, .ref h0]) ⟨hx, hb, hml, hown, hts⟩ (k_X0 l D cI cR q2 H.size) ⟨va_cnB 0 hts gX6_init_X0_init_n21 rfl rfl rfl hN.1 (hts (.initialized RX0) (List.mem_of_getElem? (i := 11) rfl)) (by decide +kernel) ⟨Nat.le_of_ble_eq_true rfl, Nat.le_of_ble_eq_true rfl⟩, rfl, (hts (.instanceMethod yX0_init) (List.mem_of_getElem? (i := 70) rfl))⟩ (g_preI hP hD hK hN) rfl rfl hl.1 rfl (lv_room (Nat.le_of_ble_eq_true rfl)) dX6_init_31 ⟨Nat.le_of_ble_eq_true rfl, Nat.le_of_ble_eq_true rfl⟩) hS hA (fun u2 H locs hP hD hS => ?_)
  have hP : va_P D vwCl ([(h0, .inr (6, [.ref q0, .ref q1, .null, .null]))] ++ srvW cI cR q0 u0 ++ srvW cI cR q1 u1 ++ histW cI cR q2 u2) H := hP
  have hD : va_D A ([(h0, .inr (6, [.ref q0, .ref q1, .null, .null]))] ++ srvW cI cR q0 u0 ++ srvW cI cR q1 u1 ++ histW cI cR q2 u2) := hD
  refine va_putF (D := D) (ci := 6) (v := .ref q2) (ty := .object "AdmissionControl$History") (C := RX6) (T := TX6) (N := 4) hx hb hts hinX6 tyX6 tyX6_ok nmX6 hown hK hP hD hS 0 rfl rfl 2 (by decide) (hts (.fieldLink RX6 22 "AdmissionControl" "history" "LAdmissionControl$History;") (List.mem_of_getElem? (i := 12) rfl)) (fun _ h9 => h9) rfl hin rfl (by decide +kernel) rfl rfl (Nat.le_of_ble_eq_true rfl) dX6_init_34 (fun H locs hP hD hS => ?_)
  have hP : va_P D vwCl ([(h0, .inr (6, [.ref q0, .ref q1, .ref q2, .null]))] ++ srvW cI cR q0 u0 ++ srvW cI cR q1 u1 ++ histW cI cR q2 u2) H := hP
  have hD : va_D A ([(h0, .inr (6, [.ref q0, .ref q1, .ref q2, .null]))] ++ srvW cI cR q0 u0 ++ srvW cI cR q1 u1 ++ histW cI cR q2 u2) := hD
  refine lv_aload_n hx hb dX6_init_37 rfl (lv_at hl 0 rfl) ?_
  refine va_new (ci := 5) (fs := [.null, .int 0]) (C := RX5) (T := TX5) (N := 2) hx hb hts hinX5 tyX5 tyX5_ok hown (hts (.classLink RX6 26 RX5) (List.mem_of_getElem? (i := 13) rfl)) (hts (.instantiable RX5 2) (List.mem_of_getElem? (i := 14) rfl)) (hts (.initialized RX5) (List.mem_of_getElem? (i := 15) rfl)) hK hP hD hS hA rfl (fun j hj => by rcases (show j = 0 ∨ j = 1 by omega) with rfl | rfl <;> rfl) (Nat.le_of_ble_eq_true rfl) (Nat.le_of_ble_eq_true rfl) dX6_init_38 (fun q3 H hP hD hS => ?_)
  refine lv_dup hx hb dX6_init_41 rfl ?_
  refine g_cv (S := (Nat → Nat)) (W1 := fun u => textW cI q3 u) hP hD (va_runIN (As := []) (rest := [.ref q3, .ref h0]) ⟨hx, hb, hml, hown, hts⟩ (k_X5 l D cI cR q3 H.size) ⟨va_cnB 0 hts gX6_init_X5_init_n28 rfl rfl rfl hN.2.1 (hts (.initialized RX5) (List.mem_of_getElem? (i := 15) rfl)) (by decide +kernel) ⟨Nat.le_of_ble_eq_true rfl, Nat.le_of_ble_eq_true rfl⟩, rfl, (hts (.instanceMethod yX5_init) (List.mem_of_getElem? (i := 80) rfl))⟩ (g_preI hP hD hK hN) rfl rfl hl.1 rfl (lv_room (Nat.le_of_ble_eq_true rfl)) dX6_init_42 ⟨Nat.le_of_ble_eq_true rfl, Nat.le_of_ble_eq_true rfl⟩) hS hA (fun u3 H locs hP hD hS => ?_)
  have hP : va_P D vwCl ([(h0, .inr (6, [.ref q0, .ref q1, .ref q2, .null]))] ++ srvW cI cR q0 u0 ++ srvW cI cR q1 u1 ++ histW cI cR q2 u2 ++ textW cI q3 u3) H := hP
  have hD : va_D A ([(h0, .inr (6, [.ref q0, .ref q1, .ref q2, .null]))] ++ srvW cI cR q0 u0 ++ srvW cI cR q1 u1 ++ histW cI cR q2 u2 ++ textW cI q3 u3) := hD
  refine va_putF (D := D) (ci := 6) (v := .ref q3) (ty := .object "AdmissionControl$Text") (C := RX6) (T := TX6) (N := 4) hx hb hts hinX6 tyX6 tyX6_ok nmX6 hown hK hP hD hS 0 rfl rfl 3 (by decide) (hts (.fieldLink RX6 29 "AdmissionControl" "text" "LAdmissionControl$Text;") (List.mem_of_getElem? (i := 16) rfl)) (fun _ h9 => h9) rfl hin rfl (by decide +kernel) rfl rfl (Nat.le_of_ble_eq_true rfl) dX6_init_45 (fun H locs hP hD hS => ?_)
  have hP : va_P D vwCl ([(h0, .inr (6, [.ref q0, .ref q1, .ref q2, .ref q3]))] ++ srvW cI cR q0 u0 ++ srvW cI cR q1 u1 ++ histW cI cR q2 u2 ++ textW cI q3 u3) H := hP
  have hD : va_D A ([(h0, .inr (6, [.ref q0, .ref q1, .ref q2, .ref q3]))] ++ srvW cI cR q0 u0 ++ srvW cI cR q1 u1 ++ histW cI cR q2 u2 ++ textW cI q3 u3) := hD
  have hP : va_P D vwCl (acW cI cR h0 ((fun i => match i with | 0 => q0 | 1 => q1 | 2 => q2 | _ => q3), u0, u1, u2, u3)) H := hP
  have hD : va_D A (acW cI cR h0 ((fun i => match i with | 0 => q0 | 1 => q1 | 2 => q2 | _ => q3), u0, u1, u2, u3)) := hD
  refine W.widen (k := 358) (n := 3028) (by omega) (by omega) ?_
  exact W.vret hx hb hr (fun t ht hW => ⟨⟨((fun i => match i with | 0 => q0 | 1 => q1 | 2 => q2 | _ => q3), u0, u1, u2, u3), rfl, trivial, by rw [ht]; exact hP, hD⟩, hS.F ht⟩) hS.2.2 dX6_init_48
