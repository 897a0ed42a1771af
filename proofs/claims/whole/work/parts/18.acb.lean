def F_X6_setting (fu : Nat) (a1 : Int32) (mm : Mem) : Option (Int32 × Mem) := ob (F_X6_isSetting fu a1 mm) fun r6 m7 => if r6 = 0 then (some ((-100001), m7)) else (ob (F_X3_at fu (1 + 1) 4 a1 m7) fun r9 m10 => some (r9, m10))
set_option maxHeartbeats 4000000 in
set_option maxRecDepth 100000 in
theorem c_X6_setting (l : Launch) (D : va_G) (ad : Nat → Nat) (cI cR : ClassId) (hi : inj ad) (fu : Nat) (a1 : Int32)  (mm : Mem) (r0 : Int32) (m9 : Mem) (hf : F_X6_setting fu a1 mm = some (r0, m9)) : MI l yX6_setting wsX6_setting { frames := 1, cells := 0, slots := 0, locals := 21 } D ad cI cR [.ref (ad 0), .int a1] mm r0 m9 := by
  refine Met.ofW (cc := cX6_setting) (maxL := 2) (ret := (some .int)) (by decide) rfl ?_
  intro p e s m args below meth c s₁ B hml hv
  obtain ⟨rfl, hP, hK, hN⟩ := hv
  have hx := B.exec
  have hb := B.bytes
  have hr := B.returns
  have hts := atoms_spec (ws := wsX6_setting) B.pre
  have hown : s.vm.findClass RX6 = some m.cls := findClass_of_methodNamed B.named
  have hlocks := B.notSynchronized
  have hA : ∀ q, AA ad q → AA ad q := fun _ h => h
  have hS : va_S (AA ad) s.heap s.heap [] := va_S.rf
  have hinX4 : ∀ w ∈ wsX40, w ∈ wsX6_setting := (fun _ h => List.mem_cons_of_mem _ (List.mem_append_left _ (List.mem_append_right _ h)))
  have hinX6 : ∀ w ∈ wsX60, w ∈ wsX6_setting := (fun _ h => List.mem_cons_of_mem _ (List.mem_append_left _ (List.mem_append_left _ (List.mem_append_right _ h))))
  have hl := lv_entry ([.ref (ad 0), .int a1]) (n := 2) (Nat.le_of_ble_eq_true rfl)
  rw [lg_entry_eq]
  generalize (lg_sl ([.ref (ad 0), .int a1]) ++ List.replicate (2 - (lg_sl ([.ref (ad 0), .int a1])).length) Slot.unset).toArray = ls at hl ⊢
  have hl : lv_has ls 2 [(0, .ref (ad 0)), (1, .int a1)] := hl
  unfold F_X6_setting at hf
  refine lv_iload_n hx hb dX6_setting_0 rfl (lv_at hl 1 rfl) ?_
  obtain ⟨r6, m7, hq, hf⟩ := ob_e hf
  refine w_ci (va_runS (As := [.int a1]) (rest := []) ⟨hx, hb, hml, hown, hts⟩ (c_X6_isSetting l D ad cI cR hi fu a1 mm r6 m7 hq) (va_cwS 1 hts gX6_setting_X6_isSetting rfl rfl rfl (by decide +kernel) ⟨Nat.le_of_ble_eq_true rfl, Nat.le_of_ble_eq_true rfl⟩) (w_preS hK hP hN) rfl rfl hl.1 rfl (lv_room (Nat.le_of_ble_eq_true rfl)) dX6_setting_1 ⟨Nat.zero_le _, Nat.zero_le _⟩) hA hS (fun H locs hP hS => ?_)
  refine lv_if_eq (tgt := 21) hx hb dX6_setting_4 (by decide) (fun c8 => ?_) (fun c8 => ?_)
  · rw [if_pos c8] at hf
    refine lv_ldc (v := (-100001)) hx hb hown (hts (.constant RX6 37 (-100001)) (List.mem_of_getElem? (i := 3) rfl)) dX6_setting_21 ?_
    cases hf
    exact w_iret hx hb hr hlocks hP hS dX6_setting_23
  · rw [if_neg c8] at hf
    refine lv_aload_n hx hb dX6_setting_7 rfl (lv_at hl 0 rfl) ?_
    refine w_get (C := RX6) (T := TX6) (N := 4) (ci := 6) (v := .ref (ad 1)) hx hb hts hinX6 hown hK hP (S_ac ad cI cR).1 (S_ac ad cI cR).2 rfl 0 (by decide) (hts (.fieldLink RX6 10 "AdmissionControl" "server" "LAdmissionControl$Server;") (List.mem_of_getElem? (i := 1) rfl)) (fun _ h9 => h9) rfl dX6_setting_8 ?_
    refine w_get (C := RX4) (T := TX4) (N := 11) (ci := 4) (v := .ref (ad (1 + 1))) hx hb hts hinX4 hown hK hP (S_srv1 ad cI cR).1 (S_srv1 ad cI cR).2.1 rfl 0 (by decide) (hts (.fieldLink RX6 47 "AdmissionControl$Server" "settings" "LAdmissionControl$Row;") (List.mem_of_getElem? (i := 2) rfl)) (fun _ h9 => h9) rfl dX6_setting_11 ?_
    refine lv_iload_n hx hb dX6_setting_14 rfl (lv_at hl 1 rfl) ?_
    obtain ⟨r9, m10, hq, hf⟩ := ob_e hf
    refine w_ci (va_runV (As := [.int a1]) (rest := []) ⟨hx, hb, hml, hown, hts⟩ (c_X3_at l D ad cI cR hi fu (1 + 1) 4 a1 (S_srv1 ad cI cR).2.2.1 m7 r9 m10 hq) (cwV 1 hts gX6_setting_X3_at rfl rfl rfl (by decide +kernel) ⟨Nat.le_of_ble_eq_true rfl, Nat.le_of_ble_eq_true rfl⟩) (w_preV (ci := 3) hK hP hN (S_srv1 ad cI cR).2.2.1.1 (S_srv1 ad cI cR).2.2.1.2.1 rfl) rfl rfl hl.1 rfl (lv_room (Nat.le_of_ble_eq_true rfl)) dX6_setting_15 ⟨Nat.zero_le _, Nat.zero_le _⟩) hA hS (fun H locs hP hS => ?_)
    refine lv_goto (tgt := 23) hx hb dX6_setting_18 (by decide) ?_
    cases hf
    exact w_iret hx hb hr hlocks hP hS dX6_setting_23
def F_X6_classSetting (fu : Nat) (a1 : Int32) (a2 : Int32) (mm : Mem) : Option (Int32 × Mem) := ob (F_X6_isKind fu a1 mm) fun r11 m12 => if r11 = 0 then (some ((-100001), m12)) else (ob (F_X6_isSetting fu a2 m12) fun r14 m15 => if r14 = 0 then (some ((-100001), m15)) else (oq (F_X4_lane fu 1 a1 m15) (fun m18 => none) (fun o17 m18 => ob (F_X3_at fu (o17 + 1) 4 a2 m18) fun r19 m20 => some (r19, m20))))
set_option maxHeartbeats 4000000 in
set_option maxRecDepth 100000 in
theorem c_X6_classSetting (l : Launch) (D : va_G) (ad : Nat → Nat) (cI cR : ClassId) (hi : inj ad) (fu : Nat) (a1 : Int32) (a2 : Int32)  (mm : Mem) (r0 : Int32) (m9 : Mem) (hf : F_X6_classSetting fu a1 a2 mm = some (r0, m9)) : MI l yX6_classSetting wsX6_classSetting { frames := 1, cells := 0, slots := 0, locals := 21 } D ad cI cR [.ref (ad 0), .int a1, .int a2] mm r0 m9 := by
  refine Met.ofW (cc := cX6_classSetting) (maxL := 3) (ret := (some .int)) (by decide) rfl ?_
  intro p e s m args below meth c s₁ B hml hv
  obtain ⟨rfl, hP, hK, hN⟩ := hv
  have hx := B.exec
  have hb := B.bytes
  have hr := B.returns
  have hts := atoms_spec (ws := wsX6_classSetting) B.pre
  have hown : s.vm.findClass RX6 = some m.cls := findClass_of_methodNamed B.named
  have hlocks := B.notSynchronized
  have hA : ∀ q, AA ad q → AA ad q := fun _ h => h
  have hS : va_S (AA ad) s.heap s.heap [] := va_S.rf
  have hinX1 : ∀ w ∈ wsX10, w ∈ wsX6_classSetting := (fun _ h => List.mem_cons_of_mem _ (List.mem_append_left _ (List.mem_append_left _ (List.mem_append_right _ h))))
  have hinX6 : ∀ w ∈ wsX60, w ∈ wsX6_classSetting := (fun _ h => List.mem_cons_of_mem _ (List.mem_append_left _ (List.mem_append_left _ (List.mem_append_left _ (List.mem_append_right _ h)))))
  have hl := lv_entry ([.ref (ad 0), .int a1, .int a2]) (n := 3) (Nat.le_of_ble_eq_true rfl)
  rw [lg_entry_eq]
  generalize (lg_sl ([.ref (ad 0), .int a1, .int a2]) ++ List.replicate (3 - (lg_sl ([.ref (ad 0), .int a1, .int a2])).length) Slot.unset).toArray = ls at hl ⊢
  have hl : lv_has ls 3 [(0, .ref (ad 0)), (1, .int a1), (2, .int a2)] := hl
  unfold F_X6_classSetting at hf
  refine lv_iload_n hx hb dX6_classSetting_0 rfl (lv_at hl 1 rfl) ?_
  obtain ⟨r11, m12, hq, hf⟩ := ob_e hf
  refine w_ci (va_runS (As := [.int a1]) (rest := []) ⟨hx, hb, hml, hown, hts⟩ (c_X6_isKind l D ad cI cR hi fu a1 mm r11 m12 hq) (va_cwS 1 hts gX6_classSetting_X6_isKind rfl rfl rfl (by decide +kernel) ⟨Nat.le_of_ble_eq_true rfl, Nat.le_of_ble_eq_true rfl⟩) (w_preS hK hP hN) rfl rfl hl.1 rfl (lv_room (Nat.le_of_ble_eq_true rfl)) dX6_classSetting_1 ⟨Nat.zero_le _, Nat.zero_le _⟩) hA hS (fun H locs hP hS => ?_)
  refine lv_if_eq (tgt := 14) hx hb dX6_classSetting_4 (by decide) (fun c13 => ?_) (fun c13 => ?_)
  · rw [if_pos c13] at hf
    refine lv_ldc (v := (-100001)) hx hb hown (hts (.constant RX6 37 (-100001)) (List.mem_of_getElem? (i := 1) rfl)) dX6_classSetting_14 ?_
    cases hf
    exact w_iret hx hb hr hlocks hP hS dX6_classSetting_16
  · rw [if_neg c13] at hf
    refine lv_iload_n hx hb dX6_classSetting_7 rfl (lv_at hl 2 rfl) ?_
    obtain ⟨r14, m15, hq, hf⟩ := ob_e hf
    refine w_ci (va_runS (As := [.int a2]) (rest := []) ⟨hx, hb, hml, hown, hts⟩ (c_X6_isSetting l D ad cI cR hi fu a2 m12 r14 m15 hq) (va_cwS 1 hts gX6_classSetting_X6_isSetting rfl rfl rfl (by decide +kernel) ⟨Nat.le_of_ble_eq_true rfl, Nat.le_of_ble_eq_true rfl⟩) (w_preS hK hP hN) rfl rfl hl.1 rfl (lv_room (Nat.le_of_ble_eq_true rfl)) dX6_classSetting_8 ⟨Nat.zero_le _, Nat.zero_le _⟩) hA hS (fun H locs hP hS => ?_)
    refine lv_if_ne (tgt := 17) hx hb dX6_classSetting_11 (by decide) (fun c16 => ?_) (fun c16 => ?_)
    · rw [if_neg c16] at hf
      refine lv_aload_n hx hb dX6_classSetting_17 rfl (lv_at hl 0 rfl) ?_
      refine w_get (C := RX6) (T := TX6) (N := 4) (ci := 6) (v := .ref (ad 1)) hx hb hts hinX6 hown hK hP (S_ac ad cI cR).1 (S_ac ad cI cR).2 rfl 0 (by decide) (hts (.fieldLink RX6 10 "AdmissionControl" "server" "LAdmissionControl$Server;") (List.mem_of_getElem? (i := 2) rfl)) (fun _ h9 => h9) rfl dX6_classSetting_18 ?_
      refine lv_iload_n hx hb dX6_classSetting_21 rfl (lv_at hl 1 rfl) ?_
      rcases oq_e hf with ⟨m18, hq, hf⟩ | ⟨o17, m18, hq, hf⟩
      · refine w_cqN (va_runV (As := [.int a1]) (rest := []) ⟨hx, hb, hml, hown, hts⟩ (c_X4_lane l D ad cI cR hi fu 1 a1 (S_srv1 ad cI cR) m15 none m18 hq) (cwV 1 hts gX6_classSetting_X4_lane rfl rfl rfl (by decide +kernel) ⟨Nat.le_of_ble_eq_true rfl, Nat.le_of_ble_eq_true rfl⟩) (w_preV (ci := 4) hK hP hN (S_srv1 ad cI cR).1 (S_srv1 ad cI cR).2.1 rfl) rfl rfl hl.1 rfl (lv_room (Nat.le_of_ble_eq_true rfl)) dX6_classSetting_22 ⟨Nat.zero_le _, Nat.zero_le _⟩) hA hS (fun H locs hP hS => ?_)
        cases hf
      · have ho17 := (t_X4_lane ad cI cR fu 1 a1 (S_srv1 ad cI cR) m15 o17 m18 hq)
        refine w_cqS (va_runV (As := [.int a1]) (rest := []) ⟨hx, hb, hml, hown, hts⟩ (c_X4_lane l D ad cI cR hi fu 1 a1 (S_srv1 ad cI cR) m15 (some o17) m18 hq) (cwV 1 hts gX6_classSetting_X4_lane rfl rfl rfl (by decide +kernel) ⟨Nat.le_of_ble_eq_true rfl, Nat.le_of_ble_eq_true rfl⟩) (w_preV (ci := 4) hK hP hN (S_srv1 ad cI cR).1 (S_srv1 ad cI cR).2.1 rfl) rfl rfl hl.1 rfl (lv_room (Nat.le_of_ble_eq_true rfl)) dX6_classSetting_22 ⟨Nat.zero_le _, Nat.zero_le _⟩) hA hS (fun H locs hP hS => ?_)
        refine w_get (C := RX1) (T := TX1) (N := 7) (ci := 1) (v := .ref (ad (o17 + 1))) hx hb hts hinX1 hown hK hP ho17.1 ho17.2.1 rfl 0 (by decide) (hts (.fieldLink RX6 71 "AdmissionControl$Lane" "settings" "LAdmissionControl$Row;") (List.mem_of_getElem? (i := 3) rfl)) (fun _ h9 => h9) rfl dX6_classSetting_25 ?_
        refine lv_iload_n hx hb dX6_classSetting_28 rfl (lv_at hl 2 rfl) ?_
        obtain ⟨r19, m20, hq, hf⟩ := ob_e hf
        refine w_ci (va_runV (As := [.int a2]) (rest := []) ⟨hx, hb, hml, hown, hts⟩ (c_X3_at l D ad cI cR hi fu (o17 + 1) 4 a2 ho17.2.2.1 m18 r19 m20 hq) (cwV 1 hts gX6_classSetting_X3_at rfl rfl rfl (by decide +kernel) ⟨Nat.le_of_ble_eq_true rfl, Nat.le_of_ble_eq_true rfl⟩) (w_preV (ci := 3) hK hP hN ho17.2.2.1.1 ho17.2.2.1.2.1 rfl) rfl rfl hl.1 rfl (lv_room (Nat.le_of_ble_eq_true rfl)) dX6_classSetting_29 ⟨Nat.zero_le _, Nat.zero_le _⟩) hA hS (fun H locs hP hS => ?_)
        cases hf
        exact w_iret hx hb hr hlocks hP hS dX6_classSetting_32
    · rw [if_pos c16] at hf
      refine lv_ldc (v := (-100001)) hx hb hown (hts (.constant RX6 37 (-100001)) (List.mem_of_getElem? (i := 1) rfl)) dX6_classSetting_14 ?_
      cases hf
      exact w_iret hx hb hr hlocks hP hS dX6_classSetting_16
def F_X6_clock (fu : Nat)  (mm : Mem) : Option (Int32 × Mem) := some ((mm 1 9), mm)
set_option maxHeartbeats 4000000 in
set_option maxRecDepth 100000 in
theorem c_X6_clock (l : Launch) (D : va_G) (ad : Nat → Nat) (cI cR : ClassId) (hi : inj ad) (fu : Nat)   (mm : Mem) (r0 : Int32) (m9 : Mem) (hf : F_X6_clock fu  mm = some (r0, m9)) : MI l yX6_clock wsX6_clock { frames := 0, cells := 0, slots := 0, locals := 0 } D ad cI cR [.ref (ad 0)] mm r0 m9 := by
  refine Met.ofW (cc := cX6_clock) (maxL := 1) (ret := (some .int)) (by decide) rfl ?_
  intro p e s m args below meth c s₁ B hml hv
  obtain ⟨rfl, hP, hK, hN⟩ := hv
  have hx := B.exec
  have hb := B.bytes
  have hr := B.returns
  have hts := atoms_spec (ws := wsX6_clock) B.pre
  have hown : s.vm.findClass RX6 = some m.cls := findClass_of_methodNamed B.named
  have hlocks := B.notSynchronized
  have hA : ∀ q, AA ad q → AA ad q := fun _ h => h
  have hS : va_S (AA ad) s.heap s.heap [] := va_S.rf
  have hinX4 : ∀ w ∈ wsX40, w ∈ wsX6_clock := (fun _ h => List.mem_cons_of_mem _ (List.mem_append_right _ h))
  have hinX6 : ∀ w ∈ wsX60, w ∈ wsX6_clock := (fun _ h => List.mem_cons_of_mem _ (List.mem_append_left _ (List.mem_append_right _ h)))
  have hl := lv_entry ([.ref (ad 0)]) (n := 1) (Nat.le_of_ble_eq_true rfl)
  rw [lg_entry_eq]
  generalize (lg_sl ([.ref (ad 0)]) ++ List.replicate (1 - (lg_sl ([.ref (ad 0)])).length) Slot.unset).toArray = ls at hl ⊢
  have hl : lv_has ls 1 [(0, .ref (ad 0))] := hl
  unfold F_X6_clock at hf
  refine lv_aload_n hx hb dX6_clock_0 rfl (lv_at hl 0 rfl) ?_
  refine w_get (C := RX6) (T := TX6) (N := 4) (ci := 6) (v := .ref (ad 1)) hx hb hts hinX6 hown hK hP (S_ac ad cI cR).1 (S_ac ad cI cR).2 rfl 0 (by decide) (hts (.fieldLink RX6 10 "AdmissionControl" "server" "LAdmissionControl$Server;") (List.mem_of_getElem? (i := 1) rfl)) (fun _ h9 => h9) rfl dX6_clock_1 ?_
  refine w_get (C := RX4) (T := TX4) (N := 11) (ci := 4) (v := .int (mm 1 9)) hx hb hts hinX4 hown hK hP (S_srv1 ad cI cR).1 (S_srv1 ad cI cR).2.1 rfl 9 (by decide) (hts (.fieldLink RX6 114 "AdmissionControl$Server" "clock" "I") (List.mem_of_getElem? (i := 2) rfl)) (fun _ h9 => h9) rfl dX6_clock_4 ?_
  cases hf
  exact w_iret hx hb hr hlocks hP hS dX6_clock_7
def F_X6_estimate (fu : Nat) (a1 : Int32) (mm : Mem) : Option (Int32 × Mem) := ob (F_X6_isShape fu a1 mm) fun r6 m7 => if r6 = 0 then (some ((-100001), m7)) else (ob (F_X3_at fu (1 + 3) 5 a1 m7) fun r9 m10 => some (r9, m10))
set_option maxHeartbeats 4000000 in
set_option maxRecDepth 100000 in
theorem c_X6_estimate (l : Launch) (D : va_G) (ad : Nat → Nat) (cI cR : ClassId) (hi : inj ad) (fu : Nat) (a1 : Int32)  (mm : Mem) (r0 : Int32) (m9 : Mem) (hf : F_X6_estimate fu a1 mm = some (r0, m9)) : MI l yX6_estimate wsX6_estimate { frames := 1, cells := 0, slots := 0, locals := 21 } D ad cI cR [.ref (ad 0), .int a1] mm r0 m9 := by
  refine Met.ofW (cc := cX6_estimate) (maxL := 2) (ret := (some .int)) (by decide) rfl ?_
  intro p e s m args below meth c s₁ B hml hv
  obtain ⟨rfl, hP, hK, hN⟩ := hv
  have hx := B.exec
  have hb := B.bytes
  have hr := B.returns
  have hts := atoms_spec (ws := wsX6_estimate) B.pre
  have hown : s.vm.findClass RX6 = some m.cls := findClass_of_methodNamed B.named
  have hlocks := B.notSynchronized
  have hA : ∀ q, AA ad q → AA ad q := fun _ h => h
  have hS : va_S (AA ad) s.heap s.heap [] := va_S.rf
  have hinX4 : ∀ w ∈ wsX40, w ∈ wsX6_estimate := (fun _ h => List.mem_cons_of_mem _ (List.mem_append_left _ (List.mem_append_right _ h)))
  have hinX6 : ∀ w ∈ wsX60, w ∈ wsX6_estimate := (fun _ h => List.mem_cons_of_mem _ (List.mem_append_left _ (List.mem_append_left _ (List.mem_append_right _ h))))
  have hl := lv_entry ([.ref (ad 0), .int a1]) (n := 2) (Nat.le_of_ble_eq_true rfl)
  rw [lg_entry_eq]
  generalize (lg_sl ([.ref (ad 0), .int a1]) ++ List.replicate (2 - (lg_sl ([.ref (ad 0), .int a1])).length) Slot.unset).toArray = ls at hl ⊢
  have hl : lv_has ls 2 [(0, .ref (ad 0)), (1, .int a1)] := hl
  unfold F_X6_estimate at hf
  refine lv_iload_n hx hb dX6_estimate_0 rfl (lv_at hl 1 rfl) ?_
  obtain ⟨r6, m7, hq, hf⟩ := ob_e hf
  refine w_ci (va_runS (As := [.int a1]) (rest := []) ⟨hx, hb, hml, hown, hts⟩ (c_X6_isShape l D ad cI cR hi fu a1 mm r6 m7 hq) (va_cwS 1 hts gX6_estimate_X6_isShape rfl rfl rfl (by decide +kernel) ⟨Nat.le_of_ble_eq_true rfl, Nat.le_of_ble_eq_true rfl⟩) (w_preS hK hP hN) rfl rfl hl.1 rfl (lv_room (Nat.le_of_ble_eq_true rfl)) dX6_estimate_1 ⟨Nat.zero_le _, Nat.zero_le _⟩) hA hS (fun H locs hP hS => ?_)
  refine lv_if_eq (tgt := 21) hx hb dX6_estimate_4 (by decide) (fun c8 => ?_) (fun c8 => ?_)
  · rw [if_pos c8] at hf
    refine lv_ldc (v := (-100001)) hx hb hown (hts (.constant RX6 37 (-100001)) (List.mem_of_getElem? (i := 3) rfl)) dX6_estimate_21 ?_
    cases hf
    exact w_iret hx hb hr hlocks hP hS dX6_estimate_23
  · rw [if_neg c8] at hf
    refine lv_aload_n hx hb dX6_estimate_7 rfl (lv_at hl 0 rfl) ?_
    refine w_get (C := RX6) (T := TX6) (N := 4) (ci := 6) (v := .ref (ad 1)) hx hb hts hinX6 hown hK hP (S_ac ad cI cR).1 (S_ac ad cI cR).2 rfl 0 (by decide) (hts (.fieldLink RX6 10 "AdmissionControl" "server" "LAdmissionControl$Server;") (List.mem_of_getElem? (i := 1) rfl)) (fun _ h9 => h9) rfl dX6_estimate_8 ?_
    refine w_get (C := RX4) (T := TX4) (N := 11) (ci := 4) (v := .ref (ad (1 + 3))) hx hb hts hinX4 hown hK hP (S_srv1 ad cI cR).1 (S_srv1 ad cI cR).2.1 rfl 1 (by decide) (hts (.fieldLink RX6 120 "AdmissionControl$Server" "estimates" "LAdmissionControl$Row;") (List.mem_of_getElem? (i := 2) rfl)) (fun _ h9 => h9) rfl dX6_estimate_11 ?_
    refine lv_iload_n hx hb dX6_estimate_14 rfl (lv_at hl 1 rfl) ?_
    obtain ⟨r9, m10, hq, hf⟩ := ob_e hf
    refine w_ci (va_runV (As := [.int a1]) (rest := []) ⟨hx, hb, hml, hown, hts⟩ (c_X3_at l D ad cI cR hi fu (1 + 3) 5 a1 (S_srv1 ad cI cR).2.2.2.1 m7 r9 m10 hq) (cwV 1 hts gX6_estimate_X3_at rfl rfl rfl (by decide +kernel) ⟨Nat.le_of_ble_eq_true rfl, Nat.le_of_ble_eq_true rfl⟩) (w_preV (ci := 3) hK hP hN (S_srv1 ad cI cR).2.2.2.1.1 (S_srv1 ad cI cR).2.2.2.1.2.1 rfl) rfl rfl hl.1 rfl (lv_room (Nat.le_of_ble_eq_true rfl)) dX6_estimate_15 ⟨Nat.zero_le _, Nat.zero_le _⟩) hA hS (fun H locs hP hS => ?_)
    refine lv_goto (tgt := 23) hx hb dX6_estimate_18 (by decide) ?_
    cases hf
    exact w_iret hx hb hr hlocks hP hS dX6_estimate_23
def F_X6_tokens (fu : Nat) (a1 : Int32) (mm : Mem) : Option (Int32 × Mem) := ob (F_X6_isKind fu a1 mm) fun r6 m7 => if r6 = 0 then (some ((-100001), m7)) else (oq (F_X4_lane fu 1 a1 m7) (fun m10 => none) (fun o9 m10 => some ((m10 o9 4), m10)))
set_option maxHeartbeats 4000000 in
set_option maxRecDepth 100000 in
theorem c_X6_tokens (l : Launch) (D : va_G) (ad : Nat → Nat) (cI cR : ClassId) (hi : inj ad) (fu : Nat) (a1 : Int32)  (mm : Mem) (r0 : Int32) (m9 : Mem) (hf : F_X6_tokens fu a1 mm = some (r0, m9)) : MI l yX6_tokens wsX6_tokens { frames := 1, cells := 0, slots := 0, locals := 21 } D ad cI cR [.ref (ad 0), .int a1] mm r0 m9 := by
  refine Met.ofW (cc := cX6_tokens) (maxL := 2) (ret := (some .int)) (by decide) rfl ?_
  intro p e s m args below meth c s₁ B hml hv
  obtain ⟨rfl, hP, hK, hN⟩ := hv
  have hx := B.exec
  have hb := B.bytes
  have hr := B.returns
  have hts := atoms_spec (ws := wsX6_tokens) B.pre
  have hown : s.vm.findClass RX6 = some m.cls := findClass_of_methodNamed B.named
  have hlocks := B.notSynchronized
  have hA : ∀ q, AA ad q → AA ad q := fun _ h => h
  have hS : va_S (AA ad) s.heap s.heap [] := va_S.rf
  have hinX1 : ∀ w ∈ wsX10, w ∈ wsX6_tokens := (fun _ h => List.mem_cons_of_mem _ (List.mem_append_left _ (List.mem_append_right _ h)))
  have hinX6 : ∀ w ∈ wsX60, w ∈ wsX6_tokens := (fun _ h => List.mem_cons_of_mem _ (List.mem_append_left _ (List.mem_append_left _ (List.mem_append_right _ h))))
  have hl := lv_entry ([.ref (ad 0), .int a1]) (n := 2) (Nat.le_of_ble_eq_true rfl)
  rw [lg_entry_eq]
  generalize (lg_sl ([.ref (ad 0), .int a1]) ++ List.replicate (2 - (lg_sl ([.ref (ad 0), .int a1])).length) Slot.unset).toArray = ls at hl ⊢
  have hl : lv_has ls 2 [(0, .ref (ad 0)), (1, .int a1)] := hl
  unfold F_X6_tokens at hf
  refine lv_iload_n hx hb dX6_tokens_0 rfl (lv_at hl 1 rfl) ?_
  obtain ⟨r6, m7, hq, hf⟩ := ob_e hf
  refine w_ci (va_runS (As := [.int a1]) (rest := []) ⟨hx, hb, hml, hown, hts⟩ (c_X6_isKind l D ad cI cR hi fu a1 mm r6 m7 hq) (va_cwS 1 hts gX6_tokens_X6_isKind rfl rfl rfl (by decide +kernel) ⟨Nat.le_of_ble_eq_true rfl, Nat.le_of_ble_eq_true rfl⟩) (w_preS hK hP hN) rfl rfl hl.1 rfl (lv_room (Nat.le_of_ble_eq_true rfl)) dX6_tokens_1 ⟨Nat.zero_le _, Nat.zero_le _⟩) hA hS (fun H locs hP hS => ?_)
  refine lv_if_eq (tgt := 21) hx hb dX6_tokens_4 (by decide) (fun c8 => ?_) (fun c8 => ?_)
  · rw [if_pos c8] at hf
    refine lv_ldc (v := (-100001)) hx hb hown (hts (.constant RX6 37 (-100001)) (List.mem_of_getElem? (i := 3) rfl)) dX6_tokens_21 ?_
    cases hf
    exact w_iret hx hb hr hlocks hP hS dX6_tokens_23
  · rw [if_neg c8] at hf
    refine lv_aload_n hx hb dX6_tokens_7 rfl (lv_at hl 0 rfl) ?_
    refine w_get (C := RX6) (T := TX6) (N := 4) (ci := 6) (v := .ref (ad 1)) hx hb hts hinX6 hown hK hP (S_ac ad cI cR).1 (S_ac ad cI cR).2 rfl 0 (by decide) (hts (.fieldLink RX6 10 "AdmissionControl" "server" "LAdmissionControl$Server;") (List.mem_of_getElem? (i := 1) rfl)) (fun _ h9 => h9) rfl dX6_tokens_8 ?_
    refine lv_iload_n hx hb dX6_tokens_11 rfl (lv_at hl 1 rfl) ?_
    rcases oq_e hf with ⟨m10, hq, hf⟩ | ⟨o9, m10, hq, hf⟩
    · refine w_cqN (va_runV (As := [.int a1]) (rest := []) ⟨hx, hb, hml, hown, hts⟩ (c_X4_lane l D ad cI cR hi fu 1 a1 (S_srv1 ad cI cR) m7 none m10 hq) (cwV 1 hts gX6_tokens_X4_lane rfl rfl rfl (by decide +kernel) ⟨Nat.le_of_ble_eq_true rfl, Nat.le_of_ble_eq_true rfl⟩) (w_preV (ci := 4) hK hP hN (S_srv1 ad cI cR).1 (S_srv1 ad cI cR).2.1 rfl) rfl rfl hl.1 rfl (lv_room (Nat.le_of_ble_eq_true rfl)) dX6_tokens_12 ⟨Nat.zero_le _, Nat.zero_le _⟩) hA hS (fun H locs hP hS => ?_)
      cases hf
    · have ho9 := (t_X4_lane ad cI cR fu 1 a1 (S_srv1 ad cI cR) m7 o9 m10 hq)
      refine w_cqS (va_runV (As := [.int a1]) (rest := []) ⟨hx, hb, hml, hown, hts⟩ (c_X4_lane l D ad cI cR hi fu 1 a1 (S_srv1 ad cI cR) m7 (some o9) m10 hq) (cwV 1 hts gX6_tokens_X4_lane rfl rfl rfl (by decide +kernel) ⟨Nat.le_of_ble_eq_true rfl, Nat.le_of_ble_eq_true rfl⟩) (w_preV (ci := 4) hK hP hN (S_srv1 ad cI cR).1 (S_srv1 ad cI cR).2.1 rfl) rfl rfl hl.1 rfl (lv_room (Nat.le_of_ble_eq_true rfl)) dX6_tokens_12 ⟨Nat.zero_le _, Nat.zero_le _⟩) hA hS (fun H locs hP hS => ?_)
      refine w_get (C := RX1) (T := TX1) (N := 7) (ci := 1) (v := .int (m10 o9 4)) hx hb hts hinX1 hown hK hP ho9.1 ho9.2.1 rfl 4 (by decide) (hts (.fieldLink RX6 123 "AdmissionControl$Lane" "tokens" "I") (List.mem_of_getElem? (i := 2) rfl)) (fun _ h9 => h9) rfl dX6_tokens_15 ?_
      refine lv_goto (tgt := 23) hx hb dX6_tokens_18 (by decide) ?_
      cases hf
      exact w_iret hx hb hr hlocks hP hS dX6_tokens_23
def F_X6_pass (fu : Nat) (a1 : Int32) (mm : Mem) : Option (Int32 × Mem) := ob (F_X6_isKind fu a1 mm) fun r6 m7 => if r6 = 0 then (some ((-100001), m7)) else (oq (F_X4_lane fu 1 a1 m7) (fun m10 => none) (fun o9 m10 => some ((m10 o9 5), m10)))
set_option maxHeartbeats 4000000 in
set_option maxRecDepth 100000 in
theorem c_X6_pass (l : Launch) (D : va_G) (ad : Nat → Nat) (cI cR : ClassId) (hi : inj ad) (fu : Nat) (a1 : Int32)  (mm : Mem) (r0 : Int32) (m9 : Mem) (hf : F_X6_pass fu a1 mm = some (r0, m9)) : MI l yX6_pass wsX6_pass { frames := 1, cells := 0, slots := 0, locals := 21 } D ad cI cR [.ref (ad 0), .int a1] mm r0 m9 := by
  refine Met.ofW (cc := cX6_pass) (maxL := 2) (ret := (some .int)) (by decide) rfl ?_
  intro p e s m args below meth c s₁ B hml hv
  obtain ⟨rfl, hP, hK, hN⟩ := hv
  have hx := B.exec
  have hb := B.bytes
  have hr := B.returns
  have hts := atoms_spec (ws := wsX6_pass) B.pre
  have hown : s.vm.findClass RX6 = some m.cls := findClass_of_methodNamed B.named
  have hlocks := B.notSynchronized
  have hA : ∀ q, AA ad q → AA ad q := fun _ h => h
  have hS : va_S (AA ad) s.heap s.heap [] := va_S.rf
  have hinX1 : ∀ w ∈ wsX10, w ∈ wsX6_pass := (fun _ h => List.mem_cons_of_mem _ (List.mem_append_left _ (List.mem_append_right _ h)))
  have hinX6 : ∀ w ∈ wsX60, w ∈ wsX6_pass := (fun _ h => List.mem_cons_of_mem _ (List.mem_append_left _ (List.mem_append_left _ (List.mem_append_right _ h))))
  have hl := lv_entry ([.ref (ad 0), .int a1]) (n := 2) (Nat.le_of_ble_eq_true rfl)
  rw [lg_entry_eq]
  generalize (lg_sl ([.ref (ad 0), .int a1]) ++ List.replicate (2 - (lg_sl ([.ref (ad 0), .int a1])).length) Slot.unset).toArray = ls at hl ⊢
  have hl : lv_has ls 2 [(0, .ref (ad 0)), (1, .int a1)] := hl
  unfold F_X6_pass at hf
  refine lv_iload_n hx hb dX6_pass_0 rfl (lv_at hl 1 rfl) ?_
  obtain ⟨r6, m7, hq, hf⟩ := ob_e hf
  refine w_ci (va_runS (As := [.int a1]) (rest := []) ⟨hx, hb, hml, hown, hts⟩ (c_X6_isKind l D ad cI cR hi fu a1 mm r6 m7 hq) (va_cwS 1 hts gX6_pass_X6_isKind rfl rfl rfl (by decide +kernel) ⟨Nat.le_of_ble_eq_true rfl, Nat.le_of_ble_eq_true rfl⟩) (w_preS hK hP hN) rfl rfl hl.1 rfl (lv_room (Nat.le_of_ble_eq_true rfl)) dX6_pass_1 ⟨Nat.zero_le _, Nat.zero_le _⟩) hA hS (fun H locs hP hS => ?_)
  refine lv_if_eq (tgt := 21) hx hb dX6_pass_4 (by decide) (fun c8 => ?_) (fun c8 => ?_)
  · rw [if_pos c8] at hf
    refine lv_ldc (v := (-100001)) hx hb hown (hts (.constant RX6 37 (-100001)) (List.mem_of_getElem? (i := 3) rfl)) dX6_pass_21 ?_
    cases hf
    exact w_iret hx hb hr hlocks hP hS dX6_pass_23
  · rw [if_neg c8] at hf
    refine lv_aload_n hx hb dX6_pass_7 rfl (lv_at hl 0 rfl) ?_
    refine w_get (C := RX6) (T := TX6) (N := 4) (ci := 6) (v := .ref (ad 1)) hx hb hts hinX6 hown hK hP (S_ac ad cI cR).1 (S_ac ad cI cR).2 rfl 0 (by decide) (hts (.fieldLink RX6 10 "AdmissionControl" "server" "LAdmissionControl$Server;") (List.mem_of_getElem? (i := 1) rfl)) (fun _ h9 => h9) rfl dX6_pass_8 ?_
    refine lv_iload_n hx hb dX6_pass_11 rfl (lv_at hl 1 rfl) ?_
    rcases oq_e hf with ⟨m10, hq, hf⟩ | ⟨o9, m10, hq, hf⟩
    · refine w_cqN (va_runV (As := [.int a1]) (rest := []) ⟨hx, hb, hml, hown, hts⟩ (c_X4_lane l D ad cI cR hi fu 1 a1 (S_srv1 ad cI cR) m7 none m10 hq) (cwV 1 hts gX6_pass_X4_lane rfl rfl rfl (by decide +kernel) ⟨Nat.le_of_ble_eq_true rfl, Nat.le_of_ble_eq_true rfl⟩) (w_preV (ci := 4) hK hP hN (S_srv1 ad cI cR).1 (S_srv1 ad cI cR).2.1 rfl) rfl rfl hl.1 rfl (lv_room (Nat.le_of_ble_eq_true rfl)) dX6_pass_12 ⟨Nat.zero_le _, Nat.zero_le _⟩) hA hS (fun H locs hP hS => ?_)
      cases hf
    · have ho9 := (t_X4_lane ad cI cR fu 1 a1 (S_srv1 ad cI cR) m7 o9 m10 hq)
      refine w_cqS (va_runV (As := [.int a1]) (rest := []) ⟨hx, hb, hml, hown, hts⟩ (c_X4_lane l D ad cI cR hi fu 1 a1 (S_srv1 ad cI cR) m7 (some o9) m10 hq) (cwV 1 hts gX6_pass_X4_lane rfl rfl rfl (by decide +kernel) ⟨Nat.le_of_ble_eq_true rfl, Nat.le_of_ble_eq_true rfl⟩) (w_preV (ci := 4) hK hP hN (S_srv1 ad cI cR).1 (S_srv1 ad cI cR).2.1 rfl) rfl rfl hl.1 rfl (lv_room (Nat.le_of_ble_eq_true rfl)) dX6_pass_12 ⟨Nat.zero_le _, Nat.zero_le _⟩) hA hS (fun H locs hP hS => ?_)
      refine w_get (C := RX1) (T := TX1) (N := 7) (ci := 1) (v := .int (m10 o9 5)) hx hb hts hinX1 hown hK hP ho9.1 ho9.2.1 rfl 5 (by decide) (hts (.fieldLink RX6 126 "AdmissionControl$Lane" "pass" "I") (List.mem_of_getElem? (i := 2) rfl)) (fun _ h9 => h9) rfl dX6_pass_15 ?_
      refine lv_goto (tgt := 23) hx hb dX6_pass_18 (by decide) ?_
      cases hf
      exact w_iret hx hb hr hlocks hP hS dX6_pass_23
def F_X6_queued (fu : Nat) (a1 : Int32) (mm : Mem) : Option (Int32 × Mem) := ob (F_X6_isKind fu a1 mm) fun r6 m7 => if r6 = 0 then (some ((-100001), m7)) else (oq (F_X4_lane fu 1 a1 m7) (fun m10 => none) (fun o9 m10 => some ((m10 o9 3), m10)))
set_option maxHeartbeats 4000000 in
set_option maxRecDepth 100000 in
theorem c_X6_queued (l : Launch) (D : va_G) (ad : Nat → Nat) (cI cR : ClassId) (hi : inj ad) (fu : Nat) (a1 : Int32)  (mm : Mem) (r0 : Int32) (m9 : Mem) (hf : F_X6_queued fu a1 mm = some (r0, m9)) : MI l yX6_queued wsX6_queued { frames := 1, cells := 0, slots := 0, locals := 21 } D ad cI cR [.ref (ad 0), .int a1] mm r0 m9 := by
  refine Met.ofW (cc := cX6_queued) (maxL := 2) (ret := (some .int)) (by decide) rfl ?_
  intro p e s m args below meth c s₁ B hml hv
  obtain ⟨rfl, hP, hK, hN⟩ := hv
  have hx := B.exec
  have hb := B.bytes
  have hr := B.returns
  have hts := atoms_spec (ws := wsX6_queued) B.pre
  have hown : s.vm.findClass RX6 = some m.cls := findClass_of_methodNamed B.named
  have hlocks := B.notSynchronized
  have hA : ∀ q, AA ad q → AA ad q := fun _ h => h
  have hS : va_S (AA ad) s.heap s.heap [] := va_S.rf
  have hinX1 : ∀ w ∈ wsX10, w ∈ wsX6_queued := (fun _ h => List.mem_cons_of_mem _ (List.mem_append_left _ (List.mem_append_right _ h)))
  have hinX6 : ∀ w ∈ wsX60, w ∈ wsX6_queued := (fun _ h => List.mem_cons_of_mem _ (List.mem_append_left _ (List.mem_append_left _ (List.mem_append_right _ h))))
  have hl := lv_entry ([.ref (ad 0), .int a1]) (n := 2) (Nat.le_of_ble_eq_true rfl)
  rw [lg_entry_eq]
  generalize (lg_sl ([.ref (ad 0), .int a1]) ++ List.replicate (2 - (lg_sl ([.ref (ad 0), .int a1])).length) Slot.unset).toArray = ls at hl ⊢
  have hl : lv_has ls 2 [(0, .ref (ad 0)), (1, .int a1)] := hl
  unfold F_X6_queued at hf
  refine lv_iload_n hx hb dX6_queued_0 rfl (lv_at hl 1 rfl) ?_
  obtain ⟨r6, m7, hq, hf⟩ := ob_e hf
  refine w_ci (va_runS (As := [.int a1]) (rest := []) ⟨hx, hb, hml, hown, hts⟩ (c_X6_isKind l D ad cI cR hi fu a1 mm r6 m7 hq) (va_cwS 1 hts gX6_queued_X6_isKind rfl rfl rfl (by decide +kernel) ⟨Nat.le_of_ble_eq_true rfl, Nat.le_of_ble_eq_true rfl⟩) (w_preS hK hP hN) rfl rfl hl.1 rfl (lv_room (Nat.le_of_ble_eq_true rfl)) dX6_queued_1 ⟨Nat.zero_le _, Nat.zero_le _⟩) hA hS (fun H locs hP hS => ?_)
  refine lv_if_eq (tgt := 21) hx hb dX6_queued_4 (by decide) (fun c8 => ?_) (fun c8 => ?_)
  · rw [if_pos c8] at hf
    refine lv_ldc (v := (-100001)) hx hb hown (hts (.constant RX6 37 (-100001)) (List.mem_of_getElem? (i := 3) rfl)) dX6_queued_21 ?_
    cases hf
    exact w_iret hx hb hr hlocks hP hS dX6_queued_23
  · rw [if_neg c8] at hf
    refine lv_aload_n hx hb dX6_queued_7 rfl (lv_at hl 0 rfl) ?_
    refine w_get (C := RX6) (T := TX6) (N := 4) (ci := 6) (v := .ref (ad 1)) hx hb hts hinX6 hown hK hP (S_ac ad cI cR).1 (S_ac ad cI cR).2 rfl 0 (by decide) (hts (.fieldLink RX6 10 "AdmissionControl" "server" "LAdmissionControl$Server;") (List.mem_of_getElem? (i := 1) rfl)) (fun _ h9 => h9) rfl dX6_queued_8 ?_
    refine lv_iload_n hx hb dX6_queued_11 rfl (lv_at hl 1 rfl) ?_
    rcases oq_e hf with ⟨m10, hq, hf⟩ | ⟨o9, m10, hq, hf⟩
    · refine w_cqN (va_runV (As := [.int a1]) (rest := []) ⟨hx, hb, hml, hown, hts⟩ (c_X4_lane l D ad cI cR hi fu 1 a1 (S_srv1 ad cI cR) m7 none m10 hq) (cwV 1 hts gX6_queued_X4_lane rfl rfl rfl (by decide +kernel) ⟨Nat.le_of_ble_eq_true rfl, Nat.le_of_ble_eq_true rfl⟩) (w_preV (ci := 4) hK hP hN (S_srv1 ad cI cR).1 (S_srv1 ad cI cR).2.1 rfl) rfl rfl hl.1 rfl (lv_room (Nat.le_of_ble_eq_true rfl)) dX6_queued_12 ⟨Nat.zero_le _, Nat.zero_le _⟩) hA hS (fun H locs hP hS => ?_)
      cases hf
    · have ho9 := (t_X4_lane ad cI cR fu 1 a1 (S_srv1 ad cI cR) m7 o9 m10 hq)
      refine w_cqS (va_runV (As := [.int a1]) (rest := []) ⟨hx, hb, hml, hown, hts⟩ (c_X4_lane l D ad cI cR hi fu 1 a1 (S_srv1 ad cI cR) m7 (some o9) m10 hq) (cwV 1 hts gX6_queued_X4_lane rfl rfl rfl (by decide +kernel) ⟨Nat.le_of_ble_eq_true rfl, Nat.le_of_ble_eq_true rfl⟩) (w_preV (ci := 4) hK hP hN (S_srv1 ad cI cR).1 (S_srv1 ad cI cR).2.1 rfl) rfl rfl hl.1 rfl (lv_room (Nat.le_of_ble_eq_true rfl)) dX6_queued_12 ⟨Nat.zero_le _, Nat.zero_le _⟩) hA hS (fun H locs hP hS => ?_)
      refine w_get (C := RX1) (T := TX1) (N := 7) (ci := 1) (v := .int (m10 o9 3)) hx hb hts hinX1 hown hK hP ho9.1 ho9.2.1 rfl 3 (by decide) (hts (.fieldLink RX6 129 "AdmissionControl$Lane" "length" "I") (List.mem_of_getElem? (i := 2) rfl)) (fun _ h9 => h9) rfl dX6_queued_15 ?_
      refine lv_goto (tgt := 23) hx hb dX6_queued_18 (by decide) ?_
      cases hf
      exact w_iret hx hb hr hlocks hP hS dX6_queued_23
def F_X6_queuedAt (fu : Nat) (a1 : Int32) (a2 : Int32) (mm : Mem) : Option (Int32 × Mem) := ob (F_X6_isKind fu a1 mm) fun r10 m11 => if r10 = 0 then (some ((-100001), m11)) else (if 0 ≤ a2 then (oq (F_X4_lane fu 1 a1 m11) (fun m15 => none) (fun o14 m15 => if (m15 o14 3) ≤ a2 then (some ((-100005), m15)) else (ob (F_X3_at fu (o14 + 5) 8 a2 m15) fun r17 m18 => some (r17, m18)))) else (some ((-100002), m11)))
set_option maxHeartbeats 4000000 in
set_option maxRecDepth 100000 in
theorem c_X6_queuedAt (l : Launch) (D : va_G) (ad : Nat → Nat) (cI cR : ClassId) (hi : inj ad) (fu : Nat) (a1 : Int32) (a2 : Int32)  (mm : Mem) (r0 : Int32) (m9 : Mem) (hf : F_X6_queuedAt fu a1 a2 mm = some (r0, m9)) : MI l yX6_queuedAt wsX6_queuedAt { frames := 1, cells := 0, slots := 0, locals := 21 } D ad cI cR [.ref (ad 0), .int a1, .int a2] mm r0 m9 := by
  refine Met.ofW (cc := cX6_queuedAt) (maxL := 4) (ret := (some .int)) (by decide) rfl ?_
  intro p e s m args below meth c s₁ B hml hv
  obtain ⟨rfl, hP, hK, hN⟩ := hv
  have hx := B.exec
  have hb := B.bytes
  have hr := B.returns
  have hts := atoms_spec (ws := wsX6_queuedAt) B.pre
  have hown : s.vm.findClass RX6 = some m.cls := findClass_of_methodNamed B.named
  have hlocks := B.notSynchronized
  have hA : ∀ q, AA ad q → AA ad q := fun _ h => h
  have hS : va_S (AA ad) s.heap s.heap [] := va_S.rf
  have hinX1 : ∀ w ∈ wsX10, w ∈ wsX6_queuedAt := (fun _ h => List.mem_cons_of_mem _ (List.mem_append_left _ (List.mem_append_left _ (List.mem_append_right _ h))))
  have hinX6 : ∀ w ∈ wsX60, w ∈ wsX6_queuedAt := (fun _ h => List.mem_cons_of_mem _ (List.mem_append_left _ (List.mem_append_left _ (List.mem_append_left _ (List.mem_append_right _ h)))))
  have hl := lv_entry ([.ref (ad 0), .int a1, .int a2]) (n := 4) (Nat.le_of_ble_eq_true rfl)
  rw [lg_entry_eq]
  generalize (lg_sl ([.ref (ad 0), .int a1, .int a2]) ++ List.replicate (4 - (lg_sl ([.ref (ad 0), .int a1, .int a2])).length) Slot.unset).toArray = ls at hl ⊢
  have hl : lv_has ls 4 [(0, .ref (ad 0)), (1, .int a1), (2, .int a2)] := hl
  unfold F_X6_queuedAt at hf
  refine lv_iload_n hx hb dX6_queuedAt_0 rfl (lv_at hl 1 rfl) ?_
  obtain ⟨r10, m11, hq, hf⟩ := ob_e hf
  refine w_ci (va_runS (As := [.int a1]) (rest := []) ⟨hx, hb, hml, hown, hts⟩ (c_X6_isKind l D ad cI cR hi fu a1 mm r10 m11 hq) (va_cwS 1 hts gX6_queuedAt_X6_isKind rfl rfl rfl (by decide +kernel) ⟨Nat.le_of_ble_eq_true rfl, Nat.le_of_ble_eq_true rfl⟩) (w_preS hK hP hN) rfl rfl hl.1 rfl (lv_room (Nat.le_of_ble_eq_true rfl)) dX6_queuedAt_1 ⟨Nat.zero_le _, Nat.zero_le _⟩) hA hS (fun H locs hP hS => ?_)
  refine lv_if_ne (tgt := 10) hx hb dX6_queuedAt_4 (by decide) (fun c12 => ?_) (fun c12 => ?_)
  · rw [if_neg c12] at hf
    refine lv_iload_n hx hb dX6_queuedAt_10 rfl (lv_at hl 2 rfl) ?_
    refine lv_if_ge (tgt := 17) hx hb dX6_queuedAt_11 (by decide) (fun c13 => ?_) (fun c13 => ?_)
    · rw [if_pos c13] at hf
      refine lv_aload_n hx hb dX6_queuedAt_17 rfl (lv_at hl 0 rfl) ?_
      refine w_get (C := RX6) (T := TX6) (N := 4) (ci := 6) (v := .ref (ad 1)) hx hb hts hinX6 hown hK hP (S_ac ad cI cR).1 (S_ac ad cI cR).2 rfl 0 (by decide) (hts (.fieldLink RX6 10 "AdmissionControl" "server" "LAdmissionControl$Server;") (List.mem_of_getElem? (i := 3) rfl)) (fun _ h9 => h9) rfl dX6_queuedAt_18 ?_
      refine lv_iload_n hx hb dX6_queuedAt_21 rfl (lv_at hl 1 rfl) ?_
      rcases oq_e hf with ⟨m15, hq, hf⟩ | ⟨o14, m15, hq, hf⟩
      · refine w_cqN (va_runV (As := [.int a1]) (rest := []) ⟨hx, hb, hml, hown, hts⟩ (c_X4_lane l D ad cI cR hi fu 1 a1 (S_srv1 ad cI cR) m11 none m15 hq) (cwV 1 hts gX6_queuedAt_X4_lane rfl rfl rfl (by decide +kernel) ⟨Nat.le_of_ble_eq_true rfl, Nat.le_of_ble_eq_true rfl⟩) (w_preV (ci := 4) hK hP hN (S_srv1 ad cI cR).1 (S_srv1 ad cI cR).2.1 rfl) rfl rfl hl.1 rfl (lv_room (Nat.le_of_ble_eq_true rfl)) dX6_queuedAt_22 ⟨Nat.zero_le _, Nat.zero_le _⟩) hA hS (fun H locs hP hS => ?_)
        refine lv_astore_nN (lv' := [(3, .null), (0, .ref (ad 0)), (1, .int a1), (2, .int a2)]) hx hb dX6_queuedAt_25 rfl hl (by decide) rfl (fun ls hl => ?_)
        refine lv_iload_n hx hb dX6_queuedAt_26 rfl (lv_at hl 3 rfl) ?_
        refine lv_aload_nN hx hb dX6_queuedAt_27 rfl (lv_at hl 0 rfl) ?_
        cases hf
      · have ho14 := (t_X4_lane ad cI cR fu 1 a1 (S_srv1 ad cI cR) m11 o14 m15 hq)
        refine w_cqS (va_runV (As := [.int a1]) (rest := []) ⟨hx, hb, hml, hown, hts⟩ (c_X4_lane l D ad cI cR hi fu 1 a1 (S_srv1 ad cI cR) m11 (some o14) m15 hq) (cwV 1 hts gX6_queuedAt_X4_lane rfl rfl rfl (by decide +kernel) ⟨Nat.le_of_ble_eq_true rfl, Nat.le_of_ble_eq_true rfl⟩) (w_preV (ci := 4) hK hP hN (S_srv1 ad cI cR).1 (S_srv1 ad cI cR).2.1 rfl) rfl rfl hl.1 rfl (lv_room (Nat.le_of_ble_eq_true rfl)) dX6_queuedAt_22 ⟨Nat.zero_le _, Nat.zero_le _⟩) hA hS (fun H locs hP hS => ?_)
        refine lv_astore_n (lv' := [(3, .ref (ad o14)), (0, .ref (ad 0)), (1, .int a1), (2, .int a2)]) hx hb dX6_queuedAt_25 rfl hl (by decide) rfl (fun ls hl => ?_)
        refine lv_iload_n hx hb dX6_queuedAt_26 rfl (lv_at hl 3 rfl) ?_
        refine lv_aload_n hx hb dX6_queuedAt_27 rfl (lv_at hl 0 rfl) ?_
        refine w_get (C := RX1) (T := TX1) (N := 7) (ci := 1) (v := .int (m15 o14 3)) hx hb hts hinX1 hown hK hP ho14.1 ho14.2.1 rfl 3 (by decide) (hts (.fieldLink RX6 129 "AdmissionControl$Lane" "length" "I") (List.mem_of_getElem? (i := 4) rfl)) (fun _ h9 => h9) rfl dX6_queuedAt_28 ?_
        refine lv_icmp_ge (tgt := 45) hx hb dX6_queuedAt_31 (by decide) (fun c16 => ?_) (fun c16 => ?_)
        · rw [if_pos c16] at hf
          refine lv_ldc (v := (-100005)) hx hb hown (hts (.constant RX6 100 (-100005)) (List.mem_of_getElem? (i := 6) rfl)) dX6_queuedAt_45 ?_
          cases hf
          exact w_iret hx hb hr hlocks hP hS dX6_queuedAt_47
        · rw [if_neg c16] at hf
          refine lv_aload_n hx hb dX6_queuedAt_34 rfl (lv_at hl 0 rfl) ?_
          refine w_get (C := RX1) (T := TX1) (N := 7) (ci := 1) (v := .ref (ad (o14 + 5))) hx hb hts hinX1 hown hK hP ho14.1 ho14.2.1 rfl 2 (by decide) (hts (.fieldLink RX6 130 "AdmissionControl$Lane" "queue" "LAdmissionControl$Row;") (List.mem_of_getElem? (i := 5) rfl)) (fun _ h9 => h9) rfl dX6_queuedAt_35 ?_
          refine lv_iload_n hx hb dX6_queuedAt_38 rfl (lv_at hl 3 rfl) ?_
          obtain ⟨r17, m18, hq, hf⟩ := ob_e hf
          refine w_ci (va_runV (As := [.int a2]) (rest := []) ⟨hx, hb, hml, hown, hts⟩ (c_X3_at l D ad cI cR hi fu (o14 + 5) 8 a2 ho14.2.2.2.2 m15 r17 m18 hq) (cwV 1 hts gX6_queuedAt_X3_at rfl rfl rfl (by decide +kernel) ⟨Nat.le_of_ble_eq_true rfl, Nat.le_of_ble_eq_true rfl⟩) (w_preV (ci := 3) hK hP hN ho14.2.2.2.2.1 ho14.2.2.2.2.2.1 rfl) rfl rfl hl.1 rfl (lv_room (Nat.le_of_ble_eq_true rfl)) dX6_queuedAt_39 ⟨Nat.zero_le _, Nat.zero_le _⟩) hA hS (fun H locs hP hS => ?_)
          refine lv_goto (tgt := 47) hx hb dX6_queuedAt_42 (by decide) ?_
          cases hf
          exact w_iret hx hb hr hlocks hP hS dX6_queuedAt_47
    · rw [if_neg c13] at hf
      refine lv_ldc (v := (-100002)) hx hb hown (hts (.constant RX6 42 (-100002)) (List.mem_of_getElem? (i := 2) rfl)) dX6_queuedAt_14 ?_
      cases hf
      exact w_iret hx hb hr hlocks hP hS dX6_queuedAt_16
  · rw [if_pos c12] at hf
    refine lv_ldc (v := (-100001)) hx hb hown (hts (.constant RX6 37 (-100001)) (List.mem_of_getElem? (i := 1) rfl)) dX6_queuedAt_7 ?_
    cases hf
    exact w_iret hx hb hr hlocks hP hS dX6_queuedAt_9
def F_X6_backlog (fu : Nat) (a1 : Int32) (mm : Mem) : Option (Int32 × Mem) := ob (F_X6_isKind fu a1 mm) fun r8 m9 => if r8 = 0 then (some ((-100001), m9)) else (oq (F_X4_lane fu 1 a1 m9) (fun m12 => none) (fun o11 m12 => ob (F_X4_backlogOf fu 1 o11 m12) fun r13 m14 => some (r13, m14)))
set_option maxHeartbeats 4000000 in
set_option maxRecDepth 100000 in
theorem c_X6_backlog (l : Launch) (D : va_G) (ad : Nat → Nat) (cI cR : ClassId) (hi : inj ad) (fu : Nat) (a1 : Int32)  (mm : Mem) (r0 : Int32) (m9 : Mem) (hf : F_X6_backlog fu a1 mm = some (r0, m9)) : MI l yX6_backlog wsX6_backlog { frames := 2, cells := 0, slots := 0, locals := 45 } D ad cI cR [.ref (ad 0), .int a1] mm r0 m9 := by
  refine Met.ofW (cc := cX6_backlog) (maxL := 2) (ret := (some .int)) (by decide) rfl ?_
  intro p e s m args below meth c s₁ B hml hv
  obtain ⟨rfl, hP, hK, hN⟩ := hv
  have hx := B.exec
  have hb := B.bytes
  have hr := B.returns
  have hts := atoms_spec (ws := wsX6_backlog) B.pre
  have hown : s.vm.findClass RX6 = some m.cls := findClass_of_methodNamed B.named
  have hlocks := B.notSynchronized
  have hA : ∀ q, AA ad q → AA ad q := fun _ h => h
  have hS : va_S (AA ad) s.heap s.heap [] := va_S.rf
  have hinX6 : ∀ w ∈ wsX60, w ∈ wsX6_backlog := (fun _ h => List.mem_cons_of_mem _ (List.mem_append_left _ (List.mem_append_left _ (List.mem_append_left _ (List.mem_append_left _ (List.mem_append_right _ h))))))
  have hl := lv_entry ([.ref (ad 0), .int a1]) (n := 2) (Nat.le_of_ble_eq_true rfl)
  rw [lg_entry_eq]
  generalize (lg_sl ([.ref (ad 0), .int a1]) ++ List.replicate (2 - (lg_sl ([.ref (ad 0), .int a1])).length) Slot.unset).toArray = ls at hl ⊢
  have hl : lv_has ls 2 [(0, .ref (ad 0)), (1, .int a1)] := hl
  unfold F_X6_backlog at hf
  refine lv_iload_n hx hb dX6_backlog_0 rfl (lv_at hl 1 rfl) ?_
  obtain ⟨r8, m9, hq, hf⟩ := ob_e hf
  refine w_ci (va_runS (As := [.int a1]) (rest := []) ⟨hx, hb, hml, hown, hts⟩ (c_X6_isKind l D ad cI cR hi fu a1 mm r8 m9 hq) (va_cwS 1 hts gX6_backlog_X6_isKind rfl rfl rfl (by decide +kernel) ⟨Nat.le_of_ble_eq_true rfl, Nat.le_of_ble_eq_true rfl⟩) (w_preS hK hP hN) rfl rfl hl.1 rfl (lv_room (Nat.le_of_ble_eq_true rfl)) dX6_backlog_1 ⟨Nat.zero_le _, Nat.zero_le _⟩) hA hS (fun H locs hP hS => ?_)
  refine lv_if_eq (tgt := 25) hx hb dX6_backlog_4 (by decide) (fun c10 => ?_) (fun c10 => ?_)
  · rw [if_pos c10] at hf
    refine lv_ldc (v := (-100001)) hx hb hown (hts (.constant RX6 37 (-100001)) (List.mem_of_getElem? (i := 2) rfl)) dX6_backlog_25 ?_
    cases hf
    exact w_iret hx hb hr hlocks hP hS dX6_backlog_27
  · rw [if_neg c10] at hf
    refine lv_aload_n hx hb dX6_backlog_7 rfl (lv_at hl 0 rfl) ?_
    refine w_get (C := RX6) (T := TX6) (N := 4) (ci := 6) (v := .ref (ad 1)) hx hb hts hinX6 hown hK hP (S_ac ad cI cR).1 (S_ac ad cI cR).2 rfl 0 (by decide) (hts (.fieldLink RX6 10 "AdmissionControl" "server" "LAdmissionControl$Server;") (List.mem_of_getElem? (i := 1) rfl)) (fun _ h9 => h9) rfl dX6_backlog_8 ?_
    refine lv_aload_n hx hb dX6_backlog_11 rfl (lv_at hl 0 rfl) ?_
    refine w_get (C := RX6) (T := TX6) (N := 4) (ci := 6) (v := .ref (ad 1)) hx hb hts hinX6 hown hK hP (S_ac ad cI cR).1 (S_ac ad cI cR).2 rfl 0 (by decide) (hts (.fieldLink RX6 10 "AdmissionControl" "server" "LAdmissionControl$Server;") (List.mem_of_getElem? (i := 1) rfl)) (fun _ h9 => h9) rfl dX6_backlog_12 ?_
    refine lv_iload_n hx hb dX6_backlog_15 rfl (lv_at hl 1 rfl) ?_
    rcases oq_e hf with ⟨m12, hq, hf⟩ | ⟨o11, m12, hq, hf⟩
    · refine w_cqN (va_runV (As := [.int a1]) (rest := [.ref (ad 1)]) ⟨hx, hb, hml, hown, hts⟩ (c_X4_lane l D ad cI cR hi fu 1 a1 (S_srv1 ad cI cR) m9 none m12 hq) (cwV 1 hts gX6_backlog_X4_lane rfl rfl rfl (by decide +kernel) ⟨Nat.le_of_ble_eq_true rfl, Nat.le_of_ble_eq_true rfl⟩) (w_preV (ci := 4) hK hP hN (S_srv1 ad cI cR).1 (S_srv1 ad cI cR).2.1 rfl) rfl rfl hl.1 rfl (lv_room (Nat.le_of_ble_eq_true rfl)) dX6_backlog_16 ⟨Nat.zero_le _, Nat.zero_le _⟩) hA hS (fun H locs hP hS => ?_)
      cases hf
    · have ho11 := (t_X4_lane ad cI cR fu 1 a1 (S_srv1 ad cI cR) m9 o11 m12 hq)
      refine w_cqS (va_runV (As := [.int a1]) (rest := [.ref (ad 1)]) ⟨hx, hb, hml, hown, hts⟩ (c_X4_lane l D ad cI cR hi fu 1 a1 (S_srv1 ad cI cR) m9 (some o11) m12 hq) (cwV 1 hts gX6_backlog_X4_lane rfl rfl rfl (by decide +kernel) ⟨Nat.le_of_ble_eq_true rfl, Nat.le_of_ble_eq_true rfl⟩) (w_preV (ci := 4) hK hP hN (S_srv1 ad cI cR).1 (S_srv1 ad cI cR).2.1 rfl) rfl rfl hl.1 rfl (lv_room (Nat.le_of_ble_eq_true rfl)) dX6_backlog_16 ⟨Nat.zero_le _, Nat.zero_le _⟩) hA hS (fun H locs hP hS => ?_)
      obtain ⟨r13, m14, hq, hf⟩ := ob_e hf
      refine w_ci (va_runV (As := [.ref (ad o11)]) (rest := []) ⟨hx, hb, hml, hown, hts⟩ (c_X4_backlogOf l D ad cI cR hi fu 1 o11 (S_srv1 ad cI cR) ho11 m12 r13 m14 hq) (cwV 1 hts gX6_backlog_X4_backlogOf rfl rfl rfl (by decide +kernel) ⟨Nat.le_of_ble_eq_true rfl, Nat.le_of_ble_eq_true rfl⟩) (w_preV (ci := 4) hK hP hN (S_srv1 ad cI cR).1 (S_srv1 ad cI cR).2.1 rfl) rfl rfl hl.1 rfl (lv_room (Nat.le_of_ble_eq_true rfl)) dX6_backlog_19 ⟨Nat.zero_le _, Nat.zero_le _⟩) hA hS (fun H locs hP hS => ?_)
      refine lv_goto (tgt := 27) hx hb dX6_backlog_22 (by decide) ?_
      cases hf
      exact w_iret hx hb hr hlocks hP hS dX6_backlog_27
def F_X6_worked (fu : Nat) (a1 : Int32) (mm : Mem) : Option (Int32 × Mem) := ob (F_X6_isKind fu a1 mm) fun r6 m7 => if r6 = 0 then (some ((-100001), m7)) else (oq (F_X4_lane fu 1 a1 m7) (fun m10 => none) (fun o9 m10 => some ((m10 o9 6), m10)))
set_option maxHeartbeats 4000000 in
set_option maxRecDepth 100000 in
theorem c_X6_worked (l : Launch) (D : va_G) (ad : Nat → Nat) (cI cR : ClassId) (hi : inj ad) (fu : Nat) (a1 : Int32)  (mm : Mem) (r0 : Int32) (m9 : Mem) (hf : F_X6_worked fu a1 mm = some (r0, m9)) : MI l yX6_worked wsX6_worked { frames := 1, cells := 0, slots := 0, locals := 21 } D ad cI cR [.ref (ad 0), .int a1] mm r0 m9 := by
  refine Met.ofW (cc := cX6_worked) (maxL := 2) (ret := (some .int)) (by decide) rfl ?_
  intro p e s m args below meth c s₁ B hml hv
  obtain ⟨rfl, hP, hK, hN⟩ := hv
  have hx := B.exec
  have hb := B.bytes
  have hr := B.returns
  have hts := atoms_spec (ws := wsX6_worked) B.pre
  have hown : s.vm.findClass RX6 = some m.cls := findClass_of_methodNamed B.named
  have hlocks := B.notSynchronized
  have hA : ∀ q, AA ad q → AA ad q := fun _ h => h
  have hS : va_S (AA ad) s.heap s.heap [] := va_S.rf
  have hinX1 : ∀ w ∈ wsX10, w ∈ wsX6_worked := (fun _ h => List.mem_cons_of_mem _ (List.mem_append_left _ (List.mem_append_right _ h)))
  have hinX6 : ∀ w ∈ wsX60, w ∈ wsX6_worked := (fun _ h => List.mem_cons_of_mem _ (List.mem_append_left _ (List.mem_append_left _ (List.mem_append_right _ h))))
  have hl := lv_entry ([.ref (ad 0), .int a1]) (n := 2) (Nat.le_of_ble_eq_true rfl)
  rw [lg_entry_eq]
  generalize (lg_sl ([.ref (ad 0), .int a1]) ++ List.replicate (2 - (lg_sl ([.ref (ad 0), .int a1])).length) Slot.unset).toArray = ls at hl ⊢
  have hl : lv_has ls 2 [(0, .ref (ad 0)), (1, .int a1)] := hl
  unfold F_X6_worked at hf
  refine lv_iload_n hx hb dX6_worked_0 rfl (lv_at hl 1 rfl) ?_
  obtain ⟨r6, m7, hq, hf⟩ := ob_e hf
  refine w_ci (va_runS (As := [.int a1]) (rest := []) ⟨hx, hb, hml, hown, hts⟩ (c_X6_isKind l D ad cI cR hi fu a1 mm r6 m7 hq) (va_cwS 1 hts gX6_worked_X6_isKind rfl rfl rfl (by decide +kernel) ⟨Nat.le_of_ble_eq_true rfl, Nat.le_of_ble_eq_true rfl⟩) (w_preS hK hP hN) rfl rfl hl.1 rfl (lv_room (Nat.le_of_ble_eq_true rfl)) dX6_worked_1 ⟨Nat.zero_le _, Nat.zero_le _⟩) hA hS (fun H locs hP hS => ?_)
  refine lv_if_eq (tgt := 21) hx hb dX6_worked_4 (by decide) (fun c8 => ?_) (fun c8 => ?_)
  · rw [if_pos c8] at hf
    refine lv_ldc (v := (-100001)) hx hb hown (hts (.constant RX6 37 (-100001)) (List.mem_of_getElem? (i := 3) rfl)) dX6_worked_21 ?_
    cases hf
    exact w_iret hx hb hr hlocks hP hS dX6_worked_23
  · rw [if_neg c8] at hf
    refine lv_aload_n hx hb dX6_worked_7 rfl (lv_at hl 0 rfl) ?_
    refine w_get (C := RX6) (T := TX6) (N := 4) (ci := 6) (v := .ref (ad 1)) hx hb hts hinX6 hown hK hP (S_ac ad cI cR).1 (S_ac ad cI cR).2 rfl 0 (by decide) (hts (.fieldLink RX6 10 "AdmissionControl" "server" "LAdmissionControl$Server;") (List.mem_of_getElem? (i := 1) rfl)) (fun _ h9 => h9) rfl dX6_worked_8 ?_
    refine lv_iload_n hx hb dX6_worked_11 rfl (lv_at hl 1 rfl) ?_
    rcases oq_e hf with ⟨m10, hq, hf⟩ | ⟨o9, m10, hq, hf⟩
    · refine w_cqN (va_runV (As := [.int a1]) (rest := []) ⟨hx, hb, hml, hown, hts⟩ (c_X4_lane l D ad cI cR hi fu 1 a1 (S_srv1 ad cI cR) m7 none m10 hq) (cwV 1 hts gX6_worked_X4_lane rfl rfl rfl (by decide +kernel) ⟨Nat.le_of_ble_eq_true rfl, Nat.le_of_ble_eq_true rfl⟩) (w_preV (ci := 4) hK hP hN (S_srv1 ad cI cR).1 (S_srv1 ad cI cR).2.1 rfl) rfl rfl hl.1 rfl (lv_room (Nat.le_of_ble_eq_true rfl)) dX6_worked_12 ⟨Nat.zero_le _, Nat.zero_le _⟩) hA hS (fun H locs hP hS => ?_)
      cases hf
    · have ho9 := (t_X4_lane ad cI cR fu 1 a1 (S_srv1 ad cI cR) m7 o9 m10 hq)
      refine w_cqS (va_runV (As := [.int a1]) (rest := []) ⟨hx, hb, hml, hown, hts⟩ (c_X4_lane l D ad cI cR hi fu 1 a1 (S_srv1 ad cI cR) m7 (some o9) m10 hq) (cwV 1 hts gX6_worked_X4_lane rfl rfl rfl (by decide +kernel) ⟨Nat.le_of_ble_eq_true rfl, Nat.le_of_ble_eq_true rfl⟩) (w_preV (ci := 4) hK hP hN (S_srv1 ad cI cR).1 (S_srv1 ad cI cR).2.1 rfl) rfl rfl hl.1 rfl (lv_room (Nat.le_of_ble_eq_true rfl)) dX6_worked_12 ⟨Nat.zero_le _, Nat.zero_le _⟩) hA hS (fun H locs hP hS => ?_)
      refine w_get (C := RX1) (T := TX1) (N := 7) (ci := 1) (v := .int (m10 o9 6)) hx hb hts hinX1 hown hK hP ho9.1 ho9.2.1 rfl 6 (by decide) (hts (.fieldLink RX6 137 "AdmissionControl$Lane" "units" "I") (List.mem_of_getElem? (i := 2) rfl)) (fun _ h9 => h9) rfl dX6_worked_15 ?_
      refine lv_goto (tgt := 23) hx hb dX6_worked_18 (by decide) ?_
      cases hf
      exact w_iret hx hb hr hlocks hP hS dX6_worked_23
def F_X6_refused (fu : Nat) (a1 : Int32) (a2 : Int32) (mm : Mem) : Option (Int32 × Mem) := ob (F_X6_isKind fu a1 mm) fun r10 m11 => if r10 = 0 then (some ((-100001), m11)) else (if a2 < 1 then (some ((-100001), m11)) else (if a2 ≤ 5 then (oq (F_X4_lane fu 1 a1 m11) (fun m16 => none) (fun o15 m16 => ob (F_X3_at fu (o15 + 3) 6 a2 m16) fun r17 m18 => some (r17, m18))) else (some ((-100001), m11))))
set_option maxHeartbeats 4000000 in
set_option maxRecDepth 100000 in
theorem c_X6_refused (l : Launch) (D : va_G) (ad : Nat → Nat) (cI cR : ClassId) (hi : inj ad) (fu : Nat) (a1 : Int32) (a2 : Int32)  (mm : Mem) (r0 : Int32) (m9 : Mem) (hf : F_X6_refused fu a1 a2 mm = some (r0, m9)) : MI l yX6_refused wsX6_refused { frames := 1, cells := 0, slots := 0, locals := 21 } D ad cI cR [.ref (ad 0), .int a1, .int a2] mm r0 m9 := by
  refine Met.ofW (cc := cX6_refused) (maxL := 3) (ret := (some .int)) (by decide) rfl ?_
  intro p e s m args below meth c s₁ B hml hv
  obtain ⟨rfl, hP, hK, hN⟩ := hv
  have hx := B.exec
  have hb := B.bytes
  have hr := B.returns
  have hts := atoms_spec (ws := wsX6_refused) B.pre
  have hown : s.vm.findClass RX6 = some m.cls := findClass_of_methodNamed B.named
  have hlocks := B.notSynchronized
  have hA : ∀ q, AA ad q → AA ad q := fun _ h => h
  have hS : va_S (AA ad) s.heap s.heap [] := va_S.rf
  have hinX1 : ∀ w ∈ wsX10, w ∈ wsX6_refused := (fun _ h => List.mem_cons_of_mem _ (List.mem_append_left _ (List.mem_append_left _ (List.mem_append_right _ h))))
  have hinX6 : ∀ w ∈ wsX60, w ∈ wsX6_refused := (fun _ h => List.mem_cons_of_mem _ (List.mem_append_left _ (List.mem_append_left _ (List.mem_append_left _ (List.mem_append_right _ h)))))
  have hl := lv_entry ([.ref (ad 0), .int a1, .int a2]) (n := 3) (Nat.le_of_ble_eq_true rfl)
  rw [lg_entry_eq]
  generalize (lg_sl ([.ref (ad 0), .int a1, .int a2]) ++ List.replicate (3 - (lg_sl ([.ref (ad 0), .int a1, .int a2])).length) Slot.unset).toArray = ls at hl ⊢
  have hl : lv_has ls 3 [(0, .ref (ad 0)), (1, .int a1), (2, .int a2)] := hl
  unfold F_X6_refused at hf
  refine lv_iload_n hx hb dX6_refused_0 rfl (lv_at hl 1 rfl) ?_
  obtain ⟨r10, m11, hq, hf⟩ := ob_e hf
  refine w_ci (va_runS (As := [.int a1]) (rest := []) ⟨hx, hb, hml, hown, hts⟩ (c_X6_isKind l D ad cI cR hi fu a1 mm r10 m11 hq) (va_cwS 1 hts gX6_refused_X6_isKind rfl rfl rfl (by decide +kernel) ⟨Nat.le_of_ble_eq_true rfl, Nat.le_of_ble_eq_true rfl⟩) (w_preS hK hP hN) rfl rfl hl.1 rfl (lv_room (Nat.le_of_ble_eq_true rfl)) dX6_refused_1 ⟨Nat.zero_le _, Nat.zero_le _⟩) hA hS (fun H locs hP hS => ?_)
  refine lv_if_eq (tgt := 17) hx hb dX6_refused_4 (by decide) (fun c12 => ?_) (fun c12 => ?_)
  · rw [if_pos c12] at hf
    refine lv_ldc (v := (-100001)) hx hb hown (hts (.constant RX6 37 (-100001)) (List.mem_of_getElem? (i := 1) rfl)) dX6_refused_17 ?_
    cases hf
    exact w_iret hx hb hr hlocks hP hS dX6_refused_19
  · rw [if_neg c12] at hf
    refine lv_iload_n hx hb dX6_refused_7 rfl (lv_at hl 2 rfl) ?_
    refine lv_iconst (v := 1) hx hb dX6_refused_8 (by decide) ?_
    refine lv_icmp_lt (tgt := 17) hx hb dX6_refused_9 (by decide) (fun c13 => ?_) (fun c13 => ?_)
    · rw [if_pos c13] at hf
      refine lv_ldc (v := (-100001)) hx hb hown (hts (.constant RX6 37 (-100001)) (List.mem_of_getElem? (i := 1) rfl)) dX6_refused_17 ?_
      cases hf
      exact w_iret hx hb hr hlocks hP hS dX6_refused_19
    · rw [if_neg c13] at hf
      refine lv_iload_n hx hb dX6_refused_12 rfl (lv_at hl 2 rfl) ?_
      refine lv_iconst (v := 5) hx hb dX6_refused_13 (by decide) ?_
      refine lv_icmp_le (tgt := 20) hx hb dX6_refused_14 (by decide) (fun c14 => ?_) (fun c14 => ?_)
      · rw [if_pos c14] at hf
        refine lv_aload_n hx hb dX6_refused_20 rfl (lv_at hl 0 rfl) ?_
        refine w_get (C := RX6) (T := TX6) (N := 4) (ci := 6) (v := .ref (ad 1)) hx hb hts hinX6 hown hK hP (S_ac ad cI cR).1 (S_ac ad cI cR).2 rfl 0 (by decide) (hts (.fieldLink RX6 10 "AdmissionControl" "server" "LAdmissionControl$Server;") (List.mem_of_getElem? (i := 2) rfl)) (fun _ h9 => h9) rfl dX6_refused_21 ?_
        refine lv_iload_n hx hb dX6_refused_24 rfl (lv_at hl 1 rfl) ?_
        rcases oq_e hf with ⟨m16, hq, hf⟩ | ⟨o15, m16, hq, hf⟩
        · refine w_cqN (va_runV (As := [.int a1]) (rest := []) ⟨hx, hb, hml, hown, hts⟩ (c_X4_lane l D ad cI cR hi fu 1 a1 (S_srv1 ad cI cR) m11 none m16 hq) (cwV 1 hts gX6_refused_X4_lane rfl rfl rfl (by decide +kernel) ⟨Nat.le_of_ble_eq_true rfl, Nat.le_of_ble_eq_true rfl⟩) (w_preV (ci := 4) hK hP hN (S_srv1 ad cI cR).1 (S_srv1 ad cI cR).2.1 rfl) rfl rfl hl.1 rfl (lv_room (Nat.le_of_ble_eq_true rfl)) dX6_refused_25 ⟨Nat.zero_le _, Nat.zero_le _⟩) hA hS (fun H locs hP hS => ?_)
          cases hf
        · have ho15 := (t_X4_lane ad cI cR fu 1 a1 (S_srv1 ad cI cR) m11 o15 m16 hq)
          refine w_cqS (va_runV (As := [.int a1]) (rest := []) ⟨hx, hb, hml, hown, hts⟩ (c_X4_lane l D ad cI cR hi fu 1 a1 (S_srv1 ad cI cR) m11 (some o15) m16 hq) (cwV 1 hts gX6_refused_X4_lane rfl rfl rfl (by decide +kernel) ⟨Nat.le_of_ble_eq_true rfl, Nat.le_of_ble_eq_true rfl⟩) (w_preV (ci := 4) hK hP hN (S_srv1 ad cI cR).1 (S_srv1 ad cI cR).2.1 rfl) rfl rfl hl.1 rfl (lv_room (Nat.le_of_ble_eq_true rfl)) dX6_refused_25 ⟨Nat.zero_le _, Nat.zero_le _⟩) hA hS (fun H locs hP hS => ?_)
          refine w_get (C := RX1) (T := TX1) (N := 7) (ci := 1) (v := .ref (ad (o15 + 3))) hx hb hts hinX1 hown hK hP ho15.1 ho15.2.1 rfl 1 (by decide) (hts (.fieldLink RX6 140 "AdmissionControl$Lane" "refusals" "LAdmissionControl$Row;") (List.mem_of_getElem? (i := 3) rfl)) (fun _ h9 => h9) rfl dX6_refused_28 ?_
          refine lv_iload_n hx hb dX6_refused_31 rfl (lv_at hl 2 rfl) ?_
          obtain ⟨r17, m18, hq, hf⟩ := ob_e hf
          refine w_ci (va_runV (As := [.int a2]) (rest := []) ⟨hx, hb, hml, hown, hts⟩ (c_X3_at l D ad cI cR hi fu (o15 + 3) 6 a2 ho15.2.2.2.1 m16 r17 m18 hq) (cwV 1 hts gX6_refused_X3_at rfl rfl rfl (by decide +kernel) ⟨Nat.le_of_ble_eq_true rfl, Nat.le_of_ble_eq_true rfl⟩) (w_preV (ci := 3) hK hP hN ho15.2.2.2.1.1 ho15.2.2.2.1.2.1 rfl) rfl rfl hl.1 rfl (lv_room (Nat.le_of_ble_eq_true rfl)) dX6_refused_32 ⟨Nat.zero_le _, Nat.zero_le _⟩) hA hS (fun H locs hP hS => ?_)
          cases hf
          exact w_iret hx hb hr hlocks hP hS dX6_refused_35
      · rw [if_neg c14] at hf
        refine lv_ldc (v := (-100001)) hx hb hown (hts (.constant RX6 37 (-100001)) (List.mem_of_getElem? (i := 1) rfl)) dX6_refused_17 ?_
        cases hf
        exact w_iret hx hb hr hlocks hP hS dX6_refused_19
def F_X6_idle (fu : Nat)  (mm : Mem) : Option (Int32 × Mem) := some ((mm 1 10), mm)
set_option maxHeartbeats 4000000 in
set_option maxRecDepth 100000 in
theorem c_X6_idle (l : Launch) (D : va_G) (ad : Nat → Nat) (cI cR : ClassId) (hi : inj ad) (fu : Nat)   (mm : Mem) (r0 : Int32) (m9 : Mem) (hf : F_X6_idle fu  mm = some (r0, m9)) : MI l yX6_idle wsX6_idle { frames := 0, cells := 0, slots := 0, locals := 0 } D ad cI cR [.ref (ad 0)] mm r0 m9 := by
  refine Met.ofW (cc := cX6_idle) (maxL := 1) (ret := (some .int)) (by decide) rfl ?_
  intro p e s m args below meth c s₁ B hml hv
  obtain ⟨rfl, hP, hK, hN⟩ := hv
  have hx := B.exec
  have hb := B.bytes
  have hr := B.returns
  have hts := atoms_spec (ws := wsX6_idle) B.pre
  have hown : s.vm.findClass RX6 = some m.cls := findClass_of_methodNamed B.named
  have hlocks := B.notSynchronized
  have hA : ∀ q, AA ad q → AA ad q := fun _ h => h
  have hS : va_S (AA ad) s.heap s.heap [] := va_S.rf
  have hinX4 : ∀ w ∈ wsX40, w ∈ wsX6_idle := (fun _ h => List.mem_cons_of_mem _ (List.mem_append_right _ h))
  have hinX6 : ∀ w ∈ wsX60, w ∈ wsX6_idle := (fun _ h => List.mem_cons_of_mem _ (List.mem_append_left _ (List.mem_append_right _ h)))
  have hl := lv_entry ([.ref (ad 0)]) (n := 1) (Nat.le_of_ble_eq_true rfl)
  rw [lg_entry_eq]
  generalize (lg_sl ([.ref (ad 0)]) ++ List.replicate (1 - (lg_sl ([.ref (ad 0)])).length) Slot.unset).toArray = ls at hl ⊢
  have hl : lv_has ls 1 [(0, .ref (ad 0))] := hl
  unfold F_X6_idle at hf
  refine lv_aload_n hx hb dX6_idle_0 rfl (lv_at hl 0 rfl) ?_
  refine w_get (C := RX6) (T := TX6) (N := 4) (ci := 6) (v := .ref (ad 1)) hx hb hts hinX6 hown hK hP (S_ac ad cI cR).1 (S_ac ad cI cR).2 rfl 0 (by decide) (hts (.fieldLink RX6 10 "AdmissionControl" "server" "LAdmissionControl$Server;") (List.mem_of_getElem? (i := 1) rfl)) (fun _ h9 => h9) rfl dX6_idle_1 ?_
  refine w_get (C := RX4) (T := TX4) (N := 11) (ci := 4) (v := .int (mm 1 10)) hx hb hts hinX4 hown hK hP (S_srv1 ad cI cR).1 (S_srv1 ad cI cR).2.1 rfl 10 (by decide) (hts (.fieldLink RX6 143 "AdmissionControl$Server" "idle" "I") (List.mem_of_getElem? (i := 2) rfl)) (fun _ h9 => h9) rfl dX6_idle_4 ?_
  cases hf
  exact w_iret hx hb hr hlocks hP hS dX6_idle_7
def F_X6_workShare (fu : Nat) (a1 : Int32) (mm : Mem) : Option (UInt32 × Mem) := ob (F_X6_isKind fu a1 mm) fun r15 m16 => if r15 = 0 then (some ((3212836864), m16)) else (oq (F_X4_lane fu 1 0 m16) (fun m19 => none) (fun o18 m19 => oq (F_X4_lane fu 1 1 m19) (fun m21 => none) (fun o20 m21 => bd ((m19 o18 6) + (m21 o20 6)) fun v22 => oq (F_X4_lane fu 1 2 m21) (fun m24 => none) (fun o23 m24 => bd (v22 + (m24 o23 6)) fun v25 => if v25 = 0 then (some (FP.fconst0, m24)) else (oq (F_X4_lane fu 1 a1 m24) (fun m28 => none) (fun o27 m28 => gd (nn32 (FP.fdiv (FP.i2f (m28 o27 6)) (FP.i2f v25))) (some ((FP.fdiv (FP.i2f (m28 o27 6)) (FP.i2f v25)), m28))))))))
set_option maxHeartbeats 4000000 in
set_option maxRecDepth 100000 in
theorem c_X6_workShare (l : Launch) (D : va_G) (ad : Nat → Nat) (cI cR : ClassId) (hi : inj ad) (fu : Nat) (a1 : Int32)  (mm : Mem) (r0 : UInt32) (m9 : Mem) (hf : F_X6_workShare fu a1 mm = some (r0, m9)) : MF l yX6_workShare wsX6_workShare { frames := 1, cells := 0, slots := 0, locals := 21 } D ad cI cR [.ref (ad 0), .int a1] mm r0 m9 := by
  refine Met.ofW (cc := cX6_workShare) (maxL := 3) (ret := (some .float)) (by decide) rfl ?_
  intro p e s m args below meth c s₁ B hml hv
  obtain ⟨rfl, hP, hK, hN⟩ := hv
  have hx := B.exec
  have hb := B.bytes
  have hr := B.returns
  have hts := atoms_spec (ws := wsX6_workShare) B.pre
  have hown : s.vm.findClass RX6 = some m.cls := findClass_of_methodNamed B.named
  have hlocks := B.notSynchronized
  have hA : ∀ q, AA ad q → AA ad q := fun _ h => h
  have hS : va_S (AA ad) s.heap s.heap [] := va_S.rf
  have hinX1 : ∀ w ∈ wsX10, w ∈ wsX6_workShare := (fun _ h => List.mem_cons_of_mem _ (List.mem_append_left _ (List.mem_append_right _ h)))
  have hinX6 : ∀ w ∈ wsX60, w ∈ wsX6_workShare := (fun _ h => List.mem_cons_of_mem _ (List.mem_append_left _ (List.mem_append_left _ (List.mem_append_right _ h))))
  have hl := lv_entry ([.ref (ad 0), .int a1]) (n := 3) (Nat.le_of_ble_eq_true rfl)
  rw [lg_entry_eq]
  generalize (lg_sl ([.ref (ad 0), .int a1]) ++ List.replicate (3 - (lg_sl ([.ref (ad 0), .int a1])).length) Slot.unset).toArray = ls at hl ⊢
  have hl : lv_has ls 3 [(0, .ref (ad 0)), (1, .int a1)] := hl
  unfold F_X6_workShare at hf
  refine lv_iload_n hx hb dX6_workShare_0 rfl (lv_at hl 1 rfl) ?_
  obtain ⟨r15, m16, hq, hf⟩ := ob_e hf
  refine w_ci (va_runS (As := [.int a1]) (rest := []) ⟨hx, hb, hml, hown, hts⟩ (c_X6_isKind l D ad cI cR hi fu a1 mm r15 m16 hq) (va_cwS 1 hts gX6_workShare_X6_isKind rfl rfl rfl (by decide +kernel) ⟨Nat.le_of_ble_eq_true rfl, Nat.le_of_ble_eq_true rfl⟩) (w_preS hK hP hN) rfl rfl hl.1 rfl (lv_room (Nat.le_of_ble_eq_true rfl)) dX6_workShare_1 ⟨Nat.zero_le _, Nat.zero_le _⟩) hA hS (fun H locs hP hS => ?_)
  refine lv_if_ne (tgt := 10) hx hb dX6_workShare_4 (by decide) (fun c17 => ?_) (fun c17 => ?_)
  · rw [if_neg c17] at hf
    refine lv_aload_n hx hb dX6_workShare_10 rfl (lv_at hl 0 rfl) ?_
    refine w_get (C := RX6) (T := TX6) (N := 4) (ci := 6) (v := .ref (ad 1)) hx hb hts hinX6 hown hK hP (S_ac ad cI cR).1 (S_ac ad cI cR).2 rfl 0 (by decide) (hts (.fieldLink RX6 10 "AdmissionControl" "server" "LAdmissionControl$Server;") (List.mem_of_getElem? (i := 2) rfl)) (fun _ h9 => h9) rfl dX6_workShare_11 ?_
    refine lv_iconst (v := 0) hx hb dX6_workShare_14 (by decide) ?_
    rcases oq_e hf with ⟨m19, hq, hf⟩ | ⟨o18, m19, hq, hf⟩
    · refine w_cqN (va_runV (As := [.int 0]) (rest := []) ⟨hx, hb, hml, hown, hts⟩ (c_X4_lane l D ad cI cR hi fu 1 0 (S_srv1 ad cI cR) m16 none m19 hq) (cwV 1 hts gX6_workShare_X4_lane rfl rfl rfl (by decide +kernel) ⟨Nat.le_of_ble_eq_true rfl, Nat.le_of_ble_eq_true rfl⟩) (w_preV (ci := 4) hK hP hN (S_srv1 ad cI cR).1 (S_srv1 ad cI cR).2.1 rfl) rfl rfl hl.1 rfl (lv_room (Nat.le_of_ble_eq_true rfl)) dX6_workShare_15 ⟨Nat.zero_le _, Nat.zero_le _⟩) hA hS (fun H locs hP hS => ?_)
      cases hf
    · have ho18 := (t_X4_lane ad cI cR fu 1 0 (S_srv1 ad cI cR) m16 o18 m19 hq)
      refine w_cqS (va_runV (As := [.int 0]) (rest := []) ⟨hx, hb, hml, hown, hts⟩ (c_X4_lane l D ad cI cR hi fu 1 0 (S_srv1 ad cI cR) m16 (some o18) m19 hq) (cwV 1 hts gX6_workShare_X4_lane rfl rfl rfl (by decide +kernel) ⟨Nat.le_of_ble_eq_true rfl, Nat.le_of_ble_eq_true rfl⟩) (w_preV (ci := 4) hK hP hN (S_srv1 ad cI cR).1 (S_srv1 ad cI cR).2.1 rfl) rfl rfl hl.1 rfl (lv_room (Nat.le_of_ble_eq_true rfl)) dX6_workShare_15 ⟨Nat.zero_le _, Nat.zero_le _⟩) hA hS (fun H locs hP hS => ?_)
      refine w_get (C := RX1) (T := TX1) (N := 7) (ci := 1) (v := .int (m19 o18 6)) hx hb hts hinX1 hown hK hP ho18.1 ho18.2.1 rfl 6 (by decide) (hts (.fieldLink RX6 137 "AdmissionControl$Lane" "units" "I") (List.mem_of_getElem? (i := 3) rfl)) (fun _ h9 => h9) rfl dX6_workShare_18 ?_
      refine lv_aload_n hx hb dX6_workShare_21 rfl (lv_at hl 0 rfl) ?_
      refine w_get (C := RX6) (T := TX6) (N := 4) (ci := 6) (v := .ref (ad 1)) hx hb hts hinX6 hown hK hP (S_ac ad cI cR).1 (S_ac ad cI cR).2 rfl 0 (by decide) (hts (.fieldLink RX6 10 "AdmissionControl" "server" "LAdmissionControl$Server;") (List.mem_of_getElem? (i := 2) rfl)) (fun _ h9 => h9) rfl dX6_workShare_22 ?_
      refine lv_iconst (v := 1) hx hb dX6_workShare_25 (by decide) ?_
      rcases oq_e hf with ⟨m21, hq, hf⟩ | ⟨o20, m21, hq, hf⟩
      · refine w_cqN (va_runV (As := [.int 1]) (rest := [.int (m19 o18 6)]) ⟨hx, hb, hml, hown, hts⟩ (c_X4_lane l D ad cI cR hi fu 1 1 (S_srv1 ad cI cR) m19 none m21 hq) (cwV 1 hts gX6_workShare_X4_lane rfl rfl rfl (by decide +kernel) ⟨Nat.le_of_ble_eq_true rfl, Nat.le_of_ble_eq_true rfl⟩) (w_preV (ci := 4) hK hP hN (S_srv1 ad cI cR).1 (S_srv1 ad cI cR).2.1 rfl) rfl rfl hl.1 rfl (lv_room (Nat.le_of_ble_eq_true rfl)) dX6_workShare_26 ⟨Nat.zero_le _, Nat.zero_le _⟩) hA hS (fun H locs hP hS => ?_)
        cases hf
      · have ho20 := (t_X4_lane ad cI cR fu 1 1 (S_srv1 ad cI cR) m19 o20 m21 hq)
        refine w_cqS (va_runV (As := [.int 1]) (rest := [.int (m19 o18 6)]) ⟨hx, hb, hml, hown, hts⟩ (c_X4_lane l D ad cI cR hi fu 1 1 (S_srv1 ad cI cR) m19 (some o20) m21 hq) (cwV 1 hts gX6_workShare_X4_lane rfl rfl rfl (by decide +kernel) ⟨Nat.le_of_ble_eq_true rfl, Nat.le_of_ble_eq_true rfl⟩) (w_preV (ci := 4) hK hP hN (S_srv1 ad cI cR).1 (S_srv1 ad cI cR).2.1 rfl) rfl rfl hl.1 rfl (lv_room (Nat.le_of_ble_eq_true rfl)) dX6_workShare_26 ⟨Nat.zero_le _, Nat.zero_le _⟩) hA hS (fun H locs hP hS => ?_)
        refine w_get (C := RX1) (T := TX1) (N := 7) (ci := 1) (v := .int (m21 o20 6)) hx hb hts hinX1 hown hK hP ho20.1 ho20.2.1 rfl 6 (by decide) (hts (.fieldLink RX6 137 "AdmissionControl$Lane" "units" "I") (List.mem_of_getElem? (i := 3) rfl)) (fun _ h9 => h9) rfl dX6_workShare_29 ?_
        obtain ⟨v22, ev22, hf⟩ := bd_e hf
        refine lv_iadd hx hb dX6_workShare_32 ?_
        refine w_top ev22 ?_
        refine lv_aload_n hx hb dX6_workShare_33 rfl (lv_at hl 0 rfl) ?_
        refine w_get (C := RX6) (T := TX6) (N := 4) (ci := 6) (v := .ref (ad 1)) hx hb hts hinX6 hown hK hP (S_ac ad cI cR).1 (S_ac ad cI cR).2 rfl 0 (by decide) (hts (.fieldLink RX6 10 "AdmissionControl" "server" "LAdmissionControl$Server;") (List.mem_of_getElem? (i := 2) rfl)) (fun _ h9 => h9) rfl dX6_workShare_34 ?_
        refine lv_iconst (v := 2) hx hb dX6_workShare_37 (by decide) ?_
        rcases oq_e hf with ⟨m24, hq, hf⟩ | ⟨o23, m24, hq, hf⟩
        · refine w_cqN (va_runV (As := [.int 2]) (rest := [.int v22]) ⟨hx, hb, hml, hown, hts⟩ (c_X4_lane l D ad cI cR hi fu 1 2 (S_srv1 ad cI cR) m21 none m24 hq) (cwV 1 hts gX6_workShare_X4_lane rfl rfl rfl (by decide +kernel) ⟨Nat.le_of_ble_eq_true rfl, Nat.le_of_ble_eq_true rfl⟩) (w_preV (ci := 4) hK hP hN (S_srv1 ad cI cR).1 (S_srv1 ad cI cR).2.1 rfl) rfl rfl hl.1 rfl (lv_room (Nat.le_of_ble_eq_true rfl)) dX6_workShare_38 ⟨Nat.zero_le _, Nat.zero_le _⟩) hA hS (fun H locs hP hS => ?_)
          cases hf
        · have ho23 := (t_X4_lane ad cI cR fu 1 2 (S_srv1 ad cI cR) m21 o23 m24 hq)
          refine w_cqS (va_runV (As := [.int 2]) (rest := [.int v22]) ⟨hx, hb, hml, hown, hts⟩ (c_X4_lane l D ad cI cR hi fu 1 2 (S_srv1 ad cI cR) m21 (some o23) m24 hq) (cwV 1 hts gX6_workShare_X4_lane rfl rfl rfl (by decide +kernel) ⟨Nat.le_of_ble_eq_true rfl, Nat.le_of_ble_eq_true rfl⟩) (w_preV (ci := 4) hK hP hN (S_srv1 ad cI cR).1 (S_srv1 ad cI cR).2.1 rfl) rfl rfl hl.1 rfl (lv_room (Nat.le_of_ble_eq_true rfl)) dX6_workShare_38 ⟨Nat.zero_le _, Nat.zero_le _⟩) hA hS (fun H locs hP hS => ?_)
          refine w_get (C := RX1) (T := TX1) (N := 7) (ci := 1) (v := .int (m24 o23 6)) hx hb hts hinX1 hown hK hP ho23.1 ho23.2.1 rfl 6 (by decide) (hts (.fieldLink RX6 137 "AdmissionControl$Lane" "units" "I") (List.mem_of_getElem? (i := 3) rfl)) (fun _ h9 => h9) rfl dX6_workShare_41 ?_
          obtain ⟨v25, ev25, hf⟩ := bd_e hf
          refine lv_iadd hx hb dX6_workShare_44 ?_
          refine w_top ev25 ?_
          refine lv_istore_n (lv' := [(2, .int v25), (0, .ref (ad 0)), (1, .int a1)]) hx hb dX6_workShare_45 rfl hl (by decide) rfl (fun ls hl => ?_)
          refine lv_iload_n hx hb dX6_workShare_46 rfl (lv_at hl 0 rfl) ?_
          refine lv_if_ne (tgt := 52) hx hb dX6_workShare_47 (by decide) (fun c26 => ?_) (fun c26 => ?_)
          · rw [if_neg c26] at hf
            refine lv_aload_n hx hb dX6_workShare_52 rfl (lv_at hl 1 rfl) ?_
            refine w_get (C := RX6) (T := TX6) (N := 4) (ci := 6) (v := .ref (ad 1)) hx hb hts hinX6 hown hK hP (S_ac ad cI cR).1 (S_ac ad cI cR).2 rfl 0 (by decide) (hts (.fieldLink RX6 10 "AdmissionControl" "server" "LAdmissionControl$Server;") (List.mem_of_getElem? (i := 2) rfl)) (fun _ h9 => h9) rfl dX6_workShare_53 ?_
            refine lv_iload_n hx hb dX6_workShare_56 rfl (lv_at hl 2 rfl) ?_
            rcases oq_e hf with ⟨m28, hq, hf⟩ | ⟨o27, m28, hq, hf⟩
            · refine w_cqN (va_runV (As := [.int a1]) (rest := []) ⟨hx, hb, hml, hown, hts⟩ (c_X4_lane l D ad cI cR hi fu 1 a1 (S_srv1 ad cI cR) m24 none m28 hq) (cwV 1 hts gX6_workShare_X4_lane rfl rfl rfl (by decide +kernel) ⟨Nat.le_of_ble_eq_true rfl, Nat.le_of_ble_eq_true rfl⟩) (w_preV (ci := 4) hK hP hN (S_srv1 ad cI cR).1 (S_srv1 ad cI cR).2.1 rfl) rfl rfl hl.1 rfl (lv_room (Nat.le_of_ble_eq_true rfl)) dX6_workShare_57 ⟨Nat.zero_le _, Nat.zero_le _⟩) hA hS (fun H locs hP hS => ?_)
              cases hf
            · have ho27 := (t_X4_lane ad cI cR fu 1 a1 (S_srv1 ad cI cR) m24 o27 m28 hq)
              refine w_cqS (va_runV (As := [.int a1]) (rest := []) ⟨hx, hb, hml, hown, hts⟩ (c_X4_lane l D ad cI cR hi fu 1 a1 (S_srv1 ad cI cR) m24 (some o27) m28 hq) (cwV 1 hts gX6_workShare_X4_lane rfl rfl rfl (by decide +kernel) ⟨Nat.le_of_ble_eq_true rfl, Nat.le_of_ble_eq_true rfl⟩) (w_preV (ci := 4) hK hP hN (S_srv1 ad cI cR).1 (S_srv1 ad cI cR).2.1 rfl) rfl rfl hl.1 rfl (lv_room (Nat.le_of_ble_eq_true rfl)) dX6_workShare_57 ⟨Nat.zero_le _, Nat.zero_le _⟩) hA hS (fun H locs hP hS => ?_)
              refine w_get (C := RX1) (T := TX1) (N := 7) (ci := 1) (v := .int (m28 o27 6)) hx hb hts hinX1 hown hK hP ho27.1 ho27.2.1 rfl 6 (by decide) (hts (.fieldLink RX6 137 "AdmissionControl$Lane" "units" "I") (List.mem_of_getElem? (i := 3) rfl)) (fun _ h9 => h9) rfl dX6_workShare_60 ?_
              refine lv_i2f hx hb dX6_workShare_63 ?_
              refine lv_iload_n hx hb dX6_workShare_64 rfl (lv_at hl 0 rfl) ?_
              refine lv_i2f hx hb dX6_workShare_65 ?_
              obtain ⟨hn32, hf⟩ := gd_e hf
              refine lv_fdiv hx hb dX6_workShare_66 (nn32_v hn32) ?_
              cases hf
              exact w_fret hx hb hr hlocks hP hS dX6_workShare_67
          · rw [if_pos c26] at hf
            refine lv_fconst0 hx hb dX6_workShare_50 ?_
            cases hf
            exact w_fret hx hb hr hlocks hP hS dX6_workShare_51
  · rw [if_pos c17] at hf
    refine lv_ldcf (v := (3212836864)) hx hb hown (hts (.constantFloat RX6 146 (3212836864)) (List.mem_of_getElem? (i := 1) rfl)) dX6_workShare_7 ?_
    cases hf
    exact w_fret hx hb hr hlocks hP hS dX6_workShare_9
def F_X6_requests (fu : Nat)  (mm : Mem) : Option (Int32 × Mem) := some ((mm 1 6), mm)
set_option maxHeartbeats 4000000 in
set_option maxRecDepth 100000 in
theorem c_X6_requests (l : Launch) (D : va_G) (ad : Nat → Nat) (cI cR : ClassId) (hi : inj ad) (fu : Nat)   (mm : Mem) (r0 : Int32) (m9 : Mem) (hf : F_X6_requests fu  mm = some (r0, m9)) : MI l yX6_requests wsX6_requests { frames := 0, cells := 0, slots := 0, locals := 0 } D ad cI cR [.ref (ad 0)] mm r0 m9 := by
  refine Met.ofW (cc := cX6_requests) (maxL := 1) (ret := (some .int)) (by decide) rfl ?_
  intro p e s m args below meth c s₁ B hml hv
  obtain ⟨rfl, hP, hK, hN⟩ := hv
  have hx := B.exec
  have hb := B.bytes
  have hr := B.returns
  have hts := atoms_spec (ws := wsX6_requests) B.pre
  have hown : s.vm.findClass RX6 = some m.cls := findClass_of_methodNamed B.named
  have hlocks := B.notSynchronized
  have hA : ∀ q, AA ad q → AA ad q := fun _ h => h
  have hS : va_S (AA ad) s.heap s.heap [] := va_S.rf
  have hinX4 : ∀ w ∈ wsX40, w ∈ wsX6_requests := (fun _ h => List.mem_cons_of_mem _ (List.mem_append_right _ h))
  have hinX6 : ∀ w ∈ wsX60, w ∈ wsX6_requests := (fun _ h => List.mem_cons_of_mem _ (List.mem_append_left _ (List.mem_append_right _ h)))
  have hl := lv_entry ([.ref (ad 0)]) (n := 1) (Nat.le_of_ble_eq_true rfl)
  rw [lg_entry_eq]
  generalize (lg_sl ([.ref (ad 0)]) ++ List.replicate (1 - (lg_sl ([.ref (ad 0)])).length) Slot.unset).toArray = ls at hl ⊢
  have hl : lv_has ls 1 [(0, .ref (ad 0))] := hl
  unfold F_X6_requests at hf
  refine lv_aload_n hx hb dX6_requests_0 rfl (lv_at hl 0 rfl) ?_
  refine w_get (C := RX6) (T := TX6) (N := 4) (ci := 6) (v := .ref (ad 1)) hx hb hts hinX6 hown hK hP (S_ac ad cI cR).1 (S_ac ad cI cR).2 rfl 0 (by decide) (hts (.fieldLink RX6 10 "AdmissionControl" "server" "LAdmissionControl$Server;") (List.mem_of_getElem? (i := 1) rfl)) (fun _ h9 => h9) rfl dX6_requests_1 ?_
  refine w_get (C := RX4) (T := TX4) (N := 11) (ci := 4) (v := .int (mm 1 6)) hx hb hts hinX4 hown hK hP (S_srv1 ad cI cR).1 (S_srv1 ad cI cR).2.1 rfl 6 (by decide) (hts (.fieldLink RX6 147 "AdmissionControl$Server" "count" "I") (List.mem_of_getElem? (i := 2) rfl)) (fun _ h9 => h9) rfl dX6_requests_4 ?_
  cases hf
  exact w_iret hx hb hr hlocks hP hS dX6_requests_7
def F_X6_state (fu : Nat) (a1 : Int32) (mm : Mem) : Option (Int32 × Mem) := oq (F_X4_find fu 1 a1 mm) (fun m4 => some ((-100001), m4)) (fun o3 m4 => some ((m4 o3 4), m4))
set_option maxHeartbeats 4000000 in
set_option maxRecDepth 100000 in
theorem c_X6_state (l : Launch) (D : va_G) (ad : Nat → Nat) (cI cR : ClassId) (hi : inj ad) (fu : Nat) (a1 : Int32)  (mm : Mem) (r0 : Int32) (m9 : Mem) (hf : F_X6_state fu a1 mm = some (r0, m9)) : MI l yX6_state wsX6_state { frames := 1, cells := 0, slots := 0, locals := 21 } D ad cI cR [.ref (ad 0), .int a1] mm r0 m9 := by
  refine Met.ofW (cc := cX6_state) (maxL := 3) (ret := (some .int)) (by decide) rfl ?_
  intro p e s m args below meth c s₁ B hml hv
  obtain ⟨rfl, hP, hK, hN⟩ := hv
  have hx := B.exec
  have hb := B.bytes
  have hr := B.returns
  have hts := atoms_spec (ws := wsX6_state) B.pre
  have hown : s.vm.findClass RX6 = some m.cls := findClass_of_methodNamed B.named
  have hlocks := B.notSynchronized
  have hA : ∀ q, AA ad q → AA ad q := fun _ h => h
  have hS : va_S (AA ad) s.heap s.heap [] := va_S.rf
  have hinX2 : ∀ w ∈ wsX20, w ∈ wsX6_state := (fun _ h => List.mem_cons_of_mem _ (List.mem_append_left _ (List.mem_append_right _ h)))
  have hinX6 : ∀ w ∈ wsX60, w ∈ wsX6_state := (fun _ h => List.mem_cons_of_mem _ (List.mem_append_left _ (List.mem_append_left _ (List.mem_append_right _ h))))
  have hl := lv_entry ([.ref (ad 0), .int a1]) (n := 3) (Nat.le_of_ble_eq_true rfl)
  rw [lg_entry_eq]
  generalize (lg_sl ([.ref (ad 0), .int a1]) ++ List.replicate (3 - (lg_sl ([.ref (ad 0), .int a1])).length) Slot.unset).toArray = ls at hl ⊢
  have hl : lv_has ls 3 [(0, .ref (ad 0)), (1, .int a1)] := hl
  unfold F_X6_state at hf
  refine lv_aload_n hx hb dX6_state_0 rfl (lv_at hl 0 rfl) ?_
  refine w_get (C := RX6) (T := TX6) (N := 4) (ci := 6) (v := .ref (ad 1)) hx hb hts hinX6 hown hK hP (S_ac ad cI cR).1 (S_ac ad cI cR).2 rfl 0 (by decide) (hts (.fieldLink RX6 10 "AdmissionControl" "server" "LAdmissionControl$Server;") (List.mem_of_getElem? (i := 1) rfl)) (fun _ h9 => h9) rfl dX6_state_1 ?_
  refine lv_iload_n hx hb dX6_state_4 rfl (lv_at hl 1 rfl) ?_
  rcases oq_e hf with ⟨m4, hq, hf⟩ | ⟨o3, m4, hq, hf⟩
  · refine w_cqN (va_runV (As := [.int a1]) (rest := []) ⟨hx, hb, hml, hown, hts⟩ (c_X4_find l D ad cI cR hi fu 1 a1 (S_srv1 ad cI cR) mm none m4 hq) (cwV 1 hts gX6_state_X4_find rfl rfl rfl (by decide +kernel) ⟨Nat.le_of_ble_eq_true rfl, Nat.le_of_ble_eq_true rfl⟩) (w_preV (ci := 4) hK hP hN (S_srv1 ad cI cR).1 (S_srv1 ad cI cR).2.1 rfl) rfl rfl hl.1 rfl (lv_room (Nat.le_of_ble_eq_true rfl)) dX6_state_5 ⟨Nat.zero_le _, Nat.zero_le _⟩) hA hS (fun H locs hP hS => ?_)
    refine lv_astore_nN (lv' := [(2, .null), (0, .ref (ad 0)), (1, .int a1)]) hx hb dX6_state_8 rfl hl (by decide) rfl (fun ls hl => ?_)
    refine lv_aload_nN hx hb dX6_state_9 rfl (lv_at hl 0 rfl) ?_
    refine lv_ifnonnullN hx hb dX6_state_10 ?_
    refine lv_ldc (v := (-100001)) hx hb hown (hts (.constant RX6 37 (-100001)) (List.mem_of_getElem? (i := 2) rfl)) dX6_state_13 ?_
    refine lv_goto (tgt := 22) hx hb dX6_state_15 (by decide) ?_
    cases hf
    exact w_iret hx hb hr hlocks hP hS dX6_state_22
  · have ho3 := (t_X4_find ad cI cR fu 1 a1 (S_srv1 ad cI cR) mm o3 m4 hq)
    refine w_cqS (va_runV (As := [.int a1]) (rest := []) ⟨hx, hb, hml, hown, hts⟩ (c_X4_find l D ad cI cR hi fu 1 a1 (S_srv1 ad cI cR) mm (some o3) m4 hq) (cwV 1 hts gX6_state_X4_find rfl rfl rfl (by decide +kernel) ⟨Nat.le_of_ble_eq_true rfl, Nat.le_of_ble_eq_true rfl⟩) (w_preV (ci := 4) hK hP hN (S_srv1 ad cI cR).1 (S_srv1 ad cI cR).2.1 rfl) rfl rfl hl.1 rfl (lv_room (Nat.le_of_ble_eq_true rfl)) dX6_state_5 ⟨Nat.zero_le _, Nat.zero_le _⟩) hA hS (fun H locs hP hS => ?_)
    refine lv_astore_n (lv' := [(2, .ref (ad o3)), (0, .ref (ad 0)), (1, .int a1)]) hx hb dX6_state_8 rfl hl (by decide) rfl (fun ls hl => ?_)
    refine lv_aload_n hx hb dX6_state_9 rfl (lv_at hl 0 rfl) ?_
    refine lv_ifnonnull (tgt := 18) hx hb dX6_state_10 (by decide) ?_
    refine lv_aload_n hx hb dX6_state_18 rfl (lv_at hl 0 rfl) ?_
    refine w_get (C := RX2) (T := TX2) (N := 11) (ci := 2) (v := .int (m4 o3 4)) hx hb hts hinX2 hown hK hP ho3.1 ho3.2 rfl 4 (by decide) (hts (.fieldLink RX6 154 "AdmissionControl$Request" "state" "I") (List.mem_of_getElem? (i := 3) rfl)) (fun _ h9 => h9) rfl dX6_state_19 ?_
    cases hf
    exact w_iret hx hb hr hlocks hP hS dX6_state_22
def F_X6_price (fu : Nat) (a1 : Int32) (mm : Mem) : Option (Int32 × Mem) := oq (F_X4_find fu 1 a1 mm) (fun m4 => some ((-100001), m4)) (fun o3 m4 => some ((m4 o3 5), m4))
set_option maxHeartbeats 4000000 in
set_option maxRecDepth 100000 in
theorem c_X6_price (l : Launch) (D : va_G) (ad : Nat → Nat) (cI cR : ClassId) (hi : inj ad) (fu : Nat) (a1 : Int32)  (mm : Mem) (r0 : Int32) (m9 : Mem) (hf : F_X6_price fu a1 mm = some (r0, m9)) : MI l yX6_price wsX6_price { frames := 1, cells := 0, slots := 0, locals := 21 } D ad cI cR [.ref (ad 0), .int a1] mm r0 m9 := by
  refine Met.ofW (cc := cX6_price) (maxL := 3) (ret := (some .int)) (by decide) rfl ?_
  intro p e s m args below meth c s₁ B hml hv
  obtain ⟨rfl, hP, hK, hN⟩ := hv
  have hx := B.exec
  have hb := B.bytes
  have hr := B.returns
  have hts := atoms_spec (ws := wsX6_price) B.pre
  have hown : s.vm.findClass RX6 = some m.cls := findClass_of_methodNamed B.named
  have hlocks := B.notSynchronized
  have hA : ∀ q, AA ad q → AA ad q := fun _ h => h
  have hS : va_S (AA ad) s.heap s.heap [] := va_S.rf
  have hinX2 : ∀ w ∈ wsX20, w ∈ wsX6_price := (fun _ h => List.mem_cons_of_mem _ (List.mem_append_left _ (List.mem_append_right _ h)))
  have hinX6 : ∀ w ∈ wsX60, w ∈ wsX6_price := (fun _ h => List.mem_cons_of_mem _ (List.mem_append_left _ (List.mem_append_left _ (List.mem_append_right _ h))))
  have hl := lv_entry ([.ref (ad 0), .int a1]) (n := 3) (Nat.le_of_ble_eq_true rfl)
  rw [lg_entry_eq]
  generalize (lg_sl ([.ref (ad 0), .int a1]) ++ List.replicate (3 - (lg_sl ([.ref (ad 0), .int a1])).length) Slot.unset).toArray = ls at hl ⊢
  have hl : lv_has ls 3 [(0, .ref (ad 0)), (1, .int a1)] := hl
  unfold F_X6_price at hf
  refine lv_aload_n hx hb dX6_price_0 rfl (lv_at hl 0 rfl) ?_
  refine w_get (C := RX6) (T := TX6) (N := 4) (ci := 6) (v := .ref (ad 1)) hx hb hts hinX6 hown hK hP (S_ac ad cI cR).1 (S_ac ad cI cR).2 rfl 0 (by decide) (hts (.fieldLink RX6 10 "AdmissionControl" "server" "LAdmissionControl$Server;") (List.mem_of_getElem? (i := 1) rfl)) (fun _ h9 => h9) rfl dX6_price_1 ?_
  refine lv_iload_n hx hb dX6_price_4 rfl (lv_at hl 1 rfl) ?_
  rcases oq_e hf with ⟨m4, hq, hf⟩ | ⟨o3, m4, hq, hf⟩
  · refine w_cqN (va_runV (As := [.int a1]) (rest := []) ⟨hx, hb, hml, hown, hts⟩ (c_X4_find l D ad cI cR hi fu 1 a1 (S_srv1 ad cI cR) mm none m4 hq) (cwV 1 hts gX6_price_X4_find rfl rfl rfl (by decide +kernel) ⟨Nat.le_of_ble_eq_true rfl, Nat.le_of_ble_eq_true rfl⟩) (w_preV (ci := 4) hK hP hN (S_srv1 ad cI cR).1 (S_srv1 ad cI cR).2.1 rfl) rfl rfl hl.1 rfl (lv_room (Nat.le_of_ble_eq_true rfl)) dX6_price_5 ⟨Nat.zero_le _, Nat.zero_le _⟩) hA hS (fun H locs hP hS => ?_)
    refine lv_astore_nN (lv' := [(2, .null), (0, .ref (ad 0)), (1, .int a1)]) hx hb dX6_price_8 rfl hl (by decide) rfl (fun ls hl => ?_)
    refine lv_aload_nN hx hb dX6_price_9 rfl (lv_at hl 0 rfl) ?_
    refine lv_ifnonnullN hx hb dX6_price_10 ?_
    refine lv_ldc (v := (-100001)) hx hb hown (hts (.constant RX6 37 (-100001)) (List.mem_of_getElem? (i := 2) rfl)) dX6_price_13 ?_
    refine lv_goto (tgt := 22) hx hb dX6_price_15 (by decide) ?_
    cases hf
    exact w_iret hx hb hr hlocks hP hS dX6_price_22
  · have ho3 := (t_X4_find ad cI cR fu 1 a1 (S_srv1 ad cI cR) mm o3 m4 hq)
    refine w_cqS (va_runV (As := [.int a1]) (rest := []) ⟨hx, hb, hml, hown, hts⟩ (c_X4_find l D ad cI cR hi fu 1 a1 (S_srv1 ad cI cR) mm (some o3) m4 hq) (cwV 1 hts gX6_price_X4_find rfl rfl rfl (by decide +kernel) ⟨Nat.le_of_ble_eq_true rfl, Nat.le_of_ble_eq_true rfl⟩) (w_preV (ci := 4) hK hP hN (S_srv1 ad cI cR).1 (S_srv1 ad cI cR).2.1 rfl) rfl rfl hl.1 rfl (lv_room (Nat.le_of_ble_eq_true rfl)) dX6_price_5 ⟨Nat.zero_le _, Nat.zero_le _⟩) hA hS (fun H locs hP hS => ?_)
    refine lv_astore_n (lv' := [(2, .ref (ad o3)), (0, .ref (ad 0)), (1, .int a1)]) hx hb dX6_price_8 rfl hl (by decide) rfl (fun ls hl => ?_)
    refine lv_aload_n hx hb dX6_price_9 rfl (lv_at hl 0 rfl) ?_
    refine lv_ifnonnull (tgt := 18) hx hb dX6_price_10 (by decide) ?_
    refine lv_aload_n hx hb dX6_price_18 rfl (lv_at hl 0 rfl) ?_
    refine w_get (C := RX2) (T := TX2) (N := 11) (ci := 2) (v := .int (m4 o3 5)) hx hb hts hinX2 hown hK hP ho3.1 ho3.2 rfl 5 (by decide) (hts (.fieldLink RX6 159 "AdmissionControl$Request" "price" "I") (List.mem_of_getElem? (i := 3) rfl)) (fun _ h9 => h9) rfl dX6_price_19 ?_
    cases hf
    exact w_iret hx hb hr hlocks hP hS dX6_price_22
def F_X6_done (fu : Nat) (a1 : Int32) (mm : Mem) : Option (Int32 × Mem) := oq (F_X4_find fu 1 a1 mm) (fun m4 => some ((-100001), m4)) (fun o3 m4 => some ((m4 o3 6), m4))
set_option maxHeartbeats 4000000 in
set_option maxRecDepth 100000 in
theorem c_X6_done (l : Launch) (D : va_G) (ad : Nat → Nat) (cI cR : ClassId) (hi : inj ad) (fu : Nat) (a1 : Int32)  (mm : Mem) (r0 : Int32) (m9 : Mem) (hf : F_X6_done fu a1 mm = some (r0, m9)) : MI l yX6_done wsX6_done { frames := 1, cells := 0, slots := 0, locals := 21 } D ad cI cR [.ref (ad 0), .int a1] mm r0 m9 := by
  refine Met.ofW (cc := cX6_done) (maxL := 3) (ret := (some .int)) (by decide) rfl ?_
  intro p e s m args below meth c s₁ B hml hv
  obtain ⟨rfl, hP, hK, hN⟩ := hv
  have hx := B.exec
  have hb := B.bytes
  have hr := B.returns
  have hts := atoms_spec (ws := wsX6_done) B.pre
  have hown : s.vm.findClass RX6 = some m.cls := findClass_of_methodNamed B.named
  have hlocks := B.notSynchronized
  have hA : ∀ q, AA ad q → AA ad q := fun _ h => h
  have hS : va_S (AA ad) s.heap s.heap [] := va_S.rf
  have hinX2 : ∀ w ∈ wsX20, w ∈ wsX6_done := (fun _ h => List.mem_cons_of_mem _ (List.mem_append_left _ (List.mem_append_right _ h)))
  have hinX6 : ∀ w ∈ wsX60, w ∈ wsX6_done := (fun _ h => List.mem_cons_of_mem _ (List.mem_append_left _ (List.mem_append_left _ (List.mem_append_right _ h))))
  have hl := lv_entry ([.ref (ad 0), .int a1]) (n := 3) (Nat.le_of_ble_eq_true rfl)
  rw [lg_entry_eq]
  generalize (lg_sl ([.ref (ad 0), .int a1]) ++ List.replicate (3 - (lg_sl ([.ref (ad 0), .int a1])).length) Slot.unset).toArray = ls at hl ⊢
  have hl : lv_has ls 3 [(0, .ref (ad 0)), (1, .int a1)] := hl
  unfold F_X6_done at hf
  refine lv_aload_n hx hb dX6_done_0 rfl (lv_at hl 0 rfl) ?_
  refine w_get (C := RX6) (T := TX6) (N := 4) (ci := 6) (v := .ref (ad 1)) hx hb hts hinX6 hown hK hP (S_ac ad cI cR).1 (S_ac ad cI cR).2 rfl 0 (by decide) (hts (.fieldLink RX6 10 "AdmissionControl" "server" "LAdmissionControl$Server;") (List.mem_of_getElem? (i := 1) rfl)) (fun _ h9 => h9) rfl dX6_done_1 ?_
  refine lv_iload_n hx hb dX6_done_4 rfl (lv_at hl 1 rfl) ?_
  rcases oq_e hf with ⟨m4, hq, hf⟩ | ⟨o3, m4, hq, hf⟩
  · refine w_cqN (va_runV (As := [.int a1]) (rest := []) ⟨hx, hb, hml, hown, hts⟩ (c_X4_find l D ad cI cR hi fu 1 a1 (S_srv1 ad cI cR) mm none m4 hq) (cwV 1 hts gX6_done_X4_find rfl rfl rfl (by decide +kernel) ⟨Nat.le_of_ble_eq_true rfl, Nat.le_of_ble_eq_true rfl⟩) (w_preV (ci := 4) hK hP hN (S_srv1 ad cI cR).1 (S_srv1 ad cI cR).2.1 rfl) rfl rfl hl.1 rfl (lv_room (Nat.le_of_ble_eq_true rfl)) dX6_done_5 ⟨Nat.zero_le _, Nat.zero_le _⟩) hA hS (fun H locs hP hS => ?_)
    refine lv_astore_nN (lv' := [(2, .null), (0, .ref (ad 0)), (1, .int a1)]) hx hb dX6_done_8 rfl hl (by decide) rfl (fun ls hl => ?_)
    refine lv_aload_nN hx hb dX6_done_9 rfl (lv_at hl 0 rfl) ?_
    refine lv_ifnonnullN hx hb dX6_done_10 ?_
    refine lv_ldc (v := (-100001)) hx hb hown (hts (.constant RX6 37 (-100001)) (List.mem_of_getElem? (i := 2) rfl)) dX6_done_13 ?_
    refine lv_goto (tgt := 22) hx hb dX6_done_15 (by decide) ?_
    cases hf
    exact w_iret hx hb hr hlocks hP hS dX6_done_22
  · have ho3 := (t_X4_find ad cI cR fu 1 a1 (S_srv1 ad cI cR) mm o3 m4 hq)
    refine w_cqS (va_runV (As := [.int a1]) (rest := []) ⟨hx, hb, hml, hown, hts⟩ (c_X4_find l D ad cI cR hi fu 1 a1 (S_srv1 ad cI cR) mm (some o3) m4 hq) (cwV 1 hts gX6_done_X4_find rfl rfl rfl (by decide +kernel) ⟨Nat.le_of_ble_eq_true rfl, Nat.le_of_ble_eq_true rfl⟩) (w_preV (ci := 4) hK hP hN (S_srv1 ad cI cR).1 (S_srv1 ad cI cR).2.1 rfl) rfl rfl hl.1 rfl (lv_room (Nat.le_of_ble_eq_true rfl)) dX6_done_5 ⟨Nat.zero_le _, Nat.zero_le _⟩) hA hS (fun H locs hP hS => ?_)
    refine lv_astore_n (lv' := [(2, .ref (ad o3)), (0, .ref (ad 0)), (1, .int a1)]) hx hb dX6_done_8 rfl hl (by decide) rfl (fun ls hl => ?_)
    refine lv_aload_n hx hb dX6_done_9 rfl (lv_at hl 0 rfl) ?_
    refine lv_ifnonnull (tgt := 18) hx hb dX6_done_10 (by decide) ?_
    refine lv_aload_n hx hb dX6_done_18 rfl (lv_at hl 0 rfl) ?_
    refine w_get (C := RX2) (T := TX2) (N := 11) (ci := 2) (v := .int (m4 o3 6)) hx hb hts hinX2 hown hK hP ho3.1 ho3.2 rfl 6 (by decide) (hts (.fieldLink RX6 162 "AdmissionControl$Request" "units" "I") (List.mem_of_getElem? (i := 3) rfl)) (fun _ h9 => h9) rfl dX6_done_19 ?_
    cases hf
    exact w_iret hx hb hr hlocks hP hS dX6_done_22
def F_X6_offers (fu : Nat) (a1 : Int32) (mm : Mem) : Option (Int32 × Mem) := oq (F_X4_find fu 1 a1 mm) (fun m4 => some ((-100001), m4)) (fun o3 m4 => some ((m4 o3 7), m4))
set_option maxHeartbeats 4000000 in
set_option maxRecDepth 100000 in
theorem c_X6_offers (l : Launch) (D : va_G) (ad : Nat → Nat) (cI cR : ClassId) (hi : inj ad) (fu : Nat) (a1 : Int32)  (mm : Mem) (r0 : Int32) (m9 : Mem) (hf : F_X6_offers fu a1 mm = some (r0, m9)) : MI l yX6_offers wsX6_offers { frames := 1, cells := 0, slots := 0, locals := 21 } D ad cI cR [.ref (ad 0), .int a1] mm r0 m9 := by
  refine Met.ofW (cc := cX6_offers) (maxL := 3) (ret := (some .int)) (by decide) rfl ?_
  intro p e s m args below meth c s₁ B hml hv
  obtain ⟨rfl, hP, hK, hN⟩ := hv
  have hx := B.exec
  have hb := B.bytes
  have hr := B.returns
  have hts := atoms_spec (ws := wsX6_offers) B.pre
  have hown : s.vm.findClass RX6 = some m.cls := findClass_of_methodNamed B.named
  have hlocks := B.notSynchronized
  have hA : ∀ q, AA ad q → AA ad q := fun _ h => h
  have hS : va_S (AA ad) s.heap s.heap [] := va_S.rf
  have hinX2 : ∀ w ∈ wsX20, w ∈ wsX6_offers := (fun _ h => List.mem_cons_of_mem _ (List.mem_append_left _ (List.mem_append_right _ h)))
  have hinX6 : ∀ w ∈ wsX60, w ∈ wsX6_offers := (fun _ h => List.mem_cons_of_mem _ (List.mem_append_left _ (List.mem_append_left _ (List.mem_append_right _ h))))
  have hl := lv_entry ([.ref (ad 0), .int a1]) (n := 3) (Nat.le_of_ble_eq_true rfl)
  rw [lg_entry_eq]
  generalize (lg_sl ([.ref (ad 0), .int a1]) ++ List.replicate (3 - (lg_sl ([.ref (ad 0), .int a1])).length) Slot.unset).toArray = ls at hl ⊢
  have hl : lv_has ls 3 [(0, .ref (ad 0)), (1, .int a1)] := hl
  unfold F_X6_offers at hf
  refine lv_aload_n hx hb dX6_offers_0 rfl (lv_at hl 0 rfl) ?_
  refine w_get (C := RX6) (T := TX6) (N := 4) (ci := 6) (v := .ref (ad 1)) hx hb hts hinX6 hown hK hP (S_ac ad cI cR).1 (S_ac ad cI cR).2 rfl 0 (by decide) (hts (.fieldLink RX6 10 "AdmissionControl" "server" "LAdmissionControl$Server;") (List.mem_of_getElem? (i := 1) rfl)) (fun _ h9 => h9) rfl dX6_offers_1 ?_
  refine lv_iload_n hx hb dX6_offers_4 rfl (lv_at hl 1 rfl) ?_
  rcases oq_e hf with ⟨m4, hq, hf⟩ | ⟨o3, m4, hq, hf⟩
  · refine w_cqN (va_runV (As := [.int a1]) (rest := []) ⟨hx, hb, hml, hown, hts⟩ (c_X4_find l D ad cI cR hi fu 1 a1 (S_srv1 ad cI cR) mm none m4 hq) (cwV 1 hts gX6_offers_X4_find rfl rfl rfl (by decide +kernel) ⟨Nat.le_of_ble_eq_true rfl, Nat.le_of_ble_eq_true rfl⟩) (w_preV (ci := 4) hK hP hN (S_srv1 ad cI cR).1 (S_srv1 ad cI cR).2.1 rfl) rfl rfl hl.1 rfl (lv_room (Nat.le_of_ble_eq_true rfl)) dX6_offers_5 ⟨Nat.zero_le _, Nat.zero_le _⟩) hA hS (fun H locs hP hS => ?_)
    refine lv_astore_nN (lv' := [(2, .null), (0, .ref (ad 0)), (1, .int a1)]) hx hb dX6_offers_8 rfl hl (by decide) rfl (fun ls hl => ?_)
    refine lv_aload_nN hx hb dX6_offers_9 rfl (lv_at hl 0 rfl) ?_
    refine lv_ifnonnullN hx hb dX6_offers_10 ?_
    refine lv_ldc (v := (-100001)) hx hb hown (hts (.constant RX6 37 (-100001)) (List.mem_of_getElem? (i := 2) rfl)) dX6_offers_13 ?_
    refine lv_goto (tgt := 22) hx hb dX6_offers_15 (by decide) ?_
    cases hf
    exact w_iret hx hb hr hlocks hP hS dX6_offers_22
  · have ho3 := (t_X4_find ad cI cR fu 1 a1 (S_srv1 ad cI cR) mm o3 m4 hq)
    refine w_cqS (va_runV (As := [.int a1]) (rest := []) ⟨hx, hb, hml, hown, hts⟩ (c_X4_find l D ad cI cR hi fu 1 a1 (S_srv1 ad cI cR) mm (some o3) m4 hq) (cwV 1 hts gX6_offers_X4_find rfl rfl rfl (by decide +kernel) ⟨Nat.le_of_ble_eq_true rfl, Nat.le_of_ble_eq_true rfl⟩) (w_preV (ci := 4) hK hP hN (S_srv1 ad cI cR).1 (S_srv1 ad cI cR).2.1 rfl) rfl rfl hl.1 rfl (lv_room (Nat.le_of_ble_eq_true rfl)) dX6_offers_5 ⟨Nat.zero_le _, Nat.zero_le _⟩) hA hS (fun H locs hP hS => ?_)
    refine lv_astore_n (lv' := [(2, .ref (ad o3)), (0, .ref (ad 0)), (1, .int a1)]) hx hb dX6_offers_8 rfl hl (by decide) rfl (fun ls hl => ?_)
    refine lv_aload_n hx hb dX6_offers_9 rfl (lv_at hl 0 rfl) ?_
    refine lv_ifnonnull (tgt := 18) hx hb dX6_offers_10 (by decide) ?_
    refine lv_aload_n hx hb dX6_offers_18 rfl (lv_at hl 0 rfl) ?_
    refine w_get (C := RX2) (T := TX2) (N := 11) (ci := 2) (v := .int (m4 o3 7)) hx hb hts hinX2 hown hK hP ho3.1 ho3.2 rfl 7 (by decide) (hts (.fieldLink RX6 163 "AdmissionControl$Request" "offers" "I") (List.mem_of_getElem? (i := 3) rfl)) (fun _ h9 => h9) rfl dX6_offers_19 ?_
    cases hf
    exact w_iret hx hb hr hlocks hP hS dX6_offers_22
def F_X6_reason (fu : Nat) (a1 : Int32) (mm : Mem) : Option (Int32 × Mem) := oq (F_X4_find fu 1 a1 mm) (fun m4 => some ((-100001), m4)) (fun o3 m4 => some ((m4 o3 8), m4))
set_option maxHeartbeats 4000000 in
set_option maxRecDepth 100000 in
theorem c_X6_reason (l : Launch) (D : va_G) (ad : Nat → Nat) (cI cR : ClassId) (hi : inj ad) (fu : Nat) (a1 : Int32)  (mm : Mem) (r0 : Int32) (m9 : Mem) (hf : F_X6_reason fu a1 mm = some (r0, m9)) : MI l yX6_reason wsX6_reason { frames := 1, cells := 0, slots := 0, locals := 21 } D ad cI cR [.ref (ad 0), .int a1] mm r0 m9 := by
  refine Met.ofW (cc := cX6_reason) (maxL := 3) (ret := (some .int)) (by decide) rfl ?_
  intro p e s m args below meth c s₁ B hml hv
  obtain ⟨rfl, hP, hK, hN⟩ := hv
  have hx := B.exec
  have hb := B.bytes
  have hr := B.returns
  have hts := atoms_spec (ws := wsX6_reason) B.pre
  have hown : s.vm.findClass RX6 = some m.cls := findClass_of_methodNamed B.named
  have hlocks := B.notSynchronized
  have hA : ∀ q, AA ad q → AA ad q := fun _ h => h
  have hS : va_S (AA ad) s.heap s.heap [] := va_S.rf
  have hinX2 : ∀ w ∈ wsX20, w ∈ wsX6_reason := (fun _ h => List.mem_cons_of_mem _ (List.mem_append_left _ (List.mem_append_right _ h)))
  have hinX6 : ∀ w ∈ wsX60, w ∈ wsX6_reason := (fun _ h => List.mem_cons_of_mem _ (List.mem_append_left _ (List.mem_append_left _ (List.mem_append_right _ h))))
  have hl := lv_entry ([.ref (ad 0), .int a1]) (n := 3) (Nat.le_of_ble_eq_true rfl)
  rw [lg_entry_eq]
  generalize (lg_sl ([.ref (ad 0), .int a1]) ++ List.replicate (3 - (lg_sl ([.ref (ad 0), .int a1])).length) Slot.unset).toArray = ls at hl ⊢
  have hl : lv_has ls 3 [(0, .ref (ad 0)), (1, .int a1)] := hl
  unfold F_X6_reason at hf
  refine lv_aload_n hx hb dX6_reason_0 rfl (lv_at hl 0 rfl) ?_
  refine w_get (C := RX6) (T := TX6) (N := 4) (ci := 6) (v := .ref (ad 1)) hx hb hts hinX6 hown hK hP (S_ac ad cI cR).1 (S_ac ad cI cR).2 rfl 0 (by decide) (hts (.fieldLink RX6 10 "AdmissionControl" "server" "LAdmissionControl$Server;") (List.mem_of_getElem? (i := 1) rfl)) (fun _ h9 => h9) rfl dX6_reason_1 ?_
  refine lv_iload_n hx hb dX6_reason_4 rfl (lv_at hl 1 rfl) ?_
  rcases oq_e hf with ⟨m4, hq, hf⟩ | ⟨o3, m4, hq, hf⟩
  · refine w_cqN (va_runV (As := [.int a1]) (rest := []) ⟨hx, hb, hml, hown, hts⟩ (c_X4_find l D ad cI cR hi fu 1 a1 (S_srv1 ad cI cR) mm none m4 hq) (cwV 1 hts gX6_reason_X4_find rfl rfl rfl (by decide +kernel) ⟨Nat.le_of_ble_eq_true rfl, Nat.le_of_ble_eq_true rfl⟩) (w_preV (ci := 4) hK hP hN (S_srv1 ad cI cR).1 (S_srv1 ad cI cR).2.1 rfl) rfl rfl hl.1 rfl (lv_room (Nat.le_of_ble_eq_true rfl)) dX6_reason_5 ⟨Nat.zero_le _, Nat.zero_le _⟩) hA hS (fun H locs hP hS => ?_)
    refine lv_astore_nN (lv' := [(2, .null), (0, .ref (ad 0)), (1, .int a1)]) hx hb dX6_reason_8 rfl hl (by decide) rfl (fun ls hl => ?_)
    refine lv_aload_nN hx hb dX6_reason_9 rfl (lv_at hl 0 rfl) ?_
    refine lv_ifnonnullN hx hb dX6_reason_10 ?_
    refine lv_ldc (v := (-100001)) hx hb hown (hts (.constant RX6 37 (-100001)) (List.mem_of_getElem? (i := 2) rfl)) dX6_reason_13 ?_
    refine lv_goto (tgt := 22) hx hb dX6_reason_15 (by decide) ?_
    cases hf
    exact w_iret hx hb hr hlocks hP hS dX6_reason_22
  · have ho3 := (t_X4_find ad cI cR fu 1 a1 (S_srv1 ad cI cR) mm o3 m4 hq)
    refine w_cqS (va_runV (As := [.int a1]) (rest := []) ⟨hx, hb, hml, hown, hts⟩ (c_X4_find l D ad cI cR hi fu 1 a1 (S_srv1 ad cI cR) mm (some o3) m4 hq) (cwV 1 hts gX6_reason_X4_find rfl rfl rfl (by decide +kernel) ⟨Nat.le_of_ble_eq_true rfl, Nat.le_of_ble_eq_true rfl⟩) (w_preV (ci := 4) hK hP hN (S_srv1 ad cI cR).1 (S_srv1 ad cI cR).2.1 rfl) rfl rfl hl.1 rfl (lv_room (Nat.le_of_ble_eq_true rfl)) dX6_reason_5 ⟨Nat.zero_le _, Nat.zero_le _⟩) hA hS (fun H locs hP hS => ?_)
    refine lv_astore_n (lv' := [(2, .ref (ad o3)), (0, .ref (ad 0)), (1, .int a1)]) hx hb dX6_reason_8 rfl hl (by decide) rfl (fun ls hl => ?_)
    refine lv_aload_n hx hb dX6_reason_9 rfl (lv_at hl 0 rfl) ?_
    refine lv_ifnonnull (tgt := 18) hx hb dX6_reason_10 (by decide) ?_
    refine lv_aload_n hx hb dX6_reason_18 rfl (lv_at hl 0 rfl) ?_
    refine w_get (C := RX2) (T := TX2) (N := 11) (ci := 2) (v := .int (m4 o3 8)) hx hb hts hinX2 hown hK hP ho3.1 ho3.2 rfl 8 (by decide) (hts (.fieldLink RX6 166 "AdmissionControl$Request" "reason" "I") (List.mem_of_getElem? (i := 3) rfl)) (fun _ h9 => h9) rfl dX6_reason_19 ?_
    cases hf
    exact w_iret hx hb hr hlocks hP hS dX6_reason_22
def F_X6_when (fu : Nat) (a1 : Int32) (mm : Mem) : Option (Int32 × Mem) := oq (F_X4_find fu 1 a1 mm) (fun m6 => some ((-100001), m6)) (fun o5 m6 => if (m6 o5 4) = 3 then (some ((m6 o5 10), m6)) else (if (m6 o5 4) = 2 then (some ((m6 o5 10), m6)) else (some ((-100005), m6))))
set_option maxHeartbeats 4000000 in
set_option maxRecDepth 100000 in
theorem c_X6_when (l : Launch) (D : va_G) (ad : Nat → Nat) (cI cR : ClassId) (hi : inj ad) (fu : Nat) (a1 : Int32)  (mm : Mem) (r0 : Int32) (m9 : Mem) (hf : F_X6_when fu a1 mm = some (r0, m9)) : MI l yX6_when wsX6_when { frames := 1, cells := 0, slots := 0, locals := 21 } D ad cI cR [.ref (ad 0), .int a1] mm r0 m9 := by
  refine Met.ofW (cc := cX6_when) (maxL := 3) (ret := (some .int)) (by decide) rfl ?_
  intro p e s m args below meth c s₁ B hml hv
  obtain ⟨rfl, hP, hK, hN⟩ := hv
  have hx := B.exec
  have hb := B.bytes
  have hr := B.returns
  have hts := atoms_spec (ws := wsX6_when) B.pre
  have hown : s.vm.findClass RX6 = some m.cls := findClass_of_methodNamed B.named
  have hlocks := B.notSynchronized
  have hA : ∀ q, AA ad q → AA ad q := fun _ h => h
  have hS : va_S (AA ad) s.heap s.heap [] := va_S.rf
  have hinX2 : ∀ w ∈ wsX20, w ∈ wsX6_when := (fun _ h => List.mem_cons_of_mem _ (List.mem_append_left _ (List.mem_append_right _ h)))
  have hinX6 : ∀ w ∈ wsX60, w ∈ wsX6_when := (fun _ h => List.mem_cons_of_mem _ (List.mem_append_left _ (List.mem_append_left _ (List.mem_append_right _ h))))
  have hl := lv_entry ([.ref (ad 0), .int a1]) (n := 3) (Nat.le_of_ble_eq_true rfl)
  rw [lg_entry_eq]
  generalize (lg_sl ([.ref (ad 0), .int a1]) ++ List.replicate (3 - (lg_sl ([.ref (ad 0), .int a1])).length) Slot.unset).toArray = ls at hl ⊢
  have hl : lv_has ls 3 [(0, .ref (ad 0)), (1, .int a1)] := hl
  unfold F_X6_when at hf
  refine lv_aload_n hx hb dX6_when_0 rfl (lv_at hl 0 rfl) ?_
  refine w_get (C := RX6) (T := TX6) (N := 4) (ci := 6) (v := .ref (ad 1)) hx hb hts hinX6 hown hK hP (S_ac ad cI cR).1 (S_ac ad cI cR).2 rfl 0 (by decide) (hts (.fieldLink RX6 10 "AdmissionControl" "server" "LAdmissionControl$Server;") (List.mem_of_getElem? (i := 1) rfl)) (fun _ h9 => h9) rfl dX6_when_1 ?_
  refine lv_iload_n hx hb dX6_when_4 rfl (lv_at hl 1 rfl) ?_
  rcases oq_e hf with ⟨m6, hq, hf⟩ | ⟨o5, m6, hq, hf⟩
  · refine w_cqN (va_runV (As := [.int a1]) (rest := []) ⟨hx, hb, hml, hown, hts⟩ (c_X4_find l D ad cI cR hi fu 1 a1 (S_srv1 ad cI cR) mm none m6 hq) (cwV 1 hts gX6_when_X4_find rfl rfl rfl (by decide +kernel) ⟨Nat.le_of_ble_eq_true rfl, Nat.le_of_ble_eq_true rfl⟩) (w_preV (ci := 4) hK hP hN (S_srv1 ad cI cR).1 (S_srv1 ad cI cR).2.1 rfl) rfl rfl hl.1 rfl (lv_room (Nat.le_of_ble_eq_true rfl)) dX6_when_5 ⟨Nat.zero_le _, Nat.zero_le _⟩) hA hS (fun H locs hP hS => ?_)
    refine lv_astore_nN (lv' := [(2, .null), (0, .ref (ad 0)), (1, .int a1)]) hx hb dX6_when_8 rfl hl (by decide) rfl (fun ls hl => ?_)
    refine lv_aload_nN hx hb dX6_when_9 rfl (lv_at hl 0 rfl) ?_
    refine lv_ifnonnullN hx hb dX6_when_10 ?_
    refine lv_ldc (v := (-100001)) hx hb hown (hts (.constant RX6 37 (-100001)) (List.mem_of_getElem? (i := 2) rfl)) dX6_when_13 ?_
    cases hf
    exact w_iret hx hb hr hlocks hP hS dX6_when_15
  · have ho5 := (t_X4_find ad cI cR fu 1 a1 (S_srv1 ad cI cR) mm o5 m6 hq)
    refine w_cqS (va_runV (As := [.int a1]) (rest := []) ⟨hx, hb, hml, hown, hts⟩ (c_X4_find l D ad cI cR hi fu 1 a1 (S_srv1 ad cI cR) mm (some o5) m6 hq) (cwV 1 hts gX6_when_X4_find rfl rfl rfl (by decide +kernel) ⟨Nat.le_of_ble_eq_true rfl, Nat.le_of_ble_eq_true rfl⟩) (w_preV (ci := 4) hK hP hN (S_srv1 ad cI cR).1 (S_srv1 ad cI cR).2.1 rfl) rfl rfl hl.1 rfl (lv_room (Nat.le_of_ble_eq_true rfl)) dX6_when_5 ⟨Nat.zero_le _, Nat.zero_le _⟩) hA hS (fun H locs hP hS => ?_)
    refine lv_astore_n (lv' := [(2, .ref (ad o5)), (0, .ref (ad 0)), (1, .int a1)]) hx hb dX6_when_8 rfl hl (by decide) rfl (fun ls hl => ?_)
    refine lv_aload_n hx hb dX6_when_9 rfl (lv_at hl 0 rfl) ?_
    refine lv_ifnonnull (tgt := 16) hx hb dX6_when_10 (by decide) ?_
    refine lv_aload_n hx hb dX6_when_16 rfl (lv_at hl 0 rfl) ?_
    refine w_get (C := RX2) (T := TX2) (N := 11) (ci := 2) (v := .int (m6 o5 4)) hx hb hts hinX2 hown hK hP ho5.1 ho5.2 rfl 4 (by decide) (hts (.fieldLink RX6 154 "AdmissionControl$Request" "state" "I") (List.mem_of_getElem? (i := 3) rfl)) (fun _ h9 => h9) rfl dX6_when_17 ?_
    refine lv_iconst (v := 3) hx hb dX6_when_20 (by decide) ?_
    refine lv_icmp_eq (tgt := 32) hx hb dX6_when_21 (by decide) (fun c7 => ?_) (fun c7 => ?_)
    · rw [if_pos c7] at hf
      refine lv_aload_n hx hb dX6_when_32 rfl (lv_at hl 0 rfl) ?_
      refine w_get (C := RX2) (T := TX2) (N := 11) (ci := 2) (v := .int (m6 o5 10)) hx hb hts hinX2 hown hK hP ho5.1 ho5.2 rfl 10 (by decide) (hts (.fieldLink RX6 169 "AdmissionControl$Request" "tick" "I") (List.mem_of_getElem? (i := 4) rfl)) (fun _ h9 => h9) rfl dX6_when_33 ?_
      refine lv_goto (tgt := 41) hx hb dX6_when_36 (by decide) ?_
      cases hf
      exact w_iret hx hb hr hlocks hP hS dX6_when_41
    · rw [if_neg c7] at hf
      refine lv_aload_n hx hb dX6_when_24 rfl (lv_at hl 0 rfl) ?_
      refine w_get (C := RX2) (T := TX2) (N := 11) (ci := 2) (v := .int (m6 o5 4)) hx hb hts hinX2 hown hK hP ho5.1 ho5.2 rfl 4 (by decide) (hts (.fieldLink RX6 154 "AdmissionControl$Request" "state" "I") (List.mem_of_getElem? (i := 3) rfl)) (fun _ h9 => h9) rfl dX6_when_25 ?_
      refine lv_iconst (v := 2) hx hb dX6_when_28 (by decide) ?_
      refine lv_icmp_ne (tgt := 39) hx hb dX6_when_29 (by decide) (fun c8 => ?_) (fun c8 => ?_)
      · rw [if_neg c8] at hf
        refine lv_ldc (v := (-100005)) hx hb hown (hts (.constant RX6 100 (-100005)) (List.mem_of_getElem? (i := 5) rfl)) dX6_when_39 ?_
        cases hf
        exact w_iret hx hb hr hlocks hP hS dX6_when_41
      · rw [if_pos c8] at hf
        refine lv_aload_n hx hb dX6_when_32 rfl (lv_at hl 0 rfl) ?_
        refine w_get (C := RX2) (T := TX2) (N := 11) (ci := 2) (v := .int (m6 o5 10)) hx hb hts hinX2 hown hK hP ho5.1 ho5.2 rfl 10 (by decide) (hts (.fieldLink RX6 169 "AdmissionControl$Request" "tick" "I") (List.mem_of_getElem? (i := 4) rfl)) (fun _ h9 => h9) rfl dX6_when_33 ?_
        refine lv_goto (tgt := 41) hx hb dX6_when_36 (by decide) ?_
        cases hf
        exact w_iret hx hb hr hlocks hP hS dX6_when_41
def F_X6_wouldRefuse (fu : Nat) (a1 : Int32) (a2 : Int32) (mm : Mem) : Option (Int32 × Mem) := ob (F_X6_isKind fu a1 mm) fun r15 m16 => if r15 = 0 then (some ((-100001), m16)) else (ob (F_X6_isShape fu a2 m16) fun r18 m19 => if r18 = 0 then (some ((-100001), m19)) else (oq (F_X4_lane fu 1 a1 m19) (fun m22 => ob (F_X4_expectedCost fu 1 a2 m22) fun r23 m24 => none) (fun o21 m22 => ob (F_X4_expectedCost fu 1 a2 m22) fun r25 m26 => ob (F_X4_firstRefusal fu 1 o21 r25 m26) fun r27 m28 => some (r27, m28))))
set_option maxHeartbeats 4000000 in
set_option maxRecDepth 100000 in
theorem c_X6_wouldRefuse (l : Launch) (D : va_G) (ad : Nat → Nat) (cI cR : ClassId) (hi : inj ad) (fu : Nat) (a1 : Int32) (a2 : Int32)  (mm : Mem) (r0 : Int32) (m9 : Mem) (hf : F_X6_wouldRefuse fu a1 a2 mm = some (r0, m9)) : MI l yX6_wouldRefuse wsX6_wouldRefuse { frames := 3, cells := 0, slots := 0, locals := 70 } D ad cI cR [.ref (ad 0), .int a1, .int a2] mm r0 m9 := by
  refine Met.ofW (cc := cX6_wouldRefuse) (maxL := 3) (ret := (some .int)) (by decide) rfl ?_
  intro p e s m args below meth c s₁ B hml hv
  obtain ⟨rfl, hP, hK, hN⟩ := hv
  have hx := B.exec
  have hb := B.bytes
  have hr := B.returns
  have hts := atoms_spec (ws := wsX6_wouldRefuse) B.pre
  have hown : s.vm.findClass RX6 = some m.cls := findClass_of_methodNamed B.named
  have hlocks := B.notSynchronized
  have hA : ∀ q, AA ad q → AA ad q := fun _ h => h
  have hS : va_S (AA ad) s.heap s.heap [] := va_S.rf
  have hinX6 : ∀ w ∈ wsX60, w ∈ wsX6_wouldRefuse := (fun _ h => List.mem_cons_of_mem _ (List.mem_append_left _ (List.mem_append_left _ (List.mem_append_left _ (List.mem_append_left _ (List.mem_append_right _ h))))))
  have hl := lv_entry ([.ref (ad 0), .int a1, .int a2]) (n := 3) (Nat.le_of_ble_eq_true rfl)
  rw [lg_entry_eq]
  generalize (lg_sl ([.ref (ad 0), .int a1, .int a2]) ++ List.replicate (3 - (lg_sl ([.ref (ad 0), .int a1, .int a2])).length) Slot.unset).toArray = ls at hl ⊢
  have hl : lv_has ls 3 [(0, .ref (ad 0)), (1, .int a1), (2, .int a2)] := hl
  unfold F_X6_wouldRefuse at hf
  refine lv_iload_n hx hb dX6_wouldRefuse_0 rfl (lv_at hl 1 rfl) ?_
  obtain ⟨r15, m16, hq, hf⟩ := ob_e hf
  refine w_ci (va_runS (As := [.int a1]) (rest := []) ⟨hx, hb, hml, hown, hts⟩ (c_X6_isKind l D ad cI cR hi fu a1 mm r15 m16 hq) (va_cwS 1 hts gX6_wouldRefuse_X6_isKind rfl rfl rfl (by decide +kernel) ⟨Nat.le_of_ble_eq_true rfl, Nat.le_of_ble_eq_true rfl⟩) (w_preS hK hP hN) rfl rfl hl.1 rfl (lv_room (Nat.le_of_ble_eq_true rfl)) dX6_wouldRefuse_1 ⟨Nat.zero_le _, Nat.zero_le _⟩) hA hS (fun H locs hP hS => ?_)
  refine lv_if_eq (tgt := 14) hx hb dX6_wouldRefuse_4 (by decide) (fun c17 => ?_) (fun c17 => ?_)
  · rw [if_pos c17] at hf
    refine lv_ldc (v := (-100001)) hx hb hown (hts (.constant RX6 37 (-100001)) (List.mem_of_getElem? (i := 1) rfl)) dX6_wouldRefuse_14 ?_
    cases hf
    exact w_iret hx hb hr hlocks hP hS dX6_wouldRefuse_16
  · rw [if_neg c17] at hf
    refine lv_iload_n hx hb dX6_wouldRefuse_7 rfl (lv_at hl 2 rfl) ?_
    obtain ⟨r18, m19, hq, hf⟩ := ob_e hf
    refine w_ci (va_runS (As := [.int a2]) (rest := []) ⟨hx, hb, hml, hown, hts⟩ (c_X6_isShape l D ad cI cR hi fu a2 m16 r18 m19 hq) (va_cwS 1 hts gX6_wouldRefuse_X6_isShape rfl rfl rfl (by decide +kernel) ⟨Nat.le_of_ble_eq_true rfl, Nat.le_of_ble_eq_true rfl⟩) (w_preS hK hP hN) rfl rfl hl.1 rfl (lv_room (Nat.le_of_ble_eq_true rfl)) dX6_wouldRefuse_8 ⟨Nat.zero_le _, Nat.zero_le _⟩) hA hS (fun H locs hP hS => ?_)
    refine lv_if_ne (tgt := 17) hx hb dX6_wouldRefuse_11 (by decide) (fun c20 => ?_) (fun c20 => ?_)
    · rw [if_neg c20] at hf
      refine lv_aload_n hx hb dX6_wouldRefuse_17 rfl (lv_at hl 0 rfl) ?_
      refine w_get (C := RX6) (T := TX6) (N := 4) (ci := 6) (v := .ref (ad 1)) hx hb hts hinX6 hown hK hP (S_ac ad cI cR).1 (S_ac ad cI cR).2 rfl 0 (by decide) (hts (.fieldLink RX6 10 "AdmissionControl" "server" "LAdmissionControl$Server;") (List.mem_of_getElem? (i := 2) rfl)) (fun _ h9 => h9) rfl dX6_wouldRefuse_18 ?_
      refine lv_aload_n hx hb dX6_wouldRefuse_21 rfl (lv_at hl 0 rfl) ?_
      refine w_get (C := RX6) (T := TX6) (N := 4) (ci := 6) (v := .ref (ad 1)) hx hb hts hinX6 hown hK hP (S_ac ad cI cR).1 (S_ac ad cI cR).2 rfl 0 (by decide) (hts (.fieldLink RX6 10 "AdmissionControl" "server" "LAdmissionControl$Server;") (List.mem_of_getElem? (i := 2) rfl)) (fun _ h9 => h9) rfl dX6_wouldRefuse_22 ?_
      refine lv_iload_n hx hb dX6_wouldRefuse_25 rfl (lv_at hl 1 rfl) ?_
      rcases oq_e hf with ⟨m22, hq, hf⟩ | ⟨o21, m22, hq, hf⟩
      · refine w_cqN (va_runV (As := [.int a1]) (rest := [.ref (ad 1)]) ⟨hx, hb, hml, hown, hts⟩ (c_X4_lane l D ad cI cR hi fu 1 a1 (S_srv1 ad cI cR) m19 none m22 hq) (cwV 1 hts gX6_wouldRefuse_X4_lane rfl rfl rfl (by decide +kernel) ⟨Nat.le_of_ble_eq_true rfl, Nat.le_of_ble_eq_true rfl⟩) (w_preV (ci := 4) hK hP hN (S_srv1 ad cI cR).1 (S_srv1 ad cI cR).2.1 rfl) rfl rfl hl.1 rfl (lv_room (Nat.le_of_ble_eq_true rfl)) dX6_wouldRefuse_26 ⟨Nat.zero_le _, Nat.zero_le _⟩) hA hS (fun H locs hP hS => ?_)
        refine lv_aload_n hx hb dX6_wouldRefuse_29 rfl (lv_at hl 0 rfl) ?_
        refine w_get (C := RX6) (T := TX6) (N := 4) (ci := 6) (v := .ref (ad 1)) hx hb hts hinX6 hown hK hP (S_ac ad cI cR).1 (S_ac ad cI cR).2 rfl 0 (by decide) (hts (.fieldLink RX6 10 "AdmissionControl" "server" "LAdmissionControl$Server;") (List.mem_of_getElem? (i := 2) rfl)) (fun _ h9 => h9) rfl dX6_wouldRefuse_30 ?_
        refine lv_iload_n hx hb dX6_wouldRefuse_33 rfl (lv_at hl 2 rfl) ?_
        obtain ⟨r23, m24, hq, hf⟩ := ob_e hf
        refine w_ci (va_runV (As := [.int a2]) (rest := [.null, .ref (ad 1)]) ⟨hx, hb, hml, hown, hts⟩ (c_X4_expectedCost l D ad cI cR hi fu 1 a2 (S_srv1 ad cI cR) m22 r23 m24 hq) (cwV 1 hts gX6_wouldRefuse_X4_expectedCost rfl rfl rfl (by decide +kernel) ⟨Nat.le_of_ble_eq_true rfl, Nat.le_of_ble_eq_true rfl⟩) (w_preV (ci := 4) hK hP hN (S_srv1 ad cI cR).1 (S_srv1 ad cI cR).2.1 rfl) rfl rfl hl.1 rfl (lv_room (Nat.le_of_ble_eq_true rfl)) dX6_wouldRefuse_34 ⟨Nat.zero_le _, Nat.zero_le _⟩) hA hS (fun H locs hP hS => ?_)
        cases hf
      · have ho21 := (t_X4_lane ad cI cR fu 1 a1 (S_srv1 ad cI cR) m19 o21 m22 hq)
        refine w_cqS (va_runV (As := [.int a1]) (rest := [.ref (ad 1)]) ⟨hx, hb, hml, hown, hts⟩ (c_X4_lane l D ad cI cR hi fu 1 a1 (S_srv1 ad cI cR) m19 (some o21) m22 hq) (cwV 1 hts gX6_wouldRefuse_X4_lane rfl rfl rfl (by decide +kernel) ⟨Nat.le_of_ble_eq_true rfl, Nat.le_of_ble_eq_true rfl⟩) (w_preV (ci := 4) hK hP hN (S_srv1 ad cI cR).1 (S_srv1 ad cI cR).2.1 rfl) rfl rfl hl.1 rfl (lv_room (Nat.le_of_ble_eq_true rfl)) dX6_wouldRefuse_26 ⟨Nat.zero_le _, Nat.zero_le _⟩) hA hS (fun H locs hP hS => ?_)
        refine lv_aload_n hx hb dX6_wouldRefuse_29 rfl (lv_at hl 0 rfl) ?_
        refine w_get (C := RX6) (T := TX6) (N := 4) (ci := 6) (v := .ref (ad 1)) hx hb hts hinX6 hown hK hP (S_ac ad cI cR).1 (S_ac ad cI cR).2 rfl 0 (by decide) (hts (.fieldLink RX6 10 "AdmissionControl" "server" "LAdmissionControl$Server;") (List.mem_of_getElem? (i := 2) rfl)) (fun _ h9 => h9) rfl dX6_wouldRefuse_30 ?_
        refine lv_iload_n hx hb dX6_wouldRefuse_33 rfl (lv_at hl 2 rfl) ?_
        obtain ⟨r25, m26, hq, hf⟩ := ob_e hf
        refine w_ci (va_runV (As := [.int a2]) (rest := [.ref (ad o21), .ref (ad 1)]) ⟨hx, hb, hml, hown, hts⟩ (c_X4_expectedCost l D ad cI cR hi fu 1 a2 (S_srv1 ad cI cR) m22 r25 m26 hq) (cwV 1 hts gX6_wouldRefuse_X4_expectedCost rfl rfl rfl (by decide +kernel) ⟨Nat.le_of_ble_eq_true rfl, Nat.le_of_ble_eq_true rfl⟩) (w_preV (ci := 4) hK hP hN (S_srv1 ad cI cR).1 (S_srv1 ad cI cR).2.1 rfl) rfl rfl hl.1 rfl (lv_room (Nat.le_of_ble_eq_true rfl)) dX6_wouldRefuse_34 ⟨Nat.zero_le _, Nat.zero_le _⟩) hA hS (fun H locs hP hS => ?_)
        obtain ⟨r27, m28, hq, hf⟩ := ob_e hf
        refine w_ci (va_runV (As := [.ref (ad o21), .int r25]) (rest := []) ⟨hx, hb, hml, hown, hts⟩ (c_X4_firstRefusal l D ad cI cR hi fu 1 o21 r25 (S_srv1 ad cI cR) ho21 m26 r27 m28 hq) (cwV 2 hts gX6_wouldRefuse_X4_firstRefusal rfl rfl rfl (by decide +kernel) ⟨Nat.le_of_ble_eq_true rfl, Nat.le_of_ble_eq_true rfl⟩) (w_preV (ci := 4) hK hP hN (S_srv1 ad cI cR).1 (S_srv1 ad cI cR).2.1 rfl) rfl rfl hl.1 rfl (lv_room (Nat.le_of_ble_eq_true rfl)) dX6_wouldRefuse_37 ⟨Nat.zero_le _, Nat.zero_le _⟩) hA hS (fun H locs hP hS => ?_)
        cases hf
        exact w_iret hx hb hr hlocks hP hS dX6_wouldRefuse_40
    · rw [if_pos c20] at hf
      refine lv_ldc (v := (-100001)) hx hb hown (hts (.constant RX6 37 (-100001)) (List.mem_of_getElem? (i := 1) rfl)) dX6_wouldRefuse_14 ?_
      cases hf
      exact w_iret hx hb hr hlocks hP hS dX6_wouldRefuse_16
def F_X6_ticksLeft (fu : Nat)  (mm : Mem) : Option (Int32 × Mem) := ob (F_X3_at fu (1 + 1) 4 0 mm) fun r5 m6 => ob (F_X6_ticksOfTrial fu r5 m6) fun r7 m8 => some (r7, m8)
set_option maxHeartbeats 4000000 in
set_option maxRecDepth 100000 in
theorem c_X6_ticksLeft (l : Launch) (D : va_G) (ad : Nat → Nat) (cI cR : ClassId) (hi : inj ad) (fu : Nat)   (mm : Mem) (r0 : Int32) (m9 : Mem) (hf : F_X6_ticksLeft fu  mm = some (r0, m9)) : MI l yX6_ticksLeft wsX6_ticksLeft { frames := 6, cells := 0, slots := 0, locals := 136 } D ad cI cR [.ref (ad 0)] mm r0 m9 := by
  refine Met.ofW (cc := cX6_ticksLeft) (maxL := 1) (ret := (some .int)) (by decide) rfl ?_
  intro p e s m args below meth c s₁ B hml hv
  obtain ⟨rfl, hP, hK, hN⟩ := hv
  have hx := B.exec
  have hb := B.bytes
  have hr := B.returns
  have hts := atoms_spec (ws := wsX6_ticksLeft) B.pre
  have hown : s.vm.findClass RX6 = some m.cls := findClass_of_methodNamed B.named
  have hlocks := B.notSynchronized
  have hA : ∀ q, AA ad q → AA ad q := fun _ h => h
  have hS : va_S (AA ad) s.heap s.heap [] := va_S.rf
  have hinX4 : ∀ w ∈ wsX40, w ∈ wsX6_ticksLeft := (fun _ h => List.mem_cons_of_mem _ (List.mem_append_left _ (List.mem_append_left _ (List.mem_append_left _ (List.mem_append_right _ h)))))
  have hinX6 : ∀ w ∈ wsX60, w ∈ wsX6_ticksLeft := (fun _ h => List.mem_cons_of_mem _ (List.mem_append_left _ (List.mem_append_left _ (List.mem_append_left _ (List.mem_append_left _ (List.mem_append_right _ h))))))
  have hl := lv_entry ([.ref (ad 0)]) (n := 1) (Nat.le_of_ble_eq_true rfl)
  rw [lg_entry_eq]
  generalize (lg_sl ([.ref (ad 0)]) ++ List.replicate (1 - (lg_sl ([.ref (ad 0)])).length) Slot.unset).toArray = ls at hl ⊢
  have hl : lv_has ls 1 [(0, .ref (ad 0))] := hl
  unfold F_X6_ticksLeft at hf
  refine lv_aload_n hx hb dX6_ticksLeft_0 rfl (lv_at hl 0 rfl) ?_
  refine lv_aload_n hx hb dX6_ticksLeft_1 rfl (lv_at hl 0 rfl) ?_
  refine w_get (C := RX6) (T := TX6) (N := 4) (ci := 6) (v := .ref (ad 1)) hx hb hts hinX6 hown hK hP (S_ac ad cI cR).1 (S_ac ad cI cR).2 rfl 0 (by decide) (hts (.fieldLink RX6 10 "AdmissionControl" "server" "LAdmissionControl$Server;") (List.mem_of_getElem? (i := 1) rfl)) (fun _ h9 => h9) rfl dX6_ticksLeft_2 ?_
  refine w_get (C := RX4) (T := TX4) (N := 11) (ci := 4) (v := .ref (ad (1 + 1))) hx hb hts hinX4 hown hK hP (S_srv1 ad cI cR).1 (S_srv1 ad cI cR).2.1 rfl 0 (by decide) (hts (.fieldLink RX6 47 "AdmissionControl$Server" "settings" "LAdmissionControl$Row;") (List.mem_of_getElem? (i := 2) rfl)) (fun _ h9 => h9) rfl dX6_ticksLeft_5 ?_
  refine lv_iconst (v := 0) hx hb dX6_ticksLeft_8 (by decide) ?_
  obtain ⟨r5, m6, hq, hf⟩ := ob_e hf
  refine w_ci (va_runV (As := [.int 0]) (rest := [.ref (ad 0)]) ⟨hx, hb, hml, hown, hts⟩ (c_X3_at l D ad cI cR hi fu (1 + 1) 4 0 (S_srv1 ad cI cR).2.2.1 mm r5 m6 hq) (cwV 1 hts gX6_ticksLeft_X3_at rfl rfl rfl (by decide +kernel) ⟨Nat.le_of_ble_eq_true rfl, Nat.le_of_ble_eq_true rfl⟩) (w_preV (ci := 3) hK hP hN (S_srv1 ad cI cR).2.2.1.1 (S_srv1 ad cI cR).2.2.1.2.1 rfl) rfl rfl hl.1 rfl (lv_room (Nat.le_of_ble_eq_true rfl)) dX6_ticksLeft_9 ⟨Nat.zero_le _, Nat.zero_le _⟩) hA hS (fun H locs hP hS => ?_)
  obtain ⟨r7, m8, hq, hf⟩ := ob_e hf
  refine w_ci (va_runV (As := [.int r5]) (rest := []) ⟨hx, hb, hml, hown, hts⟩ (c_X6_ticksOfTrial l D ad cI cR hi fu r5 m6 r7 m8 hq) (cwV 1 hts gX6_ticksLeft_X6_ticksOfTrial rfl rfl rfl (by decide +kernel) ⟨Nat.le_of_ble_eq_true rfl, Nat.le_of_ble_eq_true rfl⟩) (w_preV (ci := 6) hK hP hN (S_ac ad cI cR).1 (S_ac ad cI cR).2 rfl) rfl rfl hl.1 rfl (lv_room (Nat.le_of_ble_eq_true rfl)) dX6_ticksLeft_12 ⟨Nat.zero_le _, Nat.zero_le _⟩) hA hS (fun H locs hP hS => ?_)
  cases hf
  exact w_iret hx hb hr hlocks hP hS dX6_ticksLeft_15
def F_X6_ticksIf (fu : Nat) (a1 : Int32) (mm : Mem) : Option (Int32 × Mem) := ob (F_X6_isServerValue fu 0 a1 mm) fun r6 m7 => if r6 = 0 then (some ((-100002), m7)) else (ob (F_X6_ticksOfTrial fu a1 m7) fun r9 m10 => some (r9, m10))
set_option maxHeartbeats 4000000 in
set_option maxRecDepth 100000 in
theorem c_X6_ticksIf (l : Launch) (D : va_G) (ad : Nat → Nat) (cI cR : ClassId) (hi : inj ad) (fu : Nat) (a1 : Int32)  (mm : Mem) (r0 : Int32) (m9 : Mem) (hf : F_X6_ticksIf fu a1 mm = some (r0, m9)) : MI l yX6_ticksIf wsX6_ticksIf { frames := 6, cells := 0, slots := 0, locals := 136 } D ad cI cR [.ref (ad 0), .int a1] mm r0 m9 := by
  refine Met.ofW (cc := cX6_ticksIf) (maxL := 2) (ret := (some .int)) (by decide) rfl ?_
  intro p e s m args below meth c s₁ B hml hv
  obtain ⟨rfl, hP, hK, hN⟩ := hv
  have hx := B.exec
  have hb := B.bytes
  have hr := B.returns
  have hts := atoms_spec (ws := wsX6_ticksIf) B.pre
  have hown : s.vm.findClass RX6 = some m.cls := findClass_of_methodNamed B.named
  have hlocks := B.notSynchronized
  have hA : ∀ q, AA ad q → AA ad q := fun _ h => h
  have hS : va_S (AA ad) s.heap s.heap [] := va_S.rf
  have hl := lv_entry ([.ref (ad 0), .int a1]) (n := 2) (Nat.le_of_ble_eq_true rfl)
  rw [lg_entry_eq]
  generalize (lg_sl ([.ref (ad 0), .int a1]) ++ List.replicate (2 - (lg_sl ([.ref (ad 0), .int a1])).length) Slot.unset).toArray = ls at hl ⊢
  have hl : lv_has ls 2 [(0, .ref (ad 0)), (1, .int a1)] := hl
  unfold F_X6_ticksIf at hf
  refine lv_iconst (v := 0) hx hb dX6_ticksIf_0 (by decide) ?_
  refine lv_iload_n hx hb dX6_ticksIf_1 rfl (lv_at hl 1 rfl) ?_
  obtain ⟨r6, m7, hq, hf⟩ := ob_e hf
  refine w_ci (va_runS (As := [.int 0, .int a1]) (rest := []) ⟨hx, hb, hml, hown, hts⟩ (c_X6_isServerValue l D ad cI cR hi fu 0 a1 mm r6 m7 hq) (va_cwS 2 hts gX6_ticksIf_X6_isServerValue rfl rfl rfl (by decide +kernel) ⟨Nat.le_of_ble_eq_true rfl, Nat.le_of_ble_eq_true rfl⟩) (w_preS hK hP hN) rfl rfl hl.1 rfl (lv_room (Nat.le_of_ble_eq_true rfl)) dX6_ticksIf_2 ⟨Nat.zero_le _, Nat.zero_le _⟩) hA hS (fun H locs hP hS => ?_)
  refine lv_if_ne (tgt := 11) hx hb dX6_ticksIf_5 (by decide) (fun c8 => ?_) (fun c8 => ?_)
  · rw [if_neg c8] at hf
    refine lv_aload_n hx hb dX6_ticksIf_11 rfl (lv_at hl 0 rfl) ?_
    refine lv_iload_n hx hb dX6_ticksIf_12 rfl (lv_at hl 1 rfl) ?_
    obtain ⟨r9, m10, hq, hf⟩ := ob_e hf
    refine w_ci (va_runV (As := [.int a1]) (rest := []) ⟨hx, hb, hml, hown, hts⟩ (c_X6_ticksOfTrial l D ad cI cR hi fu a1 m7 r9 m10 hq) (cwV 1 hts gX6_ticksIf_X6_ticksOfTrial rfl rfl rfl (by decide +kernel) ⟨Nat.le_of_ble_eq_true rfl, Nat.le_of_ble_eq_true rfl⟩) (w_preV (ci := 6) hK hP hN (S_ac ad cI cR).1 (S_ac ad cI cR).2 rfl) rfl rfl hl.1 rfl (lv_room (Nat.le_of_ble_eq_true rfl)) dX6_ticksIf_13 ⟨Nat.zero_le _, Nat.zero_le _⟩) hA hS (fun H locs hP hS => ?_)
    cases hf
    exact w_iret hx hb hr hlocks hP hS dX6_ticksIf_16
  · rw [if_pos c8] at hf
    refine lv_ldc (v := (-100002)) hx hb hown (hts (.constant RX6 42 (-100002)) (List.mem_of_getElem? (i := 1) rfl)) dX6_ticksIf_8 ?_
    cases hf
    exact w_iret hx hb hr hlocks hP hS dX6_ticksIf_10
def F_X6_leastCapacity_L2 (fu : Nat)   : Nat → Int32 → Mem → Option (Int32 × Mem)
  | 0, _, _ => none
  | n + 1, x1, mm => if 20 < x1 then (some ((-100005), mm)) else (ob (F_X6_trialEndsWithoutRejection fu x1 mm) fun r12 m13 => if r12 = 0 then (bd (x1 + 1) fun v15 => F_X6_leastCapacity_L2 fu  n v15 m13) else (some (x1, m13)))
def F_X6_leastCapacity (fu : Nat)  (mm : Mem) : Option (Int32 × Mem) := F_X6_leastCapacity_L2 fu  fu 1 mm
set_option maxHeartbeats 4000000 in
set_option maxRecDepth 100000 in
theorem c_X6_leastCapacity (l : Launch) (D : va_G) (ad : Nat → Nat) (cI cR : ClassId) (hi : inj ad) (fu : Nat)   (mm : Mem) (r0 : Int32) (m9 : Mem) (hf : F_X6_leastCapacity fu  mm = some (r0, m9)) : MI l yX6_leastCapacity wsX6_leastCapacity { frames := 6, cells := 0, slots := 0, locals := 136 } D ad cI cR [.ref (ad 0)] mm r0 m9 := by
  refine Met.ofW (cc := cX6_leastCapacity) (maxL := 2) (ret := (some .int)) (by decide) rfl ?_
  intro p e s m args below meth c s₁ B hml hv
  obtain ⟨rfl, hP, hK, hN⟩ := hv
  have hx := B.exec
  have hb := B.bytes
  have hr := B.returns
  have hts := atoms_spec (ws := wsX6_leastCapacity) B.pre
  have hown : s.vm.findClass RX6 = some m.cls := findClass_of_methodNamed B.named
  have hlocks := B.notSynchronized
  have hA : ∀ q, AA ad q → AA ad q := fun _ h => h
  have hS : va_S (AA ad) s.heap s.heap [] := va_S.rf
  have hL2 : ∀ (n : Nat) (x1 : Int32)  (mm : Mem) (H : Heap) (locs : List Loc) (ls : Array Slot), F_X6_leastCapacity_L2 fu   n x1 mm = some (r0, m9) → va_P D vwCl (cw ad cI cR mm) H → va_S (AA ad) s.heap H locs → lv_has ls 2 [(0, .ref (ad 0)), (1, .int x1)] → W p l e (headSpec wsX6_leastCapacity { frames := 6, cells := 0, slots := 0, locals := 136 }).room s m ([.ref (ad 0)] : List Value).toArray below meth c H locs 0 0 (MQ below (va_Qi (fun (r' : Int32) (u : Mem) => r' = r0 ∧ u = m9) (KB D ad cI cR) (AA ad)) ([.ref (ad 0)] : List Value).toArray s 0 0 (AA ad)) (F0 m 2 ls []) := by
    intro n
    induction n with
    | zero =>
      intro x1 mm H locs ls hf hP hS hl
      rw [F_X6_leastCapacity_L2] at hf
      cases hf
    | succ n2 ih2 =>
      intro x1 mm H locs ls hf hP hS hl
      rw [F_X6_leastCapacity_L2] at hf
      refine lv_iload_n hx hb dX6_leastCapacity_2 rfl (lv_at hl 1 rfl) ?_
      refine lv_bipush (v := 20) hx hb dX6_leastCapacity_3 (by decide) ?_
      refine lv_icmp_gt (tgt := 24) hx hb dX6_leastCapacity_5 (by decide) (fun c11 => ?_) (fun c11 => ?_)
      · rw [if_pos c11] at hf
        refine lv_ldc (v := (-100005)) hx hb hown (hts (.constant RX6 100 (-100005)) (List.mem_of_getElem? (i := 1) rfl)) dX6_leastCapacity_24 ?_
        cases hf
        exact w_iret hx hb hr hlocks hP hS dX6_leastCapacity_26
      · rw [if_neg c11] at hf
        refine lv_aload_n hx hb dX6_leastCapacity_8 rfl (lv_at hl 0 rfl) ?_
        refine lv_iload_n hx hb dX6_leastCapacity_9 rfl (lv_at hl 1 rfl) ?_
        obtain ⟨r12, m13, hq, hf⟩ := ob_e hf
        refine w_ci (va_runV (As := [.int x1]) (rest := []) ⟨hx, hb, hml, hown, hts⟩ (c_X6_trialEndsWithoutRejection l D ad cI cR hi fu x1 mm r12 m13 hq) (cwV 1 hts gX6_leastCapacity_X6_trialEndsWithoutRejection rfl rfl rfl (by decide +kernel) ⟨Nat.le_of_ble_eq_true rfl, Nat.le_of_ble_eq_true rfl⟩) (w_preV (ci := 6) hK hP hN (S_ac ad cI cR).1 (S_ac ad cI cR).2 rfl) rfl rfl hl.1 rfl (lv_room (Nat.le_of_ble_eq_true rfl)) dX6_leastCapacity_10 ⟨Nat.zero_le _, Nat.zero_le _⟩) hA hS (fun H locs hP hS => ?_)
        refine lv_if_eq (tgt := 18) hx hb dX6_leastCapacity_13 (by decide) (fun c14 => ?_) (fun c14 => ?_)
        · rw [if_pos c14] at hf
          obtain ⟨v15, ev15, hf⟩ := bd_e hf
          refine lv_iinc (v := v15) (lv' := [(1, .int v15), (0, .ref (ad 0))]) hx hb dX6_leastCapacity_18 hl (k := 1) rfl (by rw [ev15]; rfl) (by decide) rfl (fun ls hl => ?_)
          refine lv_goto (tgt := 2) hx hb dX6_leastCapacity_21 (by decide) ?_
          exact ih2 v15 m13 _ _ _ hf hP hS (lv_sub hl [1, 0] rfl)
        · rw [if_neg c14] at hf
          refine lv_iload_n hx hb dX6_leastCapacity_16 rfl (lv_at hl 1 rfl) ?_
          cases hf
          exact w_iret hx hb hr hlocks hP hS dX6_leastCapacity_17
  have hl := lv_entry ([.ref (ad 0)]) (n := 2) (Nat.le_of_ble_eq_true rfl)
  rw [lg_entry_eq]
  generalize (lg_sl ([.ref (ad 0)]) ++ List.replicate (2 - (lg_sl ([.ref (ad 0)])).length) Slot.unset).toArray = ls at hl ⊢
  have hl : lv_has ls 2 [(0, .ref (ad 0))] := hl
  unfold F_X6_leastCapacity at hf
  refine lv_iconst (v := 1) hx hb dX6_leastCapacity_0 (by decide) ?_
  refine lv_istore_n (lv' := [(1, .int 1), (0, .ref (ad 0))]) hx hb dX6_leastCapacity_1 rfl hl (by decide) rfl (fun ls hl => ?_)
  exact hL2 fu 1 mm _ _ _ hf hP hS (lv_sub hl [1, 0] rfl)
def F_X6_finish_L57 (fu : Nat) (a1 : Int32)  (y2 : Nat) (mm : Mem) : Option (Int32 × Mem) := if (mm y2 4) = 2 then (some ((mm y2 10), mm)) else (some ((-100005), mm))
def F_X6_finish_L29 (fu : Nat) (a1 : Int32)  : Nat → Nat → Int32 → Mem → Option (Int32 × Mem)
  | 0, _, _, _ => none
  | n + 1, y2, x3, mm => if 400 ≤ x3 then (F_X6_finish_L57 fu a1 y2 mm) else (ob (F_X2_isSettled fu y2 mm) fun r21 m22 => if r21 = 0 then (ob (F_X4_tick fu 60 m22) fun r24 m25 => bd (x3 + 1) fun v26 => F_X6_finish_L29 fu a1 n y2 v26 m25) else (F_X6_finish_L57 fu a1 y2 m22))
def F_X6_finish (fu : Nat) (a1 : Int32) (mm : Mem) : Option (Int32 × Mem) := ov (F_X4_copyFrom fu 60 1 mm) fun m27 => oq (F_X4_find fu 60 a1 m27) (fun m29 => some ((-100001), m29)) (fun o28 m29 => F_X6_finish_L29 fu a1 fu o28 0 m29)
set_option maxHeartbeats 4000000 in
set_option maxRecDepth 100000 in
theorem c_X6_finish (l : Launch) (D : va_G) (ad : Nat → Nat) (cI cR : ClassId) (hi : inj ad) (fu : Nat) (a1 : Int32)  (mm : Mem) (r0 : Int32) (m9 : Mem) (hf : F_X6_finish fu a1 mm = some (r0, m9)) : MI l yX6_finish wsX6_finish { frames := 5, cells := 0, slots := 0, locals := 114 } D ad cI cR [.ref (ad 0), .int a1] mm r0 m9 := by
  refine Met.ofW (cc := cX6_finish) (maxL := 4) (ret := (some .int)) (by decide) rfl ?_
  intro p e s m args below meth c s₁ B hml hv
  obtain ⟨rfl, hP, hK, hN⟩ := hv
  have hx := B.exec
  have hb := B.bytes
  have hr := B.returns
  have hts := atoms_spec (ws := wsX6_finish) B.pre
  have hown : s.vm.findClass RX6 = some m.cls := findClass_of_methodNamed B.named
  have hlocks := B.notSynchronized
  have hA : ∀ q, AA ad q → AA ad q := fun _ h => h
  have hS : va_S (AA ad) s.heap s.heap [] := va_S.rf
  have hinX2 : ∀ w ∈ wsX20, w ∈ wsX6_finish := (fun _ h => List.mem_cons_of_mem _ (List.mem_append_left _ (List.mem_append_left _ (List.mem_append_left _ (List.mem_append_right _ h)))))
  have hinX6 : ∀ w ∈ wsX60, w ∈ wsX6_finish := (fun _ h => List.mem_cons_of_mem _ (List.mem_append_left _ (List.mem_append_left _ (List.mem_append_left _ (List.mem_append_left _ (List.mem_append_right _ h))))))
  have hL57 : ∀ (y2 : Nat) (hy2 : sReq ad cI cR y2) (mm : Mem) (H : Heap) (locs : List Loc) (ls : Array Slot), F_X6_finish_L57 fu a1  y2 mm = some (r0, m9) → va_P D vwCl (cw ad cI cR mm) H → va_S (AA ad) s.heap H locs → lv_has ls 4 [(2, .ref (ad y2))] → W p l e (headSpec wsX6_finish { frames := 5, cells := 0, slots := 0, locals := 114 }).room s m ([.ref (ad 0), .int a1] : List Value).toArray below meth c H locs 0 0 (MQ below (va_Qi (fun (r' : Int32) (u : Mem) => r' = r0 ∧ u = m9) (KB D ad cI cR) (AA ad)) ([.ref (ad 0), .int a1] : List Value).toArray s 0 0 (AA ad)) (F0 m 57 ls []) := by
    intro y2 hy2 mm H locs ls hf hP hS hl
    unfold F_X6_finish_L57 at hf
    refine lv_aload_n hx hb dX6_finish_57 rfl (lv_at hl 0 rfl) ?_
    refine w_get (C := RX2) (T := TX2) (N := 11) (ci := 2) (v := .int (mm y2 4)) hx hb hts hinX2 hown hK hP hy2.1 hy2.2 rfl 4 (by decide) (hts (.fieldLink RX6 154 "AdmissionControl$Request" "state" "I") (List.mem_of_getElem? (i := 4) rfl)) (fun _ h9 => h9) rfl dX6_finish_58 ?_
    refine lv_iconst (v := 2) hx hb dX6_finish_61 (by decide) ?_
    refine lv_icmp_ne (tgt := 72) hx hb dX6_finish_62 (by decide) (fun c19 => ?_) (fun c19 => ?_)
    · rw [if_neg c19] at hf
      refine lv_ldc (v := (-100005)) hx hb hown (hts (.constant RX6 100 (-100005)) (List.mem_of_getElem? (i := 6) rfl)) dX6_finish_72 ?_
      cases hf
      exact w_iret hx hb hr hlocks hP hS dX6_finish_74
    · rw [if_pos c19] at hf
      refine lv_aload_n hx hb dX6_finish_65 rfl (lv_at hl 0 rfl) ?_
      refine w_get (C := RX2) (T := TX2) (N := 11) (ci := 2) (v := .int (mm y2 10)) hx hb hts hinX2 hown hK hP hy2.1 hy2.2 rfl 10 (by decide) (hts (.fieldLink RX6 169 "AdmissionControl$Request" "tick" "I") (List.mem_of_getElem? (i := 5) rfl)) (fun _ h9 => h9) rfl dX6_finish_66 ?_
      refine lv_goto (tgt := 74) hx hb dX6_finish_69 (by decide) ?_
      cases hf
      exact w_iret hx hb hr hlocks hP hS dX6_finish_74
  have hL29 : ∀ (n : Nat) (y2 : Nat) (x3 : Int32) (hy2 : sReq ad cI cR y2) (mm : Mem) (H : Heap) (locs : List Loc) (ls : Array Slot), F_X6_finish_L29 fu a1  n y2 x3 mm = some (r0, m9) → va_P D vwCl (cw ad cI cR mm) H → va_S (AA ad) s.heap H locs → lv_has ls 4 [(0, .ref (ad 0)), (2, .ref (ad y2)), (3, .int x3)] → W p l e (headSpec wsX6_finish { frames := 5, cells := 0, slots := 0, locals := 114 }).room s m ([.ref (ad 0), .int a1] : List Value).toArray below meth c H locs 0 0 (MQ below (va_Qi (fun (r' : Int32) (u : Mem) => r' = r0 ∧ u = m9) (KB D ad cI cR) (AA ad)) ([.ref (ad 0), .int a1] : List Value).toArray s 0 0 (AA ad)) (F0 m 29 ls []) := by
    intro n
    induction n with
    | zero =>
      intro y2 x3 hy2 mm H locs ls hf hP hS hl
      rw [F_X6_finish_L29] at hf
      cases hf
    | succ n29 ih29 =>
      intro y2 x3 hy2 mm H locs ls hf hP hS hl
      rw [F_X6_finish_L29] at hf
      refine lv_iload_n hx hb dX6_finish_29 rfl (lv_at hl 2 rfl) ?_
      refine lv_sipush (v := 400) hx hb dX6_finish_30 (by decide) ?_
      refine lv_icmp_ge (tgt := 57) hx hb dX6_finish_33 (by decide) (fun c20 => ?_) (fun c20 => ?_)
      · rw [if_pos c20] at hf
        exact hL57 y2 hy2 mm _ _ _ hf hP hS (lv_sub hl [1] rfl)
      · rw [if_neg c20] at hf
        refine lv_aload_n hx hb dX6_finish_36 rfl (lv_at hl 1 rfl) ?_
        obtain ⟨r21, m22, hq, hf⟩ := ob_e hf
        refine w_ci (va_runV (As := []) (rest := []) ⟨hx, hb, hml, hown, hts⟩ (c_X2_isSettled l D ad cI cR hi fu y2 hy2 mm r21 m22 hq) (cwV 0 hts gX6_finish_X2_isSettled rfl rfl rfl (by decide +kernel) ⟨Nat.le_of_ble_eq_true rfl, Nat.le_of_ble_eq_true rfl⟩) (w_preV (ci := 2) hK hP hN hy2.1 hy2.2 rfl) rfl rfl hl.1 rfl (lv_room (Nat.le_of_ble_eq_true rfl)) dX6_finish_37 ⟨Nat.zero_le _, Nat.zero_le _⟩) hA hS (fun H locs hP hS => ?_)
        refine lv_if_ne (tgt := 57) hx hb dX6_finish_40 (by decide) (fun c23 => ?_) (fun c23 => ?_)
        · rw [if_neg c23] at hf
          exact hL57 y2 hy2 m22 _ _ _ hf hP hS (lv_sub hl [1] rfl)
        · rw [if_pos c23] at hf
          refine lv_aload_n hx hb dX6_finish_43 rfl (lv_at hl 0 rfl) ?_
          refine w_get (C := RX6) (T := TX6) (N := 4) (ci := 6) (v := .ref (ad 60)) hx hb hts hinX6 hown hK hP (S_ac ad cI cR).1 (S_ac ad cI cR).2 rfl 1 (by decide) (hts (.fieldLink RX6 16 "AdmissionControl" "trial" "LAdmissionControl$Server;") (List.mem_of_getElem? (i := 1) rfl)) (fun _ h9 => h9) rfl dX6_finish_44 ?_
          obtain ⟨r24, m25, hq, hf⟩ := ob_e hf
          refine w_ci (va_runV (As := []) (rest := []) ⟨hx, hb, hml, hown, hts⟩ (c_X4_tick l D ad cI cR hi fu 60 (S_srv60 ad cI cR) m22 r24 m25 hq) (cwV 0 hts gX6_finish_X4_tick rfl rfl rfl (by decide +kernel) ⟨Nat.le_of_ble_eq_true rfl, Nat.le_of_ble_eq_true rfl⟩) (w_preV (ci := 4) hK hP hN (S_srv60 ad cI cR).1 (S_srv60 ad cI cR).2.1 rfl) rfl rfl hl.1 rfl (lv_room (Nat.le_of_ble_eq_true rfl)) dX6_finish_47 ⟨Nat.zero_le _, Nat.zero_le _⟩) hA hS (fun H locs hP hS => ?_)
          refine lv_pop hx hb dX6_finish_50 rfl ?_
          obtain ⟨v26, ev26, hf⟩ := bd_e hf
          refine lv_iinc (v := v26) (lv' := [(3, .int v26), (0, .ref (ad 0)), (2, .ref (ad y2))]) hx hb dX6_finish_51 hl (k := 2) rfl (by rw [ev26]; rfl) (by decide) rfl (fun ls hl => ?_)
          refine lv_goto (tgt := 29) hx hb dX6_finish_54 (by decide) ?_
          exact ih29 y2 v26 hy2 m25 _ _ _ hf hP hS (lv_sub hl [1, 2, 0] rfl)
  have hl := lv_entry ([.ref (ad 0), .int a1]) (n := 4) (Nat.le_of_ble_eq_true rfl)
  rw [lg_entry_eq]
  generalize (lg_sl ([.ref (ad 0), .int a1]) ++ List.replicate (4 - (lg_sl ([.ref (ad 0), .int a1])).length) Slot.unset).toArray = ls at hl ⊢
  have hl : lv_has ls 4 [(0, .ref (ad 0)), (1, .int a1)] := hl
  unfold F_X6_finish at hf
  refine lv_aload_n hx hb dX6_finish_0 rfl (lv_at hl 0 rfl) ?_
  refine w_get (C := RX6) (T := TX6) (N := 4) (ci := 6) (v := .ref (ad 60)) hx hb hts hinX6 hown hK hP (S_ac ad cI cR).1 (S_ac ad cI cR).2 rfl 1 (by decide) (hts (.fieldLink RX6 16 "AdmissionControl" "trial" "LAdmissionControl$Server;") (List.mem_of_getElem? (i := 1) rfl)) (fun _ h9 => h9) rfl dX6_finish_1 ?_
  refine lv_aload_n hx hb dX6_finish_4 rfl (lv_at hl 0 rfl) ?_
  refine w_get (C := RX6) (T := TX6) (N := 4) (ci := 6) (v := .ref (ad 1)) hx hb hts hinX6 hown hK hP (S_ac ad cI cR).1 (S_ac ad cI cR).2 rfl 0 (by decide) (hts (.fieldLink RX6 10 "AdmissionControl" "server" "LAdmissionControl$Server;") (List.mem_of_getElem? (i := 2) rfl)) (fun _ h9 => h9) rfl dX6_finish_5 ?_
  obtain ⟨m27, hq, hf⟩ := ov_e hf
  refine w_cv (va_runV (As := [.ref (ad 1)]) (rest := []) ⟨hx, hb, hml, hown, hts⟩ (c_X4_copyFrom l D ad cI cR hi fu 60 1 (S_srv60 ad cI cR) (S_srv1 ad cI cR) mm m27 hq) (cwV 1 hts gX6_finish_X4_copyFrom rfl rfl rfl (by decide +kernel) ⟨Nat.le_of_ble_eq_true rfl, Nat.le_of_ble_eq_true rfl⟩) (w_preV (ci := 4) hK hP hN (S_srv60 ad cI cR).1 (S_srv60 ad cI cR).2.1 rfl) rfl rfl hl.1 rfl (lv_room (Nat.le_of_ble_eq_true rfl)) dX6_finish_8 ⟨Nat.zero_le _, Nat.zero_le _⟩) hA hS (fun H locs hP hS => ?_)
  refine lv_aload_n hx hb dX6_finish_11 rfl (lv_at hl 0 rfl) ?_
  refine w_get (C := RX6) (T := TX6) (N := 4) (ci := 6) (v := .ref (ad 60)) hx hb hts hinX6 hown hK hP (S_ac ad cI cR).1 (S_ac ad cI cR).2 rfl 1 (by decide) (hts (.fieldLink RX6 16 "AdmissionControl" "trial" "LAdmissionControl$Server;") (List.mem_of_getElem? (i := 1) rfl)) (fun _ h9 => h9) rfl dX6_finish_12 ?_
  refine lv_iload_n hx hb dX6_finish_15 rfl (lv_at hl 1 rfl) ?_
  rcases oq_e hf with ⟨m29, hq, hf⟩ | ⟨o28, m29, hq, hf⟩
  · refine w_cqN (va_runV (As := [.int a1]) (rest := []) ⟨hx, hb, hml, hown, hts⟩ (c_X4_find l D ad cI cR hi fu 60 a1 (S_srv60 ad cI cR) m27 none m29 hq) (cwV 1 hts gX6_finish_X4_find rfl rfl rfl (by decide +kernel) ⟨Nat.le_of_ble_eq_true rfl, Nat.le_of_ble_eq_true rfl⟩) (w_preV (ci := 4) hK hP hN (S_srv60 ad cI cR).1 (S_srv60 ad cI cR).2.1 rfl) rfl rfl hl.1 rfl (lv_room (Nat.le_of_ble_eq_true rfl)) dX6_finish_16 ⟨Nat.zero_le _, Nat.zero_le _⟩) hA hS (fun H locs hP hS => ?_)
    refine lv_astore_nN (lv' := [(2, .null), (0, .ref (ad 0)), (1, .int a1)]) hx hb dX6_finish_19 rfl hl (by decide) rfl (fun ls hl => ?_)
    refine lv_aload_nN hx hb dX6_finish_20 rfl (lv_at hl 0 rfl) ?_
    refine lv_ifnonnullN hx hb dX6_finish_21 ?_
    refine lv_ldc (v := (-100001)) hx hb hown (hts (.constant RX6 37 (-100001)) (List.mem_of_getElem? (i := 3) rfl)) dX6_finish_24 ?_
    cases hf
    exact w_iret hx hb hr hlocks hP hS dX6_finish_26
  · have ho28 := (t_X4_find ad cI cR fu 60 a1 (S_srv60 ad cI cR) m27 o28 m29 hq)
    refine w_cqS (va_runV (As := [.int a1]) (rest := []) ⟨hx, hb, hml, hown, hts⟩ (c_X4_find l D ad cI cR hi fu 60 a1 (S_srv60 ad cI cR) m27 (some o28) m29 hq) (cwV 1 hts gX6_finish_X4_find rfl rfl rfl (by decide +kernel) ⟨Nat.le_of_ble_eq_true rfl, Nat.le_of_ble_eq_true rfl⟩) (w_preV (ci := 4) hK hP hN (S_srv60 ad cI cR).1 (S_srv60 ad cI cR).2.1 rfl) rfl rfl hl.1 rfl (lv_room (Nat.le_of_ble_eq_true rfl)) dX6_finish_16 ⟨Nat.zero_le _, Nat.zero_le _⟩) hA hS (fun H locs hP hS => ?_)
    refine lv_astore_n (lv' := [(2, .ref (ad o28)), (0, .ref (ad 0)), (1, .int a1)]) hx hb dX6_finish_19 rfl hl (by decide) rfl (fun ls hl => ?_)
    refine lv_aload_n hx hb dX6_finish_20 rfl (lv_at hl 0 rfl) ?_
    refine lv_ifnonnull (tgt := 27) hx hb dX6_finish_21 (by decide) ?_
    refine lv_iconst (v := 0) hx hb dX6_finish_27 (by decide) ?_
    refine lv_istore_n (lv' := [(3, .int 0), (2, .ref (ad o28)), (0, .ref (ad 0)), (1, .int a1)]) hx hb dX6_finish_28 rfl hl (by decide) rfl (fun ls hl => ?_)
    exact hL29 fu o28 0 ho28 m29 _ _ _ hf hP hS (lv_sub hl [2, 1, 0] rfl)
