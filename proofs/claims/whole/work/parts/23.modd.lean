def F_X7_setting (fu : Nat) (a1 : Int32) (mm : Mem) : Option (Int32 × Mem) := ob (F_X7_in fu a1 0 3 mm) fun r5 m6 => if r5 = 0 then (some ((-100001), m6)) else (bd (0 + a1) fun v8 => gd (inb v8 395) (some ((m6 360 v8.toNatClampNeg), m6)))
set_option maxHeartbeats 4000000 in
set_option maxRecDepth 100000 in
theorem c_X7_setting (l : Launch) (D : va_G) (ad : Nat → Nat) (cI cR : ClassId) (hi : inj ad) (fu : Nat) (a1 : Int32)  (mm : Mem) (r0 : Int32) (m9 : Mem) (hf : F_X7_setting fu a1 mm = some (r0, m9)) : MI l yX7_setting wsX7_setting { frames := 1, cells := 0, slots := 0, locals := 22 } D ad cI cR [.ref (ad 359), .int a1] mm r0 m9 := by
  refine Met.ofW (cc := cX7_setting) (maxL := 2) (ret := (some .int)) (by decide) rfl ?_
  intro p e s m args below meth c s₁ B hml hv
  obtain ⟨rfl, hP, hK, hN⟩ := hv
  have hx := B.exec
  have hb := B.bytes
  have hr := B.returns
  have hts := atoms_spec (ws := wsX7_setting) B.pre
  have hown : s.vm.findClass RX7 = some m.cls := findClass_of_methodNamed B.named
  have hlocks := B.notSynchronized
  have hA : ∀ q, AA ad q → AA ad q := fun _ h => h
  have hS : va_S (AA ad) s.heap s.heap [] := va_S.rf
  have hinX7 : ∀ w ∈ wsX70, w ∈ wsX7_setting := (fun _ h => List.mem_cons_of_mem _ (List.mem_append_right _ h))
  have hl := lv_entry ([.ref (ad 359), .int a1]) (n := 2) (Nat.le_of_ble_eq_true rfl)
  rw [lg_entry_eq]
  generalize (lg_sl ([.ref (ad 359), .int a1]) ++ List.replicate (2 - (lg_sl ([.ref (ad 359), .int a1])).length) Slot.unset).toArray = ls at hl ⊢
  have hl : lv_has ls 2 [(0, .ref (ad 359)), (1, .int a1)] := hl
  unfold F_X7_setting at hf
  refine lv_iload_n hx hb dX7_setting_0 rfl (lv_at hl 1 rfl) ?_
  refine lv_iconst (v := 0) hx hb dX7_setting_1 (by decide) ?_
  refine lv_iconst (v := 3) hx hb dX7_setting_2 (by decide) ?_
  obtain ⟨r5, m6, hq, hf⟩ := ob_e hf
  refine w_ci (va_runS (As := [.int a1, .int 0, .int 3]) (rest := []) ⟨hx, hb, hml, hown, hts⟩ (c_X7_in l D ad cI cR hi fu a1 0 3 mm r5 m6 hq) (va_cwS 3 hts gX7_setting_X7_in rfl rfl rfl (by decide +kernel) ⟨Nat.le_of_ble_eq_true rfl, Nat.le_of_ble_eq_true rfl⟩) (w_preS hK hP hN) rfl rfl hl.1 rfl (lv_room (Nat.le_of_ble_eq_true rfl)) dX7_setting_3 ⟨Nat.zero_le _, Nat.zero_le _⟩) hA hS (fun H locs hP hS => ?_)
  refine lv_if_eq (tgt := 20) hx hb dX7_setting_6 (by decide) (fun c7 => ?_) (fun c7 => ?_)
  · rw [if_pos c7] at hf
    refine lv_ldc (v := (-100001)) hx hb hown (hts (.constant RX7 83 (-100001)) (List.mem_of_getElem? (i := 2) rfl)) dX7_setting_20 ?_
    cases hf
    exact w_iret hx hb hr hlocks hP hS dX7_setting_22
  · rw [if_neg c7] at hf
    refine lv_aload_n hx hb dX7_setting_9 rfl (lv_at hl 0 rfl) ?_
    refine w_get (C := RX7) (T := TX7) (N := 9) (ci := 7) (v := .ref (ad 360)) hx hb hts hinX7 hown hK hP (S_mod ad cI cR).1 (S_mod ad cI cR).2 rfl 0 (by decide) (hts (.fieldLink RX7 7 "AdmissionControlModel" "z" "[I") (List.mem_of_getElem? (i := 1) rfl)) (fun _ h9 => h9) rfl dX7_setting_10 ?_
    refine lv_iconst (v := 0) hx hb dX7_setting_13 (by decide) ?_
    refine lv_iload_n hx hb dX7_setting_14 rfl (lv_at hl 1 rfl) ?_
    obtain ⟨v8, ev8, hf⟩ := bd_e hf
    refine lv_iadd hx hb dX7_setting_15 ?_
    refine w_top ev8 ?_
    obtain ⟨hnb, hf⟩ := gd_e hf
    refine w_ald hx hb hK hP (S_z ad cI cR) hnb dX7_setting_16 ?_
    refine lv_goto (tgt := 22) hx hb dX7_setting_17 (by decide) ?_
    cases hf
    exact w_iret hx hb hr hlocks hP hS dX7_setting_22
def F_X7_classSetting (fu : Nat) (a1 : Int32) (a2 : Int32) (mm : Mem) : Option (Int32 × Mem) := ob (F_X7_isClass fu a1 mm) fun r9 m10 => if r9 = 0 then (some ((-100001), m10)) else (ob (F_X7_in fu a2 0 3 m10) fun r12 m13 => if r12 = 0 then (some ((-100001), m13)) else (ob (F_X7_ofClass fu a1 a2 m13) fun r15 m16 => some (r15, m16)))
set_option maxHeartbeats 4000000 in
set_option maxRecDepth 100000 in
theorem c_X7_classSetting (l : Launch) (D : va_G) (ad : Nat → Nat) (cI cR : ClassId) (hi : inj ad) (fu : Nat) (a1 : Int32) (a2 : Int32)  (mm : Mem) (r0 : Int32) (m9 : Mem) (hf : F_X7_classSetting fu a1 a2 mm = some (r0, m9)) : MI l yX7_classSetting wsX7_classSetting { frames := 2, cells := 0, slots := 0, locals := 42 } D ad cI cR [.ref (ad 359), .int a1, .int a2] mm r0 m9 := by
  refine Met.ofW (cc := cX7_classSetting) (maxL := 3) (ret := (some .int)) (by decide) rfl ?_
  intro p e s m args below meth c s₁ B hml hv
  obtain ⟨rfl, hP, hK, hN⟩ := hv
  have hx := B.exec
  have hb := B.bytes
  have hr := B.returns
  have hts := atoms_spec (ws := wsX7_classSetting) B.pre
  have hown : s.vm.findClass RX7 = some m.cls := findClass_of_methodNamed B.named
  have hlocks := B.notSynchronized
  have hA : ∀ q, AA ad q → AA ad q := fun _ h => h
  have hS : va_S (AA ad) s.heap s.heap [] := va_S.rf
  have hl := lv_entry ([.ref (ad 359), .int a1, .int a2]) (n := 3) (Nat.le_of_ble_eq_true rfl)
  rw [lg_entry_eq]
  generalize (lg_sl ([.ref (ad 359), .int a1, .int a2]) ++ List.replicate (3 - (lg_sl ([.ref (ad 359), .int a1, .int a2])).length) Slot.unset).toArray = ls at hl ⊢
  have hl : lv_has ls 3 [(0, .ref (ad 359)), (1, .int a1), (2, .int a2)] := hl
  unfold F_X7_classSetting at hf
  refine lv_iload_n hx hb dX7_classSetting_0 rfl (lv_at hl 1 rfl) ?_
  obtain ⟨r9, m10, hq, hf⟩ := ob_e hf
  refine w_ci (va_runS (As := [.int a1]) (rest := []) ⟨hx, hb, hml, hown, hts⟩ (c_X7_isClass l D ad cI cR hi fu a1 mm r9 m10 hq) (va_cwS 1 hts gX7_classSetting_X7_isClass rfl rfl rfl (by decide +kernel) ⟨Nat.le_of_ble_eq_true rfl, Nat.le_of_ble_eq_true rfl⟩) (w_preS hK hP hN) rfl rfl hl.1 rfl (lv_room (Nat.le_of_ble_eq_true rfl)) dX7_classSetting_1 ⟨Nat.zero_le _, Nat.zero_le _⟩) hA hS (fun H locs hP hS => ?_)
  refine lv_if_eq (tgt := 25) hx hb dX7_classSetting_4 (by decide) (fun c11 => ?_) (fun c11 => ?_)
  · rw [if_pos c11] at hf
    refine lv_ldc (v := (-100001)) hx hb hown (hts (.constant RX7 83 (-100001)) (List.mem_of_getElem? (i := 1) rfl)) dX7_classSetting_25 ?_
    cases hf
    exact w_iret hx hb hr hlocks hP hS dX7_classSetting_27
  · rw [if_neg c11] at hf
    refine lv_iload_n hx hb dX7_classSetting_7 rfl (lv_at hl 2 rfl) ?_
    refine lv_iconst (v := 0) hx hb dX7_classSetting_8 (by decide) ?_
    refine lv_iconst (v := 3) hx hb dX7_classSetting_9 (by decide) ?_
    obtain ⟨r12, m13, hq, hf⟩ := ob_e hf
    refine w_ci (va_runS (As := [.int a2, .int 0, .int 3]) (rest := []) ⟨hx, hb, hml, hown, hts⟩ (c_X7_in l D ad cI cR hi fu a2 0 3 m10 r12 m13 hq) (va_cwS 3 hts gX7_classSetting_X7_in rfl rfl rfl (by decide +kernel) ⟨Nat.le_of_ble_eq_true rfl, Nat.le_of_ble_eq_true rfl⟩) (w_preS hK hP hN) rfl rfl hl.1 rfl (lv_room (Nat.le_of_ble_eq_true rfl)) dX7_classSetting_10 ⟨Nat.zero_le _, Nat.zero_le _⟩) hA hS (fun H locs hP hS => ?_)
    refine lv_if_eq (tgt := 25) hx hb dX7_classSetting_13 (by decide) (fun c14 => ?_) (fun c14 => ?_)
    · rw [if_pos c14] at hf
      refine lv_ldc (v := (-100001)) hx hb hown (hts (.constant RX7 83 (-100001)) (List.mem_of_getElem? (i := 1) rfl)) dX7_classSetting_25 ?_
      cases hf
      exact w_iret hx hb hr hlocks hP hS dX7_classSetting_27
    · rw [if_neg c14] at hf
      refine lv_aload_n hx hb dX7_classSetting_16 rfl (lv_at hl 0 rfl) ?_
      refine lv_iload_n hx hb dX7_classSetting_17 rfl (lv_at hl 1 rfl) ?_
      refine lv_iload_n hx hb dX7_classSetting_18 rfl (lv_at hl 2 rfl) ?_
      obtain ⟨r15, m16, hq, hf⟩ := ob_e hf
      refine w_ci (va_runV (As := [.int a1, .int a2]) (rest := []) ⟨hx, hb, hml, hown, hts⟩ (c_X7_ofClass l D ad cI cR hi fu a1 a2 m13 r15 m16 hq) (cwV 2 hts gX7_classSetting_X7_ofClass rfl rfl rfl (by decide +kernel) ⟨Nat.le_of_ble_eq_true rfl, Nat.le_of_ble_eq_true rfl⟩) (w_preV (ci := 7) hK hP hN (S_mod ad cI cR).1 (S_mod ad cI cR).2 rfl) rfl rfl hl.1 rfl (lv_room (Nat.le_of_ble_eq_true rfl)) dX7_classSetting_19 ⟨Nat.zero_le _, Nat.zero_le _⟩) hA hS (fun H locs hP hS => ?_)
      refine lv_goto (tgt := 27) hx hb dX7_classSetting_22 (by decide) ?_
      cases hf
      exact w_iret hx hb hr hlocks hP hS dX7_classSetting_27
def F_X7_clock (fu : Nat)  (mm : Mem) : Option (Int32 × Mem) := gd (inb 67 395) (some ((mm 360 (67 : Int32).toNatClampNeg), mm))
set_option maxHeartbeats 4000000 in
set_option maxRecDepth 100000 in
theorem c_X7_clock (l : Launch) (D : va_G) (ad : Nat → Nat) (cI cR : ClassId) (hi : inj ad) (fu : Nat)   (mm : Mem) (r0 : Int32) (m9 : Mem) (hf : F_X7_clock fu  mm = some (r0, m9)) : MI l yX7_clock wsX7_clock { frames := 0, cells := 0, slots := 0, locals := 0 } D ad cI cR [.ref (ad 359)] mm r0 m9 := by
  refine Met.ofW (cc := cX7_clock) (maxL := 1) (ret := (some .int)) (by decide) rfl ?_
  intro p e s m args below meth c s₁ B hml hv
  obtain ⟨rfl, hP, hK, hN⟩ := hv
  have hx := B.exec
  have hb := B.bytes
  have hr := B.returns
  have hts := atoms_spec (ws := wsX7_clock) B.pre
  have hown : s.vm.findClass RX7 = some m.cls := findClass_of_methodNamed B.named
  have hlocks := B.notSynchronized
  have hA : ∀ q, AA ad q → AA ad q := fun _ h => h
  have hS : va_S (AA ad) s.heap s.heap [] := va_S.rf
  have hinX7 : ∀ w ∈ wsX70, w ∈ wsX7_clock := (fun _ h => List.mem_cons_of_mem _ (List.mem_append_right _ h))
  have hl := lv_entry ([.ref (ad 359)]) (n := 1) (Nat.le_of_ble_eq_true rfl)
  rw [lg_entry_eq]
  generalize (lg_sl ([.ref (ad 359)]) ++ List.replicate (1 - (lg_sl ([.ref (ad 359)])).length) Slot.unset).toArray = ls at hl ⊢
  have hl : lv_has ls 1 [(0, .ref (ad 359))] := hl
  unfold F_X7_clock at hf
  refine lv_aload_n hx hb dX7_clock_0 rfl (lv_at hl 0 rfl) ?_
  refine w_get (C := RX7) (T := TX7) (N := 9) (ci := 7) (v := .ref (ad 360)) hx hb hts hinX7 hown hK hP (S_mod ad cI cR).1 (S_mod ad cI cR).2 rfl 0 (by decide) (hts (.fieldLink RX7 7 "AdmissionControlModel" "z" "[I") (List.mem_of_getElem? (i := 1) rfl)) (fun _ h9 => h9) rfl dX7_clock_1 ?_
  refine lv_bipush (v := 67) hx hb dX7_clock_4 (by decide) ?_
  obtain ⟨hnb, hf⟩ := gd_e hf
  refine w_ald hx hb hK hP (S_z ad cI cR) hnb dX7_clock_6 ?_
  cases hf
  exact w_iret hx hb hr hlocks hP hS dX7_clock_7
def F_X7_estimate (fu : Nat) (a1 : Int32) (mm : Mem) : Option (Int32 × Mem) := ob (F_X7_isShape fu a1 mm) fun r5 m6 => if r5 = 0 then (some ((-100001), m6)) else (bd (70 + a1) fun v8 => gd (inb v8 395) (some ((m6 360 v8.toNatClampNeg), m6)))
set_option maxHeartbeats 4000000 in
set_option maxRecDepth 100000 in
theorem c_X7_estimate (l : Launch) (D : va_G) (ad : Nat → Nat) (cI cR : ClassId) (hi : inj ad) (fu : Nat) (a1 : Int32)  (mm : Mem) (r0 : Int32) (m9 : Mem) (hf : F_X7_estimate fu a1 mm = some (r0, m9)) : MI l yX7_estimate wsX7_estimate { frames := 2, cells := 0, slots := 0, locals := 42 } D ad cI cR [.ref (ad 359), .int a1] mm r0 m9 := by
  refine Met.ofW (cc := cX7_estimate) (maxL := 2) (ret := (some .int)) (by decide) rfl ?_
  intro p e s m args below meth c s₁ B hml hv
  obtain ⟨rfl, hP, hK, hN⟩ := hv
  have hx := B.exec
  have hb := B.bytes
  have hr := B.returns
  have hts := atoms_spec (ws := wsX7_estimate) B.pre
  have hown : s.vm.findClass RX7 = some m.cls := findClass_of_methodNamed B.named
  have hlocks := B.notSynchronized
  have hA : ∀ q, AA ad q → AA ad q := fun _ h => h
  have hS : va_S (AA ad) s.heap s.heap [] := va_S.rf
  have hinX7 : ∀ w ∈ wsX70, w ∈ wsX7_estimate := (fun _ h => List.mem_cons_of_mem _ (List.mem_append_right _ h))
  have hl := lv_entry ([.ref (ad 359), .int a1]) (n := 2) (Nat.le_of_ble_eq_true rfl)
  rw [lg_entry_eq]
  generalize (lg_sl ([.ref (ad 359), .int a1]) ++ List.replicate (2 - (lg_sl ([.ref (ad 359), .int a1])).length) Slot.unset).toArray = ls at hl ⊢
  have hl : lv_has ls 2 [(0, .ref (ad 359)), (1, .int a1)] := hl
  unfold F_X7_estimate at hf
  refine lv_iload_n hx hb dX7_estimate_0 rfl (lv_at hl 1 rfl) ?_
  obtain ⟨r5, m6, hq, hf⟩ := ob_e hf
  refine w_ci (va_runS (As := [.int a1]) (rest := []) ⟨hx, hb, hml, hown, hts⟩ (c_X7_isShape l D ad cI cR hi fu a1 mm r5 m6 hq) (va_cwS 1 hts gX7_estimate_X7_isShape rfl rfl rfl (by decide +kernel) ⟨Nat.le_of_ble_eq_true rfl, Nat.le_of_ble_eq_true rfl⟩) (w_preS hK hP hN) rfl rfl hl.1 rfl (lv_room (Nat.le_of_ble_eq_true rfl)) dX7_estimate_1 ⟨Nat.zero_le _, Nat.zero_le _⟩) hA hS (fun H locs hP hS => ?_)
  refine lv_if_eq (tgt := 19) hx hb dX7_estimate_4 (by decide) (fun c7 => ?_) (fun c7 => ?_)
  · rw [if_pos c7] at hf
    refine lv_ldc (v := (-100001)) hx hb hown (hts (.constant RX7 83 (-100001)) (List.mem_of_getElem? (i := 2) rfl)) dX7_estimate_19 ?_
    cases hf
    exact w_iret hx hb hr hlocks hP hS dX7_estimate_21
  · rw [if_neg c7] at hf
    refine lv_aload_n hx hb dX7_estimate_7 rfl (lv_at hl 0 rfl) ?_
    refine w_get (C := RX7) (T := TX7) (N := 9) (ci := 7) (v := .ref (ad 360)) hx hb hts hinX7 hown hK hP (S_mod ad cI cR).1 (S_mod ad cI cR).2 rfl 0 (by decide) (hts (.fieldLink RX7 7 "AdmissionControlModel" "z" "[I") (List.mem_of_getElem? (i := 1) rfl)) (fun _ h9 => h9) rfl dX7_estimate_8 ?_
    refine lv_bipush (v := 70) hx hb dX7_estimate_11 (by decide) ?_
    refine lv_iload_n hx hb dX7_estimate_13 rfl (lv_at hl 1 rfl) ?_
    obtain ⟨v8, ev8, hf⟩ := bd_e hf
    refine lv_iadd hx hb dX7_estimate_14 ?_
    refine w_top ev8 ?_
    obtain ⟨hnb, hf⟩ := gd_e hf
    refine w_ald hx hb hK hP (S_z ad cI cR) hnb dX7_estimate_15 ?_
    refine lv_goto (tgt := 21) hx hb dX7_estimate_16 (by decide) ?_
    cases hf
    exact w_iret hx hb hr hlocks hP hS dX7_estimate_21
def F_X7_tokens (fu : Nat) (a1 : Int32) (mm : Mem) : Option (Int32 × Mem) := ob (F_X7_isClass fu a1 mm) fun r5 m6 => if r5 = 0 then (some ((-100001), m6)) else (bd (16 + a1) fun v8 => gd (inb v8 395) (some ((m6 360 v8.toNatClampNeg), m6)))
set_option maxHeartbeats 4000000 in
set_option maxRecDepth 100000 in
theorem c_X7_tokens (l : Launch) (D : va_G) (ad : Nat → Nat) (cI cR : ClassId) (hi : inj ad) (fu : Nat) (a1 : Int32)  (mm : Mem) (r0 : Int32) (m9 : Mem) (hf : F_X7_tokens fu a1 mm = some (r0, m9)) : MI l yX7_tokens wsX7_tokens { frames := 2, cells := 0, slots := 0, locals := 42 } D ad cI cR [.ref (ad 359), .int a1] mm r0 m9 := by
  refine Met.ofW (cc := cX7_tokens) (maxL := 2) (ret := (some .int)) (by decide) rfl ?_
  intro p e s m args below meth c s₁ B hml hv
  obtain ⟨rfl, hP, hK, hN⟩ := hv
  have hx := B.exec
  have hb := B.bytes
  have hr := B.returns
  have hts := atoms_spec (ws := wsX7_tokens) B.pre
  have hown : s.vm.findClass RX7 = some m.cls := findClass_of_methodNamed B.named
  have hlocks := B.notSynchronized
  have hA : ∀ q, AA ad q → AA ad q := fun _ h => h
  have hS : va_S (AA ad) s.heap s.heap [] := va_S.rf
  have hinX7 : ∀ w ∈ wsX70, w ∈ wsX7_tokens := (fun _ h => List.mem_cons_of_mem _ (List.mem_append_right _ h))
  have hl := lv_entry ([.ref (ad 359), .int a1]) (n := 2) (Nat.le_of_ble_eq_true rfl)
  rw [lg_entry_eq]
  generalize (lg_sl ([.ref (ad 359), .int a1]) ++ List.replicate (2 - (lg_sl ([.ref (ad 359), .int a1])).length) Slot.unset).toArray = ls at hl ⊢
  have hl : lv_has ls 2 [(0, .ref (ad 359)), (1, .int a1)] := hl
  unfold F_X7_tokens at hf
  refine lv_iload_n hx hb dX7_tokens_0 rfl (lv_at hl 1 rfl) ?_
  obtain ⟨r5, m6, hq, hf⟩ := ob_e hf
  refine w_ci (va_runS (As := [.int a1]) (rest := []) ⟨hx, hb, hml, hown, hts⟩ (c_X7_isClass l D ad cI cR hi fu a1 mm r5 m6 hq) (va_cwS 1 hts gX7_tokens_X7_isClass rfl rfl rfl (by decide +kernel) ⟨Nat.le_of_ble_eq_true rfl, Nat.le_of_ble_eq_true rfl⟩) (w_preS hK hP hN) rfl rfl hl.1 rfl (lv_room (Nat.le_of_ble_eq_true rfl)) dX7_tokens_1 ⟨Nat.zero_le _, Nat.zero_le _⟩) hA hS (fun H locs hP hS => ?_)
  refine lv_if_eq (tgt := 19) hx hb dX7_tokens_4 (by decide) (fun c7 => ?_) (fun c7 => ?_)
  · rw [if_pos c7] at hf
    refine lv_ldc (v := (-100001)) hx hb hown (hts (.constant RX7 83 (-100001)) (List.mem_of_getElem? (i := 2) rfl)) dX7_tokens_19 ?_
    cases hf
    exact w_iret hx hb hr hlocks hP hS dX7_tokens_21
  · rw [if_neg c7] at hf
    refine lv_aload_n hx hb dX7_tokens_7 rfl (lv_at hl 0 rfl) ?_
    refine w_get (C := RX7) (T := TX7) (N := 9) (ci := 7) (v := .ref (ad 360)) hx hb hts hinX7 hown hK hP (S_mod ad cI cR).1 (S_mod ad cI cR).2 rfl 0 (by decide) (hts (.fieldLink RX7 7 "AdmissionControlModel" "z" "[I") (List.mem_of_getElem? (i := 1) rfl)) (fun _ h9 => h9) rfl dX7_tokens_8 ?_
    refine lv_bipush (v := 16) hx hb dX7_tokens_11 (by decide) ?_
    refine lv_iload_n hx hb dX7_tokens_13 rfl (lv_at hl 1 rfl) ?_
    obtain ⟨v8, ev8, hf⟩ := bd_e hf
    refine lv_iadd hx hb dX7_tokens_14 ?_
    refine w_top ev8 ?_
    obtain ⟨hnb, hf⟩ := gd_e hf
    refine w_ald hx hb hK hP (S_z ad cI cR) hnb dX7_tokens_15 ?_
    refine lv_goto (tgt := 21) hx hb dX7_tokens_16 (by decide) ?_
    cases hf
    exact w_iret hx hb hr hlocks hP hS dX7_tokens_21
def F_X7_pass (fu : Nat) (a1 : Int32) (mm : Mem) : Option (Int32 × Mem) := ob (F_X7_isClass fu a1 mm) fun r5 m6 => if r5 = 0 then (some ((-100001), m6)) else (bd (19 + a1) fun v8 => gd (inb v8 395) (some ((m6 360 v8.toNatClampNeg), m6)))
set_option maxHeartbeats 4000000 in
set_option maxRecDepth 100000 in
theorem c_X7_pass (l : Launch) (D : va_G) (ad : Nat → Nat) (cI cR : ClassId) (hi : inj ad) (fu : Nat) (a1 : Int32)  (mm : Mem) (r0 : Int32) (m9 : Mem) (hf : F_X7_pass fu a1 mm = some (r0, m9)) : MI l yX7_pass wsX7_pass { frames := 2, cells := 0, slots := 0, locals := 42 } D ad cI cR [.ref (ad 359), .int a1] mm r0 m9 := by
  refine Met.ofW (cc := cX7_pass) (maxL := 2) (ret := (some .int)) (by decide) rfl ?_
  intro p e s m args below meth c s₁ B hml hv
  obtain ⟨rfl, hP, hK, hN⟩ := hv
  have hx := B.exec
  have hb := B.bytes
  have hr := B.returns
  have hts := atoms_spec (ws := wsX7_pass) B.pre
  have hown : s.vm.findClass RX7 = some m.cls := findClass_of_methodNamed B.named
  have hlocks := B.notSynchronized
  have hA : ∀ q, AA ad q → AA ad q := fun _ h => h
  have hS : va_S (AA ad) s.heap s.heap [] := va_S.rf
  have hinX7 : ∀ w ∈ wsX70, w ∈ wsX7_pass := (fun _ h => List.mem_cons_of_mem _ (List.mem_append_right _ h))
  have hl := lv_entry ([.ref (ad 359), .int a1]) (n := 2) (Nat.le_of_ble_eq_true rfl)
  rw [lg_entry_eq]
  generalize (lg_sl ([.ref (ad 359), .int a1]) ++ List.replicate (2 - (lg_sl ([.ref (ad 359), .int a1])).length) Slot.unset).toArray = ls at hl ⊢
  have hl : lv_has ls 2 [(0, .ref (ad 359)), (1, .int a1)] := hl
  unfold F_X7_pass at hf
  refine lv_iload_n hx hb dX7_pass_0 rfl (lv_at hl 1 rfl) ?_
  obtain ⟨r5, m6, hq, hf⟩ := ob_e hf
  refine w_ci (va_runS (As := [.int a1]) (rest := []) ⟨hx, hb, hml, hown, hts⟩ (c_X7_isClass l D ad cI cR hi fu a1 mm r5 m6 hq) (va_cwS 1 hts gX7_pass_X7_isClass rfl rfl rfl (by decide +kernel) ⟨Nat.le_of_ble_eq_true rfl, Nat.le_of_ble_eq_true rfl⟩) (w_preS hK hP hN) rfl rfl hl.1 rfl (lv_room (Nat.le_of_ble_eq_true rfl)) dX7_pass_1 ⟨Nat.zero_le _, Nat.zero_le _⟩) hA hS (fun H locs hP hS => ?_)
  refine lv_if_eq (tgt := 19) hx hb dX7_pass_4 (by decide) (fun c7 => ?_) (fun c7 => ?_)
  · rw [if_pos c7] at hf
    refine lv_ldc (v := (-100001)) hx hb hown (hts (.constant RX7 83 (-100001)) (List.mem_of_getElem? (i := 2) rfl)) dX7_pass_19 ?_
    cases hf
    exact w_iret hx hb hr hlocks hP hS dX7_pass_21
  · rw [if_neg c7] at hf
    refine lv_aload_n hx hb dX7_pass_7 rfl (lv_at hl 0 rfl) ?_
    refine w_get (C := RX7) (T := TX7) (N := 9) (ci := 7) (v := .ref (ad 360)) hx hb hts hinX7 hown hK hP (S_mod ad cI cR).1 (S_mod ad cI cR).2 rfl 0 (by decide) (hts (.fieldLink RX7 7 "AdmissionControlModel" "z" "[I") (List.mem_of_getElem? (i := 1) rfl)) (fun _ h9 => h9) rfl dX7_pass_8 ?_
    refine lv_bipush (v := 19) hx hb dX7_pass_11 (by decide) ?_
    refine lv_iload_n hx hb dX7_pass_13 rfl (lv_at hl 1 rfl) ?_
    obtain ⟨v8, ev8, hf⟩ := bd_e hf
    refine lv_iadd hx hb dX7_pass_14 ?_
    refine w_top ev8 ?_
    obtain ⟨hnb, hf⟩ := gd_e hf
    refine w_ald hx hb hK hP (S_z ad cI cR) hnb dX7_pass_15 ?_
    refine lv_goto (tgt := 21) hx hb dX7_pass_16 (by decide) ?_
    cases hf
    exact w_iret hx hb hr hlocks hP hS dX7_pass_21
def F_X7_queued (fu : Nat) (a1 : Int32) (mm : Mem) : Option (Int32 × Mem) := ob (F_X7_isClass fu a1 mm) fun r5 m6 => if r5 = 0 then (some ((-100001), m6)) else (bd (25 + a1) fun v8 => gd (inb v8 395) (some ((m6 360 v8.toNatClampNeg), m6)))
set_option maxHeartbeats 4000000 in
set_option maxRecDepth 100000 in
theorem c_X7_queued (l : Launch) (D : va_G) (ad : Nat → Nat) (cI cR : ClassId) (hi : inj ad) (fu : Nat) (a1 : Int32)  (mm : Mem) (r0 : Int32) (m9 : Mem) (hf : F_X7_queued fu a1 mm = some (r0, m9)) : MI l yX7_queued wsX7_queued { frames := 2, cells := 0, slots := 0, locals := 42 } D ad cI cR [.ref (ad 359), .int a1] mm r0 m9 := by
  refine Met.ofW (cc := cX7_queued) (maxL := 2) (ret := (some .int)) (by decide) rfl ?_
  intro p e s m args below meth c s₁ B hml hv
  obtain ⟨rfl, hP, hK, hN⟩ := hv
  have hx := B.exec
  have hb := B.bytes
  have hr := B.returns
  have hts := atoms_spec (ws := wsX7_queued) B.pre
  have hown : s.vm.findClass RX7 = some m.cls := findClass_of_methodNamed B.named
  have hlocks := B.notSynchronized
  have hA : ∀ q, AA ad q → AA ad q := fun _ h => h
  have hS : va_S (AA ad) s.heap s.heap [] := va_S.rf
  have hinX7 : ∀ w ∈ wsX70, w ∈ wsX7_queued := (fun _ h => List.mem_cons_of_mem _ (List.mem_append_right _ h))
  have hl := lv_entry ([.ref (ad 359), .int a1]) (n := 2) (Nat.le_of_ble_eq_true rfl)
  rw [lg_entry_eq]
  generalize (lg_sl ([.ref (ad 359), .int a1]) ++ List.replicate (2 - (lg_sl ([.ref (ad 359), .int a1])).length) Slot.unset).toArray = ls at hl ⊢
  have hl : lv_has ls 2 [(0, .ref (ad 359)), (1, .int a1)] := hl
  unfold F_X7_queued at hf
  refine lv_iload_n hx hb dX7_queued_0 rfl (lv_at hl 1 rfl) ?_
  obtain ⟨r5, m6, hq, hf⟩ := ob_e hf
  refine w_ci (va_runS (As := [.int a1]) (rest := []) ⟨hx, hb, hml, hown, hts⟩ (c_X7_isClass l D ad cI cR hi fu a1 mm r5 m6 hq) (va_cwS 1 hts gX7_queued_X7_isClass rfl rfl rfl (by decide +kernel) ⟨Nat.le_of_ble_eq_true rfl, Nat.le_of_ble_eq_true rfl⟩) (w_preS hK hP hN) rfl rfl hl.1 rfl (lv_room (Nat.le_of_ble_eq_true rfl)) dX7_queued_1 ⟨Nat.zero_le _, Nat.zero_le _⟩) hA hS (fun H locs hP hS => ?_)
  refine lv_if_eq (tgt := 19) hx hb dX7_queued_4 (by decide) (fun c7 => ?_) (fun c7 => ?_)
  · rw [if_pos c7] at hf
    refine lv_ldc (v := (-100001)) hx hb hown (hts (.constant RX7 83 (-100001)) (List.mem_of_getElem? (i := 2) rfl)) dX7_queued_19 ?_
    cases hf
    exact w_iret hx hb hr hlocks hP hS dX7_queued_21
  · rw [if_neg c7] at hf
    refine lv_aload_n hx hb dX7_queued_7 rfl (lv_at hl 0 rfl) ?_
    refine w_get (C := RX7) (T := TX7) (N := 9) (ci := 7) (v := .ref (ad 360)) hx hb hts hinX7 hown hK hP (S_mod ad cI cR).1 (S_mod ad cI cR).2 rfl 0 (by decide) (hts (.fieldLink RX7 7 "AdmissionControlModel" "z" "[I") (List.mem_of_getElem? (i := 1) rfl)) (fun _ h9 => h9) rfl dX7_queued_8 ?_
    refine lv_bipush (v := 25) hx hb dX7_queued_11 (by decide) ?_
    refine lv_iload_n hx hb dX7_queued_13 rfl (lv_at hl 1 rfl) ?_
    obtain ⟨v8, ev8, hf⟩ := bd_e hf
    refine lv_iadd hx hb dX7_queued_14 ?_
    refine w_top ev8 ?_
    obtain ⟨hnb, hf⟩ := gd_e hf
    refine w_ald hx hb hK hP (S_z ad cI cR) hnb dX7_queued_15 ?_
    refine lv_goto (tgt := 21) hx hb dX7_queued_16 (by decide) ?_
    cases hf
    exact w_iret hx hb hr hlocks hP hS dX7_queued_21
def F_X7_queuedAt (fu : Nat) (a1 : Int32) (a2 : Int32) (mm : Mem) : Option (Int32 × Mem) := ob (F_X7_isClass fu a1 mm) fun r9 m10 => if r9 = 0 then (some ((-100001), m10)) else (if 0 ≤ a2 then (bd (25 + a1) fun v13 => gd (inb v13 395) (if (m10 360 v13.toNatClampNeg) ≤ a2 then (some ((-100005), m10)) else (ob (F_X7_inQueue fu a1 a2 m10) fun r15 m16 => some (r15, m16)))) else (some ((-100002), m10)))
set_option maxHeartbeats 4000000 in
set_option maxRecDepth 100000 in
theorem c_X7_queuedAt (l : Launch) (D : va_G) (ad : Nat → Nat) (cI cR : ClassId) (hi : inj ad) (fu : Nat) (a1 : Int32) (a2 : Int32)  (mm : Mem) (r0 : Int32) (m9 : Mem) (hf : F_X7_queuedAt fu a1 a2 mm = some (r0, m9)) : MI l yX7_queuedAt wsX7_queuedAt { frames := 2, cells := 0, slots := 0, locals := 42 } D ad cI cR [.ref (ad 359), .int a1, .int a2] mm r0 m9 := by
  refine Met.ofW (cc := cX7_queuedAt) (maxL := 3) (ret := (some .int)) (by decide) rfl ?_
  intro p e s m args below meth c s₁ B hml hv
  obtain ⟨rfl, hP, hK, hN⟩ := hv
  have hx := B.exec
  have hb := B.bytes
  have hr := B.returns
  have hts := atoms_spec (ws := wsX7_queuedAt) B.pre
  have hown : s.vm.findClass RX7 = some m.cls := findClass_of_methodNamed B.named
  have hlocks := B.notSynchronized
  have hA : ∀ q, AA ad q → AA ad q := fun _ h => h
  have hS : va_S (AA ad) s.heap s.heap [] := va_S.rf
  have hinX7 : ∀ w ∈ wsX70, w ∈ wsX7_queuedAt := (fun _ h => List.mem_cons_of_mem _ (List.mem_append_right _ h))
  have hl := lv_entry ([.ref (ad 359), .int a1, .int a2]) (n := 3) (Nat.le_of_ble_eq_true rfl)
  rw [lg_entry_eq]
  generalize (lg_sl ([.ref (ad 359), .int a1, .int a2]) ++ List.replicate (3 - (lg_sl ([.ref (ad 359), .int a1, .int a2])).length) Slot.unset).toArray = ls at hl ⊢
  have hl : lv_has ls 3 [(0, .ref (ad 359)), (1, .int a1), (2, .int a2)] := hl
  unfold F_X7_queuedAt at hf
  refine lv_iload_n hx hb dX7_queuedAt_0 rfl (lv_at hl 1 rfl) ?_
  obtain ⟨r9, m10, hq, hf⟩ := ob_e hf
  refine w_ci (va_runS (As := [.int a1]) (rest := []) ⟨hx, hb, hml, hown, hts⟩ (c_X7_isClass l D ad cI cR hi fu a1 mm r9 m10 hq) (va_cwS 1 hts gX7_queuedAt_X7_isClass rfl rfl rfl (by decide +kernel) ⟨Nat.le_of_ble_eq_true rfl, Nat.le_of_ble_eq_true rfl⟩) (w_preS hK hP hN) rfl rfl hl.1 rfl (lv_room (Nat.le_of_ble_eq_true rfl)) dX7_queuedAt_1 ⟨Nat.zero_le _, Nat.zero_le _⟩) hA hS (fun H locs hP hS => ?_)
  refine lv_if_ne (tgt := 10) hx hb dX7_queuedAt_4 (by decide) (fun c11 => ?_) (fun c11 => ?_)
  · rw [if_neg c11] at hf
    refine lv_iload_n hx hb dX7_queuedAt_10 rfl (lv_at hl 2 rfl) ?_
    refine lv_if_ge (tgt := 17) hx hb dX7_queuedAt_11 (by decide) (fun c12 => ?_) (fun c12 => ?_)
    · rw [if_pos c12] at hf
      refine lv_iload_n hx hb dX7_queuedAt_17 rfl (lv_at hl 2 rfl) ?_
      refine lv_aload_n hx hb dX7_queuedAt_18 rfl (lv_at hl 0 rfl) ?_
      refine w_get (C := RX7) (T := TX7) (N := 9) (ci := 7) (v := .ref (ad 360)) hx hb hts hinX7 hown hK hP (S_mod ad cI cR).1 (S_mod ad cI cR).2 rfl 0 (by decide) (hts (.fieldLink RX7 7 "AdmissionControlModel" "z" "[I") (List.mem_of_getElem? (i := 3) rfl)) (fun _ h9 => h9) rfl dX7_queuedAt_19 ?_
      refine lv_bipush (v := 25) hx hb dX7_queuedAt_22 (by decide) ?_
      refine lv_iload_n hx hb dX7_queuedAt_24 rfl (lv_at hl 1 rfl) ?_
      obtain ⟨v13, ev13, hf⟩ := bd_e hf
      refine lv_iadd hx hb dX7_queuedAt_25 ?_
      refine w_top ev13 ?_
      obtain ⟨hnb, hf⟩ := gd_e hf
      refine w_ald hx hb hK hP (S_z ad cI cR) hnb dX7_queuedAt_26 ?_
      refine lv_icmp_ge (tgt := 39) hx hb dX7_queuedAt_27 (by decide) (fun c14 => ?_) (fun c14 => ?_)
      · rw [if_pos c14] at hf
        refine lv_ldc (v := (-100005)) hx hb hown (hts (.constant RX7 30 (-100005)) (List.mem_of_getElem? (i := 4) rfl)) dX7_queuedAt_39 ?_
        cases hf
        exact w_iret hx hb hr hlocks hP hS dX7_queuedAt_41
      · rw [if_neg c14] at hf
        refine lv_aload_n hx hb dX7_queuedAt_30 rfl (lv_at hl 0 rfl) ?_
        refine lv_iload_n hx hb dX7_queuedAt_31 rfl (lv_at hl 1 rfl) ?_
        refine lv_iload_n hx hb dX7_queuedAt_32 rfl (lv_at hl 2 rfl) ?_
        obtain ⟨r15, m16, hq, hf⟩ := ob_e hf
        refine w_ci (va_runV (As := [.int a1, .int a2]) (rest := []) ⟨hx, hb, hml, hown, hts⟩ (c_X7_inQueue l D ad cI cR hi fu a1 a2 m10 r15 m16 hq) (cwV 2 hts gX7_queuedAt_X7_inQueue rfl rfl rfl (by decide +kernel) ⟨Nat.le_of_ble_eq_true rfl, Nat.le_of_ble_eq_true rfl⟩) (w_preV (ci := 7) hK hP hN (S_mod ad cI cR).1 (S_mod ad cI cR).2 rfl) rfl rfl hl.1 rfl (lv_room (Nat.le_of_ble_eq_true rfl)) dX7_queuedAt_33 ⟨Nat.zero_le _, Nat.zero_le _⟩) hA hS (fun H locs hP hS => ?_)
        refine lv_goto (tgt := 41) hx hb dX7_queuedAt_36 (by decide) ?_
        cases hf
        exact w_iret hx hb hr hlocks hP hS dX7_queuedAt_41
    · rw [if_neg c12] at hf
      refine lv_ldc (v := (-100002)) hx hb hown (hts (.constant RX7 90 (-100002)) (List.mem_of_getElem? (i := 2) rfl)) dX7_queuedAt_14 ?_
      cases hf
      exact w_iret hx hb hr hlocks hP hS dX7_queuedAt_16
  · rw [if_pos c11] at hf
    refine lv_ldc (v := (-100001)) hx hb hown (hts (.constant RX7 83 (-100001)) (List.mem_of_getElem? (i := 1) rfl)) dX7_queuedAt_7 ?_
    cases hf
    exact w_iret hx hb hr hlocks hP hS dX7_queuedAt_9
def F_X7_backlog (fu : Nat) (a1 : Int32) (mm : Mem) : Option (Int32 × Mem) := ob (F_X7_isClass fu a1 mm) fun r6 m7 => if r6 = 0 then (some ((-100001), m7)) else (ob (F_X7_backlogOf fu a1 m7) fun r9 m10 => some (r9, m10))
set_option maxHeartbeats 4000000 in
set_option maxRecDepth 100000 in
theorem c_X7_backlog (l : Launch) (D : va_G) (ad : Nat → Nat) (cI cR : ClassId) (hi : inj ad) (fu : Nat) (a1 : Int32)  (mm : Mem) (r0 : Int32) (m9 : Mem) (hf : F_X7_backlog fu a1 mm = some (r0, m9)) : MI l yX7_backlog wsX7_backlog { frames := 2, cells := 0, slots := 0, locals := 46 } D ad cI cR [.ref (ad 359), .int a1] mm r0 m9 := by
  refine Met.ofW (cc := cX7_backlog) (maxL := 2) (ret := (some .int)) (by decide) rfl ?_
  intro p e s m args below meth c s₁ B hml hv
  obtain ⟨rfl, hP, hK, hN⟩ := hv
  have hx := B.exec
  have hb := B.bytes
  have hr := B.returns
  have hts := atoms_spec (ws := wsX7_backlog) B.pre
  have hown : s.vm.findClass RX7 = some m.cls := findClass_of_methodNamed B.named
  have hlocks := B.notSynchronized
  have hA : ∀ q, AA ad q → AA ad q := fun _ h => h
  have hS : va_S (AA ad) s.heap s.heap [] := va_S.rf
  have hl := lv_entry ([.ref (ad 359), .int a1]) (n := 2) (Nat.le_of_ble_eq_true rfl)
  rw [lg_entry_eq]
  generalize (lg_sl ([.ref (ad 359), .int a1]) ++ List.replicate (2 - (lg_sl ([.ref (ad 359), .int a1])).length) Slot.unset).toArray = ls at hl ⊢
  have hl : lv_has ls 2 [(0, .ref (ad 359)), (1, .int a1)] := hl
  unfold F_X7_backlog at hf
  refine lv_iload_n hx hb dX7_backlog_0 rfl (lv_at hl 1 rfl) ?_
  obtain ⟨r6, m7, hq, hf⟩ := ob_e hf
  refine w_ci (va_runS (As := [.int a1]) (rest := []) ⟨hx, hb, hml, hown, hts⟩ (c_X7_isClass l D ad cI cR hi fu a1 mm r6 m7 hq) (va_cwS 1 hts gX7_backlog_X7_isClass rfl rfl rfl (by decide +kernel) ⟨Nat.le_of_ble_eq_true rfl, Nat.le_of_ble_eq_true rfl⟩) (w_preS hK hP hN) rfl rfl hl.1 rfl (lv_room (Nat.le_of_ble_eq_true rfl)) dX7_backlog_1 ⟨Nat.zero_le _, Nat.zero_le _⟩) hA hS (fun H locs hP hS => ?_)
  refine lv_if_eq (tgt := 15) hx hb dX7_backlog_4 (by decide) (fun c8 => ?_) (fun c8 => ?_)
  · rw [if_pos c8] at hf
    refine lv_ldc (v := (-100001)) hx hb hown (hts (.constant RX7 83 (-100001)) (List.mem_of_getElem? (i := 1) rfl)) dX7_backlog_15 ?_
    cases hf
    exact w_iret hx hb hr hlocks hP hS dX7_backlog_17
  · rw [if_neg c8] at hf
    refine lv_aload_n hx hb dX7_backlog_7 rfl (lv_at hl 0 rfl) ?_
    refine lv_iload_n hx hb dX7_backlog_8 rfl (lv_at hl 1 rfl) ?_
    obtain ⟨r9, m10, hq, hf⟩ := ob_e hf
    refine w_ci (va_runV (As := [.int a1]) (rest := []) ⟨hx, hb, hml, hown, hts⟩ (c_X7_backlogOf l D ad cI cR hi fu a1 m7 r9 m10 hq) (cwV 1 hts gX7_backlog_X7_backlogOf rfl rfl rfl (by decide +kernel) ⟨Nat.le_of_ble_eq_true rfl, Nat.le_of_ble_eq_true rfl⟩) (w_preV (ci := 7) hK hP hN (S_mod ad cI cR).1 (S_mod ad cI cR).2 rfl) rfl rfl hl.1 rfl (lv_room (Nat.le_of_ble_eq_true rfl)) dX7_backlog_9 ⟨Nat.zero_le _, Nat.zero_le _⟩) hA hS (fun H locs hP hS => ?_)
    refine lv_goto (tgt := 17) hx hb dX7_backlog_12 (by decide) ?_
    cases hf
    exact w_iret hx hb hr hlocks hP hS dX7_backlog_17
def F_X7_worked (fu : Nat) (a1 : Int32) (mm : Mem) : Option (Int32 × Mem) := ob (F_X7_isClass fu a1 mm) fun r5 m6 => if r5 = 0 then (some ((-100001), m6)) else (bd (22 + a1) fun v8 => gd (inb v8 395) (some ((m6 360 v8.toNatClampNeg), m6)))
set_option maxHeartbeats 4000000 in
set_option maxRecDepth 100000 in
theorem c_X7_worked (l : Launch) (D : va_G) (ad : Nat → Nat) (cI cR : ClassId) (hi : inj ad) (fu : Nat) (a1 : Int32)  (mm : Mem) (r0 : Int32) (m9 : Mem) (hf : F_X7_worked fu a1 mm = some (r0, m9)) : MI l yX7_worked wsX7_worked { frames := 2, cells := 0, slots := 0, locals := 42 } D ad cI cR [.ref (ad 359), .int a1] mm r0 m9 := by
  refine Met.ofW (cc := cX7_worked) (maxL := 2) (ret := (some .int)) (by decide) rfl ?_
  intro p e s m args below meth c s₁ B hml hv
  obtain ⟨rfl, hP, hK, hN⟩ := hv
  have hx := B.exec
  have hb := B.bytes
  have hr := B.returns
  have hts := atoms_spec (ws := wsX7_worked) B.pre
  have hown : s.vm.findClass RX7 = some m.cls := findClass_of_methodNamed B.named
  have hlocks := B.notSynchronized
  have hA : ∀ q, AA ad q → AA ad q := fun _ h => h
  have hS : va_S (AA ad) s.heap s.heap [] := va_S.rf
  have hinX7 : ∀ w ∈ wsX70, w ∈ wsX7_worked := (fun _ h => List.mem_cons_of_mem _ (List.mem_append_right _ h))
  have hl := lv_entry ([.ref (ad 359), .int a1]) (n := 2) (Nat.le_of_ble_eq_true rfl)
  rw [lg_entry_eq]
  generalize (lg_sl ([.ref (ad 359), .int a1]) ++ List.replicate (2 - (lg_sl ([.ref (ad 359), .int a1])).length) Slot.unset).toArray = ls at hl ⊢
  have hl : lv_has ls 2 [(0, .ref (ad 359)), (1, .int a1)] := hl
  unfold F_X7_worked at hf
  refine lv_iload_n hx hb dX7_worked_0 rfl (lv_at hl 1 rfl) ?_
  obtain ⟨r5, m6, hq, hf⟩ := ob_e hf
  refine w_ci (va_runS (As := [.int a1]) (rest := []) ⟨hx, hb, hml, hown, hts⟩ (c_X7_isClass l D ad cI cR hi fu a1 mm r5 m6 hq) (va_cwS 1 hts gX7_worked_X7_isClass rfl rfl rfl (by decide +kernel) ⟨Nat.le_of_ble_eq_true rfl, Nat.le_of_ble_eq_true rfl⟩) (w_preS hK hP hN) rfl rfl hl.1 rfl (lv_room (Nat.le_of_ble_eq_true rfl)) dX7_worked_1 ⟨Nat.zero_le _, Nat.zero_le _⟩) hA hS (fun H locs hP hS => ?_)
  refine lv_if_eq (tgt := 19) hx hb dX7_worked_4 (by decide) (fun c7 => ?_) (fun c7 => ?_)
  · rw [if_pos c7] at hf
    refine lv_ldc (v := (-100001)) hx hb hown (hts (.constant RX7 83 (-100001)) (List.mem_of_getElem? (i := 2) rfl)) dX7_worked_19 ?_
    cases hf
    exact w_iret hx hb hr hlocks hP hS dX7_worked_21
  · rw [if_neg c7] at hf
    refine lv_aload_n hx hb dX7_worked_7 rfl (lv_at hl 0 rfl) ?_
    refine w_get (C := RX7) (T := TX7) (N := 9) (ci := 7) (v := .ref (ad 360)) hx hb hts hinX7 hown hK hP (S_mod ad cI cR).1 (S_mod ad cI cR).2 rfl 0 (by decide) (hts (.fieldLink RX7 7 "AdmissionControlModel" "z" "[I") (List.mem_of_getElem? (i := 1) rfl)) (fun _ h9 => h9) rfl dX7_worked_8 ?_
    refine lv_bipush (v := 22) hx hb dX7_worked_11 (by decide) ?_
    refine lv_iload_n hx hb dX7_worked_13 rfl (lv_at hl 1 rfl) ?_
    obtain ⟨v8, ev8, hf⟩ := bd_e hf
    refine lv_iadd hx hb dX7_worked_14 ?_
    refine w_top ev8 ?_
    obtain ⟨hnb, hf⟩ := gd_e hf
    refine w_ald hx hb hK hP (S_z ad cI cR) hnb dX7_worked_15 ?_
    refine lv_goto (tgt := 21) hx hb dX7_worked_16 (by decide) ?_
    cases hf
    exact w_iret hx hb hr hlocks hP hS dX7_worked_21
def F_X7_refused (fu : Nat) (a1 : Int32) (a2 : Int32) (mm : Mem) : Option (Int32 × Mem) := ob (F_X7_isClass fu a1 mm) fun r11 m12 => if r11 = 0 then (some ((-100001), m12)) else (ob (F_X7_in fu a2 1 5 m12) fun r14 m15 => if r14 = 0 then (some ((-100001), m15)) else (bd (5 * a1) fun v17 => bd (52 + v17) fun v18 => bd (v18 + a2) fun v19 => bd (v19 - 1) fun v20 => gd (inb v20 395) (some ((m15 360 v20.toNatClampNeg), m15))))
set_option maxHeartbeats 4000000 in
set_option maxRecDepth 100000 in
theorem c_X7_refused (l : Launch) (D : va_G) (ad : Nat → Nat) (cI cR : ClassId) (hi : inj ad) (fu : Nat) (a1 : Int32) (a2 : Int32)  (mm : Mem) (r0 : Int32) (m9 : Mem) (hf : F_X7_refused fu a1 a2 mm = some (r0, m9)) : MI l yX7_refused wsX7_refused { frames := 2, cells := 0, slots := 0, locals := 42 } D ad cI cR [.ref (ad 359), .int a1, .int a2] mm r0 m9 := by
  refine Met.ofW (cc := cX7_refused) (maxL := 3) (ret := (some .int)) (by decide) rfl ?_
  intro p e s m args below meth c s₁ B hml hv
  obtain ⟨rfl, hP, hK, hN⟩ := hv
  have hx := B.exec
  have hb := B.bytes
  have hr := B.returns
  have hts := atoms_spec (ws := wsX7_refused) B.pre
  have hown : s.vm.findClass RX7 = some m.cls := findClass_of_methodNamed B.named
  have hlocks := B.notSynchronized
  have hA : ∀ q, AA ad q → AA ad q := fun _ h => h
  have hS : va_S (AA ad) s.heap s.heap [] := va_S.rf
  have hinX7 : ∀ w ∈ wsX70, w ∈ wsX7_refused := (fun _ h => List.mem_cons_of_mem _ (List.mem_append_right _ h))
  have hl := lv_entry ([.ref (ad 359), .int a1, .int a2]) (n := 3) (Nat.le_of_ble_eq_true rfl)
  rw [lg_entry_eq]
  generalize (lg_sl ([.ref (ad 359), .int a1, .int a2]) ++ List.replicate (3 - (lg_sl ([.ref (ad 359), .int a1, .int a2])).length) Slot.unset).toArray = ls at hl ⊢
  have hl : lv_has ls 3 [(0, .ref (ad 359)), (1, .int a1), (2, .int a2)] := hl
  unfold F_X7_refused at hf
  refine lv_iload_n hx hb dX7_refused_0 rfl (lv_at hl 1 rfl) ?_
  obtain ⟨r11, m12, hq, hf⟩ := ob_e hf
  refine w_ci (va_runS (As := [.int a1]) (rest := []) ⟨hx, hb, hml, hown, hts⟩ (c_X7_isClass l D ad cI cR hi fu a1 mm r11 m12 hq) (va_cwS 1 hts gX7_refused_X7_isClass rfl rfl rfl (by decide +kernel) ⟨Nat.le_of_ble_eq_true rfl, Nat.le_of_ble_eq_true rfl⟩) (w_preS hK hP hN) rfl rfl hl.1 rfl (lv_room (Nat.le_of_ble_eq_true rfl)) dX7_refused_1 ⟨Nat.zero_le _, Nat.zero_le _⟩) hA hS (fun H locs hP hS => ?_)
  refine lv_if_eq (tgt := 34) hx hb dX7_refused_4 (by decide) (fun c13 => ?_) (fun c13 => ?_)
  · rw [if_pos c13] at hf
    refine lv_ldc (v := (-100001)) hx hb hown (hts (.constant RX7 83 (-100001)) (List.mem_of_getElem? (i := 2) rfl)) dX7_refused_34 ?_
    cases hf
    exact w_iret hx hb hr hlocks hP hS dX7_refused_36
  · rw [if_neg c13] at hf
    refine lv_iload_n hx hb dX7_refused_7 rfl (lv_at hl 2 rfl) ?_
    refine lv_iconst (v := 1) hx hb dX7_refused_8 (by decide) ?_
    refine lv_iconst (v := 5) hx hb dX7_refused_9 (by decide) ?_
    obtain ⟨r14, m15, hq, hf⟩ := ob_e hf
    refine w_ci (va_runS (As := [.int a2, .int 1, .int 5]) (rest := []) ⟨hx, hb, hml, hown, hts⟩ (c_X7_in l D ad cI cR hi fu a2 1 5 m12 r14 m15 hq) (va_cwS 3 hts gX7_refused_X7_in rfl rfl rfl (by decide +kernel) ⟨Nat.le_of_ble_eq_true rfl, Nat.le_of_ble_eq_true rfl⟩) (w_preS hK hP hN) rfl rfl hl.1 rfl (lv_room (Nat.le_of_ble_eq_true rfl)) dX7_refused_10 ⟨Nat.zero_le _, Nat.zero_le _⟩) hA hS (fun H locs hP hS => ?_)
    refine lv_if_eq (tgt := 34) hx hb dX7_refused_13 (by decide) (fun c16 => ?_) (fun c16 => ?_)
    · rw [if_pos c16] at hf
      refine lv_ldc (v := (-100001)) hx hb hown (hts (.constant RX7 83 (-100001)) (List.mem_of_getElem? (i := 2) rfl)) dX7_refused_34 ?_
      cases hf
      exact w_iret hx hb hr hlocks hP hS dX7_refused_36
    · rw [if_neg c16] at hf
      refine lv_aload_n hx hb dX7_refused_16 rfl (lv_at hl 0 rfl) ?_
      refine w_get (C := RX7) (T := TX7) (N := 9) (ci := 7) (v := .ref (ad 360)) hx hb hts hinX7 hown hK hP (S_mod ad cI cR).1 (S_mod ad cI cR).2 rfl 0 (by decide) (hts (.fieldLink RX7 7 "AdmissionControlModel" "z" "[I") (List.mem_of_getElem? (i := 1) rfl)) (fun _ h9 => h9) rfl dX7_refused_17 ?_
      refine lv_bipush (v := 52) hx hb dX7_refused_20 (by decide) ?_
      refine lv_iconst (v := 5) hx hb dX7_refused_22 (by decide) ?_
      refine lv_iload_n hx hb dX7_refused_23 rfl (lv_at hl 1 rfl) ?_
      obtain ⟨v17, ev17, hf⟩ := bd_e hf
      refine lv_imul hx hb dX7_refused_24 ?_
      refine w_top ev17 ?_
      obtain ⟨v18, ev18, hf⟩ := bd_e hf
      refine lv_iadd hx hb dX7_refused_25 ?_
      refine w_top ev18 ?_
      refine lv_iload_n hx hb dX7_refused_26 rfl (lv_at hl 2 rfl) ?_
      obtain ⟨v19, ev19, hf⟩ := bd_e hf
      refine lv_iadd hx hb dX7_refused_27 ?_
      refine w_top ev19 ?_
      refine lv_iconst (v := 1) hx hb dX7_refused_28 (by decide) ?_
      obtain ⟨v20, ev20, hf⟩ := bd_e hf
      refine lv_isub hx hb dX7_refused_29 ?_
      refine w_top ev20 ?_
      obtain ⟨hnb, hf⟩ := gd_e hf
      refine w_ald hx hb hK hP (S_z ad cI cR) hnb dX7_refused_30 ?_
      refine lv_goto (tgt := 36) hx hb dX7_refused_31 (by decide) ?_
      cases hf
      exact w_iret hx hb hr hlocks hP hS dX7_refused_36
def F_X7_idle (fu : Nat)  (mm : Mem) : Option (Int32 × Mem) := gd (inb 68 395) (some ((mm 360 (68 : Int32).toNatClampNeg), mm))
set_option maxHeartbeats 4000000 in
set_option maxRecDepth 100000 in
theorem c_X7_idle (l : Launch) (D : va_G) (ad : Nat → Nat) (cI cR : ClassId) (hi : inj ad) (fu : Nat)   (mm : Mem) (r0 : Int32) (m9 : Mem) (hf : F_X7_idle fu  mm = some (r0, m9)) : MI l yX7_idle wsX7_idle { frames := 0, cells := 0, slots := 0, locals := 0 } D ad cI cR [.ref (ad 359)] mm r0 m9 := by
  refine Met.ofW (cc := cX7_idle) (maxL := 1) (ret := (some .int)) (by decide) rfl ?_
  intro p e s m args below meth c s₁ B hml hv
  obtain ⟨rfl, hP, hK, hN⟩ := hv
  have hx := B.exec
  have hb := B.bytes
  have hr := B.returns
  have hts := atoms_spec (ws := wsX7_idle) B.pre
  have hown : s.vm.findClass RX7 = some m.cls := findClass_of_methodNamed B.named
  have hlocks := B.notSynchronized
  have hA : ∀ q, AA ad q → AA ad q := fun _ h => h
  have hS : va_S (AA ad) s.heap s.heap [] := va_S.rf
  have hinX7 : ∀ w ∈ wsX70, w ∈ wsX7_idle := (fun _ h => List.mem_cons_of_mem _ (List.mem_append_right _ h))
  have hl := lv_entry ([.ref (ad 359)]) (n := 1) (Nat.le_of_ble_eq_true rfl)
  rw [lg_entry_eq]
  generalize (lg_sl ([.ref (ad 359)]) ++ List.replicate (1 - (lg_sl ([.ref (ad 359)])).length) Slot.unset).toArray = ls at hl ⊢
  have hl : lv_has ls 1 [(0, .ref (ad 359))] := hl
  unfold F_X7_idle at hf
  refine lv_aload_n hx hb dX7_idle_0 rfl (lv_at hl 0 rfl) ?_
  refine w_get (C := RX7) (T := TX7) (N := 9) (ci := 7) (v := .ref (ad 360)) hx hb hts hinX7 hown hK hP (S_mod ad cI cR).1 (S_mod ad cI cR).2 rfl 0 (by decide) (hts (.fieldLink RX7 7 "AdmissionControlModel" "z" "[I") (List.mem_of_getElem? (i := 1) rfl)) (fun _ h9 => h9) rfl dX7_idle_1 ?_
  refine lv_bipush (v := 68) hx hb dX7_idle_4 (by decide) ?_
  obtain ⟨hnb, hf⟩ := gd_e hf
  refine w_ald hx hb hK hP (S_z ad cI cR) hnb dX7_idle_6 ?_
  cases hf
  exact w_iret hx hb hr hlocks hP hS dX7_idle_7
def F_X7_workShare (fu : Nat) (a1 : Int32) (mm : Mem) : Option (UInt32 × Mem) := ob (F_X7_isClass fu a1 mm) fun r8 m9 => if r8 = 0 then (some ((3212836864), m9)) else (gd (inb 22 395) (gd (inb 23 395) (bd ((m9 360 (22 : Int32).toNatClampNeg) + (m9 360 (23 : Int32).toNatClampNeg)) fun v11 => gd (inb 24 395) (bd (v11 + (m9 360 (24 : Int32).toNatClampNeg)) fun v12 => if v12 = 0 then (some (FP.fconst0, m9)) else (bd (22 + a1) fun v14 => gd (inb v14 395) (gd (nn32 (FP.fdiv (FP.i2f (m9 360 v14.toNatClampNeg)) (FP.i2f v12))) (some ((FP.fdiv (FP.i2f (m9 360 v14.toNatClampNeg)) (FP.i2f v12)), m9))))))))
set_option maxHeartbeats 4000000 in
set_option maxRecDepth 100000 in
theorem c_X7_workShare (l : Launch) (D : va_G) (ad : Nat → Nat) (cI cR : ClassId) (hi : inj ad) (fu : Nat) (a1 : Int32)  (mm : Mem) (r0 : UInt32) (m9 : Mem) (hf : F_X7_workShare fu a1 mm = some (r0, m9)) : MF l yX7_workShare wsX7_workShare { frames := 2, cells := 0, slots := 0, locals := 42 } D ad cI cR [.ref (ad 359), .int a1] mm r0 m9 := by
  refine Met.ofW (cc := cX7_workShare) (maxL := 3) (ret := (some .float)) (by decide) rfl ?_
  intro p e s m args below meth c s₁ B hml hv
  obtain ⟨rfl, hP, hK, hN⟩ := hv
  have hx := B.exec
  have hb := B.bytes
  have hr := B.returns
  have hts := atoms_spec (ws := wsX7_workShare) B.pre
  have hown : s.vm.findClass RX7 = some m.cls := findClass_of_methodNamed B.named
  have hlocks := B.notSynchronized
  have hA : ∀ q, AA ad q → AA ad q := fun _ h => h
  have hS : va_S (AA ad) s.heap s.heap [] := va_S.rf
  have hinX7 : ∀ w ∈ wsX70, w ∈ wsX7_workShare := (fun _ h => List.mem_cons_of_mem _ (List.mem_append_right _ h))
  have hl := lv_entry ([.ref (ad 359), .int a1]) (n := 3) (Nat.le_of_ble_eq_true rfl)
  rw [lg_entry_eq]
  generalize (lg_sl ([.ref (ad 359), .int a1]) ++ List.replicate (3 - (lg_sl ([.ref (ad 359), .int a1])).length) Slot.unset).toArray = ls at hl ⊢
  have hl : lv_has ls 3 [(0, .ref (ad 359)), (1, .int a1)] := hl
  unfold F_X7_workShare at hf
  refine lv_iload_n hx hb dX7_workShare_0 rfl (lv_at hl 1 rfl) ?_
  obtain ⟨r8, m9, hq, hf⟩ := ob_e hf
  refine w_ci (va_runS (As := [.int a1]) (rest := []) ⟨hx, hb, hml, hown, hts⟩ (c_X7_isClass l D ad cI cR hi fu a1 mm r8 m9 hq) (va_cwS 1 hts gX7_workShare_X7_isClass rfl rfl rfl (by decide +kernel) ⟨Nat.le_of_ble_eq_true rfl, Nat.le_of_ble_eq_true rfl⟩) (w_preS hK hP hN) rfl rfl hl.1 rfl (lv_room (Nat.le_of_ble_eq_true rfl)) dX7_workShare_1 ⟨Nat.zero_le _, Nat.zero_le _⟩) hA hS (fun H locs hP hS => ?_)
  refine lv_if_ne (tgt := 10) hx hb dX7_workShare_4 (by decide) (fun c10 => ?_) (fun c10 => ?_)
  · rw [if_neg c10] at hf
    refine lv_aload_n hx hb dX7_workShare_10 rfl (lv_at hl 0 rfl) ?_
    refine w_get (C := RX7) (T := TX7) (N := 9) (ci := 7) (v := .ref (ad 360)) hx hb hts hinX7 hown hK hP (S_mod ad cI cR).1 (S_mod ad cI cR).2 rfl 0 (by decide) (hts (.fieldLink RX7 7 "AdmissionControlModel" "z" "[I") (List.mem_of_getElem? (i := 2) rfl)) (fun _ h9 => h9) rfl dX7_workShare_11 ?_
    refine lv_bipush (v := 22) hx hb dX7_workShare_14 (by decide) ?_
    obtain ⟨hnb, hf⟩ := gd_e hf
    refine w_ald hx hb hK hP (S_z ad cI cR) hnb dX7_workShare_16 ?_
    refine lv_aload_n hx hb dX7_workShare_17 rfl (lv_at hl 0 rfl) ?_
    refine w_get (C := RX7) (T := TX7) (N := 9) (ci := 7) (v := .ref (ad 360)) hx hb hts hinX7 hown hK hP (S_mod ad cI cR).1 (S_mod ad cI cR).2 rfl 0 (by decide) (hts (.fieldLink RX7 7 "AdmissionControlModel" "z" "[I") (List.mem_of_getElem? (i := 2) rfl)) (fun _ h9 => h9) rfl dX7_workShare_18 ?_
    refine lv_bipush (v := 23) hx hb dX7_workShare_21 (by decide) ?_
    obtain ⟨hnb, hf⟩ := gd_e hf
    refine w_ald hx hb hK hP (S_z ad cI cR) hnb dX7_workShare_23 ?_
    obtain ⟨v11, ev11, hf⟩ := bd_e hf
    refine lv_iadd hx hb dX7_workShare_24 ?_
    refine w_top ev11 ?_
    refine lv_aload_n hx hb dX7_workShare_25 rfl (lv_at hl 0 rfl) ?_
    refine w_get (C := RX7) (T := TX7) (N := 9) (ci := 7) (v := .ref (ad 360)) hx hb hts hinX7 hown hK hP (S_mod ad cI cR).1 (S_mod ad cI cR).2 rfl 0 (by decide) (hts (.fieldLink RX7 7 "AdmissionControlModel" "z" "[I") (List.mem_of_getElem? (i := 2) rfl)) (fun _ h9 => h9) rfl dX7_workShare_26 ?_
    refine lv_bipush (v := 24) hx hb dX7_workShare_29 (by decide) ?_
    obtain ⟨hnb, hf⟩ := gd_e hf
    refine w_ald hx hb hK hP (S_z ad cI cR) hnb dX7_workShare_31 ?_
    obtain ⟨v12, ev12, hf⟩ := bd_e hf
    refine lv_iadd hx hb dX7_workShare_32 ?_
    refine w_top ev12 ?_
    refine lv_istore_n (lv' := [(2, .int v12), (0, .ref (ad 359)), (1, .int a1)]) hx hb dX7_workShare_33 rfl hl (by decide) rfl (fun ls hl => ?_)
    refine lv_iload_n hx hb dX7_workShare_34 rfl (lv_at hl 0 rfl) ?_
    refine lv_if_ne (tgt := 42) hx hb dX7_workShare_35 (by decide) (fun c13 => ?_) (fun c13 => ?_)
    · rw [if_neg c13] at hf
      refine lv_aload_n hx hb dX7_workShare_42 rfl (lv_at hl 1 rfl) ?_
      refine w_get (C := RX7) (T := TX7) (N := 9) (ci := 7) (v := .ref (ad 360)) hx hb hts hinX7 hown hK hP (S_mod ad cI cR).1 (S_mod ad cI cR).2 rfl 0 (by decide) (hts (.fieldLink RX7 7 "AdmissionControlModel" "z" "[I") (List.mem_of_getElem? (i := 2) rfl)) (fun _ h9 => h9) rfl dX7_workShare_43 ?_
      refine lv_bipush (v := 22) hx hb dX7_workShare_46 (by decide) ?_
      refine lv_iload_n hx hb dX7_workShare_48 rfl (lv_at hl 2 rfl) ?_
      obtain ⟨v14, ev14, hf⟩ := bd_e hf
      refine lv_iadd hx hb dX7_workShare_49 ?_
      refine w_top ev14 ?_
      obtain ⟨hnb, hf⟩ := gd_e hf
      refine w_ald hx hb hK hP (S_z ad cI cR) hnb dX7_workShare_50 ?_
      refine lv_i2f hx hb dX7_workShare_51 ?_
      refine lv_iload_n hx hb dX7_workShare_52 rfl (lv_at hl 0 rfl) ?_
      refine lv_i2f hx hb dX7_workShare_53 ?_
      obtain ⟨hn32, hf⟩ := gd_e hf
      refine lv_fdiv hx hb dX7_workShare_54 (nn32_v hn32) ?_
      cases hf
      exact w_fret hx hb hr hlocks hP hS dX7_workShare_55
    · rw [if_pos c13] at hf
      refine lv_fconst0 hx hb dX7_workShare_38 ?_
      refine lv_goto (tgt := 55) hx hb dX7_workShare_39 (by decide) ?_
      cases hf
      exact w_fret hx hb hr hlocks hP hS dX7_workShare_55
  · rw [if_pos c10] at hf
    refine lv_ldcf (v := (3212836864)) hx hb hown (hts (.constantFloat RX7 145 (3212836864)) (List.mem_of_getElem? (i := 1) rfl)) dX7_workShare_7 ?_
    cases hf
    exact w_fret hx hb hr hlocks hP hS dX7_workShare_9
def F_X7_requests (fu : Nat)  (mm : Mem) : Option (Int32 × Mem) := gd (inb 69 395) (some ((mm 360 (69 : Int32).toNatClampNeg), mm))
set_option maxHeartbeats 4000000 in
set_option maxRecDepth 100000 in
theorem c_X7_requests (l : Launch) (D : va_G) (ad : Nat → Nat) (cI cR : ClassId) (hi : inj ad) (fu : Nat)   (mm : Mem) (r0 : Int32) (m9 : Mem) (hf : F_X7_requests fu  mm = some (r0, m9)) : MI l yX7_requests wsX7_requests { frames := 0, cells := 0, slots := 0, locals := 0 } D ad cI cR [.ref (ad 359)] mm r0 m9 := by
  refine Met.ofW (cc := cX7_requests) (maxL := 1) (ret := (some .int)) (by decide) rfl ?_
  intro p e s m args below meth c s₁ B hml hv
  obtain ⟨rfl, hP, hK, hN⟩ := hv
  have hx := B.exec
  have hb := B.bytes
  have hr := B.returns
  have hts := atoms_spec (ws := wsX7_requests) B.pre
  have hown : s.vm.findClass RX7 = some m.cls := findClass_of_methodNamed B.named
  have hlocks := B.notSynchronized
  have hA : ∀ q, AA ad q → AA ad q := fun _ h => h
  have hS : va_S (AA ad) s.heap s.heap [] := va_S.rf
  have hinX7 : ∀ w ∈ wsX70, w ∈ wsX7_requests := (fun _ h => List.mem_cons_of_mem _ (List.mem_append_right _ h))
  have hl := lv_entry ([.ref (ad 359)]) (n := 1) (Nat.le_of_ble_eq_true rfl)
  rw [lg_entry_eq]
  generalize (lg_sl ([.ref (ad 359)]) ++ List.replicate (1 - (lg_sl ([.ref (ad 359)])).length) Slot.unset).toArray = ls at hl ⊢
  have hl : lv_has ls 1 [(0, .ref (ad 359))] := hl
  unfold F_X7_requests at hf
  refine lv_aload_n hx hb dX7_requests_0 rfl (lv_at hl 0 rfl) ?_
  refine w_get (C := RX7) (T := TX7) (N := 9) (ci := 7) (v := .ref (ad 360)) hx hb hts hinX7 hown hK hP (S_mod ad cI cR).1 (S_mod ad cI cR).2 rfl 0 (by decide) (hts (.fieldLink RX7 7 "AdmissionControlModel" "z" "[I") (List.mem_of_getElem? (i := 1) rfl)) (fun _ h9 => h9) rfl dX7_requests_1 ?_
  refine lv_bipush (v := 69) hx hb dX7_requests_4 (by decide) ?_
  obtain ⟨hnb, hf⟩ := gd_e hf
  refine w_ald hx hb hK hP (S_z ad cI cR) hnb dX7_requests_6 ?_
  cases hf
  exact w_iret hx hb hr hlocks hP hS dX7_requests_7
def F_X7_told (fu : Nat) (a1 : Int32) (a2 : Int32) (mm : Mem) : Option (Int32 × Mem) := ob (F_X7_isRequest fu a1 mm) fun r6 m7 => if r6 = 0 then (some ((-100001), m7)) else (ob (F_X7_of fu a1 a2 m7) fun r9 m10 => some (r9, m10))
set_option maxHeartbeats 4000000 in
set_option maxRecDepth 100000 in
theorem c_X7_told (l : Launch) (D : va_G) (ad : Nat → Nat) (cI cR : ClassId) (hi : inj ad) (fu : Nat) (a1 : Int32) (a2 : Int32)  (mm : Mem) (r0 : Int32) (m9 : Mem) (hf : F_X7_told fu a1 a2 mm = some (r0, m9)) : MI l yX7_told wsX7_told { frames := 2, cells := 0, slots := 0, locals := 43 } D ad cI cR [.ref (ad 359), .int a1, .int a2] mm r0 m9 := by
  refine Met.ofW (cc := cX7_told) (maxL := 3) (ret := (some .int)) (by decide) rfl ?_
  intro p e s m args below meth c s₁ B hml hv
  obtain ⟨rfl, hP, hK, hN⟩ := hv
  have hx := B.exec
  have hb := B.bytes
  have hr := B.returns
  have hts := atoms_spec (ws := wsX7_told) B.pre
  have hown : s.vm.findClass RX7 = some m.cls := findClass_of_methodNamed B.named
  have hlocks := B.notSynchronized
  have hA : ∀ q, AA ad q → AA ad q := fun _ h => h
  have hS : va_S (AA ad) s.heap s.heap [] := va_S.rf
  have hl := lv_entry ([.ref (ad 359), .int a1, .int a2]) (n := 3) (Nat.le_of_ble_eq_true rfl)
  rw [lg_entry_eq]
  generalize (lg_sl ([.ref (ad 359), .int a1, .int a2]) ++ List.replicate (3 - (lg_sl ([.ref (ad 359), .int a1, .int a2])).length) Slot.unset).toArray = ls at hl ⊢
  have hl : lv_has ls 3 [(0, .ref (ad 359)), (1, .int a1), (2, .int a2)] := hl
  unfold F_X7_told at hf
  refine lv_aload_n hx hb dX7_told_0 rfl (lv_at hl 0 rfl) ?_
  refine lv_iload_n hx hb dX7_told_1 rfl (lv_at hl 1 rfl) ?_
  obtain ⟨r6, m7, hq, hf⟩ := ob_e hf
  refine w_ci (va_runV (As := [.int a1]) (rest := []) ⟨hx, hb, hml, hown, hts⟩ (c_X7_isRequest l D ad cI cR hi fu a1 mm r6 m7 hq) (cwV 1 hts gX7_told_X7_isRequest rfl rfl rfl (by decide +kernel) ⟨Nat.le_of_ble_eq_true rfl, Nat.le_of_ble_eq_true rfl⟩) (w_preV (ci := 7) hK hP hN (S_mod ad cI cR).1 (S_mod ad cI cR).2 rfl) rfl rfl hl.1 rfl (lv_room (Nat.le_of_ble_eq_true rfl)) dX7_told_2 ⟨Nat.zero_le _, Nat.zero_le _⟩) hA hS (fun H locs hP hS => ?_)
  refine lv_if_eq (tgt := 17) hx hb dX7_told_5 (by decide) (fun c8 => ?_) (fun c8 => ?_)
  · rw [if_pos c8] at hf
    refine lv_ldc (v := (-100001)) hx hb hown (hts (.constant RX7 83 (-100001)) (List.mem_of_getElem? (i := 1) rfl)) dX7_told_17 ?_
    cases hf
    exact w_iret hx hb hr hlocks hP hS dX7_told_19
  · rw [if_neg c8] at hf
    refine lv_aload_n hx hb dX7_told_8 rfl (lv_at hl 0 rfl) ?_
    refine lv_iload_n hx hb dX7_told_9 rfl (lv_at hl 1 rfl) ?_
    refine lv_iload_n hx hb dX7_told_10 rfl (lv_at hl 2 rfl) ?_
    obtain ⟨r9, m10, hq, hf⟩ := ob_e hf
    refine w_ci (va_runV (As := [.int a1, .int a2]) (rest := []) ⟨hx, hb, hml, hown, hts⟩ (c_X7_of l D ad cI cR hi fu a1 a2 m7 r9 m10 hq) (cwV 2 hts gX7_told_X7_of rfl rfl rfl (by decide +kernel) ⟨Nat.le_of_ble_eq_true rfl, Nat.le_of_ble_eq_true rfl⟩) (w_preV (ci := 7) hK hP hN (S_mod ad cI cR).1 (S_mod ad cI cR).2 rfl) rfl rfl hl.1 rfl (lv_room (Nat.le_of_ble_eq_true rfl)) dX7_told_11 ⟨Nat.zero_le _, Nat.zero_le _⟩) hA hS (fun H locs hP hS => ?_)
    refine lv_goto (tgt := 19) hx hb dX7_told_14 (by decide) ?_
    cases hf
    exact w_iret hx hb hr hlocks hP hS dX7_told_19
def F_X7_state (fu : Nat) (a1 : Int32) (mm : Mem) : Option (Int32 × Mem) := ob (F_X7_told fu a1 3 mm) fun r3 m4 => some (r3, m4)
set_option maxHeartbeats 4000000 in
set_option maxRecDepth 100000 in
theorem c_X7_state (l : Launch) (D : va_G) (ad : Nat → Nat) (cI cR : ClassId) (hi : inj ad) (fu : Nat) (a1 : Int32)  (mm : Mem) (r0 : Int32) (m9 : Mem) (hf : F_X7_state fu a1 mm = some (r0, m9)) : MI l yX7_state wsX7_state { frames := 3, cells := 0, slots := 0, locals := 65 } D ad cI cR [.ref (ad 359), .int a1] mm r0 m9 := by
  refine Met.ofW (cc := cX7_state) (maxL := 2) (ret := (some .int)) (by decide) rfl ?_
  intro p e s m args below meth c s₁ B hml hv
  obtain ⟨rfl, hP, hK, hN⟩ := hv
  have hx := B.exec
  have hb := B.bytes
  have hr := B.returns
  have hts := atoms_spec (ws := wsX7_state) B.pre
  have hown : s.vm.findClass RX7 = some m.cls := findClass_of_methodNamed B.named
  have hlocks := B.notSynchronized
  have hA : ∀ q, AA ad q → AA ad q := fun _ h => h
  have hS : va_S (AA ad) s.heap s.heap [] := va_S.rf
  have hl := lv_entry ([.ref (ad 359), .int a1]) (n := 2) (Nat.le_of_ble_eq_true rfl)
  rw [lg_entry_eq]
  generalize (lg_sl ([.ref (ad 359), .int a1]) ++ List.replicate (2 - (lg_sl ([.ref (ad 359), .int a1])).length) Slot.unset).toArray = ls at hl ⊢
  have hl : lv_has ls 2 [(0, .ref (ad 359)), (1, .int a1)] := hl
  unfold F_X7_state at hf
  refine lv_aload_n hx hb dX7_state_0 rfl (lv_at hl 0 rfl) ?_
  refine lv_iload_n hx hb dX7_state_1 rfl (lv_at hl 1 rfl) ?_
  refine lv_iconst (v := 3) hx hb dX7_state_2 (by decide) ?_
  obtain ⟨r3, m4, hq, hf⟩ := ob_e hf
  refine w_ci (va_runV (As := [.int a1, .int 3]) (rest := []) ⟨hx, hb, hml, hown, hts⟩ (c_X7_told l D ad cI cR hi fu a1 3 mm r3 m4 hq) (cwV 2 hts gX7_state_X7_told rfl rfl rfl (by decide +kernel) ⟨Nat.le_of_ble_eq_true rfl, Nat.le_of_ble_eq_true rfl⟩) (w_preV (ci := 7) hK hP hN (S_mod ad cI cR).1 (S_mod ad cI cR).2 rfl) rfl rfl hl.1 rfl (lv_room (Nat.le_of_ble_eq_true rfl)) dX7_state_3 ⟨Nat.zero_le _, Nat.zero_le _⟩) hA hS (fun H locs hP hS => ?_)
  cases hf
  exact w_iret hx hb hr hlocks hP hS dX7_state_6
def F_X7_price (fu : Nat) (a1 : Int32) (mm : Mem) : Option (Int32 × Mem) := ob (F_X7_told fu a1 4 mm) fun r3 m4 => some (r3, m4)
set_option maxHeartbeats 4000000 in
set_option maxRecDepth 100000 in
theorem c_X7_price (l : Launch) (D : va_G) (ad : Nat → Nat) (cI cR : ClassId) (hi : inj ad) (fu : Nat) (a1 : Int32)  (mm : Mem) (r0 : Int32) (m9 : Mem) (hf : F_X7_price fu a1 mm = some (r0, m9)) : MI l yX7_price wsX7_price { frames := 3, cells := 0, slots := 0, locals := 65 } D ad cI cR [.ref (ad 359), .int a1] mm r0 m9 := by
  refine Met.ofW (cc := cX7_price) (maxL := 2) (ret := (some .int)) (by decide) rfl ?_
  intro p e s m args below meth c s₁ B hml hv
  obtain ⟨rfl, hP, hK, hN⟩ := hv
  have hx := B.exec
  have hb := B.bytes
  have hr := B.returns
  have hts := atoms_spec (ws := wsX7_price) B.pre
  have hown : s.vm.findClass RX7 = some m.cls := findClass_of_methodNamed B.named
  have hlocks := B.notSynchronized
  have hA : ∀ q, AA ad q → AA ad q := fun _ h => h
  have hS : va_S (AA ad) s.heap s.heap [] := va_S.rf
  have hl := lv_entry ([.ref (ad 359), .int a1]) (n := 2) (Nat.le_of_ble_eq_true rfl)
  rw [lg_entry_eq]
  generalize (lg_sl ([.ref (ad 359), .int a1]) ++ List.replicate (2 - (lg_sl ([.ref (ad 359), .int a1])).length) Slot.unset).toArray = ls at hl ⊢
  have hl : lv_has ls 2 [(0, .ref (ad 359)), (1, .int a1)] := hl
  unfold F_X7_price at hf
  refine lv_aload_n hx hb dX7_price_0 rfl (lv_at hl 0 rfl) ?_
  refine lv_iload_n hx hb dX7_price_1 rfl (lv_at hl 1 rfl) ?_
  refine lv_iconst (v := 4) hx hb dX7_price_2 (by decide) ?_
  obtain ⟨r3, m4, hq, hf⟩ := ob_e hf
  refine w_ci (va_runV (As := [.int a1, .int 4]) (rest := []) ⟨hx, hb, hml, hown, hts⟩ (c_X7_told l D ad cI cR hi fu a1 4 mm r3 m4 hq) (cwV 2 hts gX7_price_X7_told rfl rfl rfl (by decide +kernel) ⟨Nat.le_of_ble_eq_true rfl, Nat.le_of_ble_eq_true rfl⟩) (w_preV (ci := 7) hK hP hN (S_mod ad cI cR).1 (S_mod ad cI cR).2 rfl) rfl rfl hl.1 rfl (lv_room (Nat.le_of_ble_eq_true rfl)) dX7_price_3 ⟨Nat.zero_le _, Nat.zero_le _⟩) hA hS (fun H locs hP hS => ?_)
  cases hf
  exact w_iret hx hb hr hlocks hP hS dX7_price_6
def F_X7_done (fu : Nat) (a1 : Int32) (mm : Mem) : Option (Int32 × Mem) := ob (F_X7_told fu a1 5 mm) fun r3 m4 => some (r3, m4)
set_option maxHeartbeats 4000000 in
set_option maxRecDepth 100000 in
theorem c_X7_done (l : Launch) (D : va_G) (ad : Nat → Nat) (cI cR : ClassId) (hi : inj ad) (fu : Nat) (a1 : Int32)  (mm : Mem) (r0 : Int32) (m9 : Mem) (hf : F_X7_done fu a1 mm = some (r0, m9)) : MI l yX7_done wsX7_done { frames := 3, cells := 0, slots := 0, locals := 65 } D ad cI cR [.ref (ad 359), .int a1] mm r0 m9 := by
  refine Met.ofW (cc := cX7_done) (maxL := 2) (ret := (some .int)) (by decide) rfl ?_
  intro p e s m args below meth c s₁ B hml hv
  obtain ⟨rfl, hP, hK, hN⟩ := hv
  have hx := B.exec
  have hb := B.bytes
  have hr := B.returns
  have hts := atoms_spec (ws := wsX7_done) B.pre
  have hown : s.vm.findClass RX7 = some m.cls := findClass_of_methodNamed B.named
  have hlocks := B.notSynchronized
  have hA : ∀ q, AA ad q → AA ad q := fun _ h => h
  have hS : va_S (AA ad) s.heap s.heap [] := va_S.rf
  have hl := lv_entry ([.ref (ad 359), .int a1]) (n := 2) (Nat.le_of_ble_eq_true rfl)
  rw [lg_entry_eq]
  generalize (lg_sl ([.ref (ad 359), .int a1]) ++ List.replicate (2 - (lg_sl ([.ref (ad 359), .int a1])).length) Slot.unset).toArray = ls at hl ⊢
  have hl : lv_has ls 2 [(0, .ref (ad 359)), (1, .int a1)] := hl
  unfold F_X7_done at hf
  refine lv_aload_n hx hb dX7_done_0 rfl (lv_at hl 0 rfl) ?_
  refine lv_iload_n hx hb dX7_done_1 rfl (lv_at hl 1 rfl) ?_
  refine lv_iconst (v := 5) hx hb dX7_done_2 (by decide) ?_
  obtain ⟨r3, m4, hq, hf⟩ := ob_e hf
  refine w_ci (va_runV (As := [.int a1, .int 5]) (rest := []) ⟨hx, hb, hml, hown, hts⟩ (c_X7_told l D ad cI cR hi fu a1 5 mm r3 m4 hq) (cwV 2 hts gX7_done_X7_told rfl rfl rfl (by decide +kernel) ⟨Nat.le_of_ble_eq_true rfl, Nat.le_of_ble_eq_true rfl⟩) (w_preV (ci := 7) hK hP hN (S_mod ad cI cR).1 (S_mod ad cI cR).2 rfl) rfl rfl hl.1 rfl (lv_room (Nat.le_of_ble_eq_true rfl)) dX7_done_3 ⟨Nat.zero_le _, Nat.zero_le _⟩) hA hS (fun H locs hP hS => ?_)
  cases hf
  exact w_iret hx hb hr hlocks hP hS dX7_done_6
def F_X7_offers (fu : Nat) (a1 : Int32) (mm : Mem) : Option (Int32 × Mem) := ob (F_X7_told fu a1 6 mm) fun r3 m4 => some (r3, m4)
set_option maxHeartbeats 4000000 in
set_option maxRecDepth 100000 in
theorem c_X7_offers (l : Launch) (D : va_G) (ad : Nat → Nat) (cI cR : ClassId) (hi : inj ad) (fu : Nat) (a1 : Int32)  (mm : Mem) (r0 : Int32) (m9 : Mem) (hf : F_X7_offers fu a1 mm = some (r0, m9)) : MI l yX7_offers wsX7_offers { frames := 3, cells := 0, slots := 0, locals := 65 } D ad cI cR [.ref (ad 359), .int a1] mm r0 m9 := by
  refine Met.ofW (cc := cX7_offers) (maxL := 2) (ret := (some .int)) (by decide) rfl ?_
  intro p e s m args below meth c s₁ B hml hv
  obtain ⟨rfl, hP, hK, hN⟩ := hv
  have hx := B.exec
  have hb := B.bytes
  have hr := B.returns
  have hts := atoms_spec (ws := wsX7_offers) B.pre
  have hown : s.vm.findClass RX7 = some m.cls := findClass_of_methodNamed B.named
  have hlocks := B.notSynchronized
  have hA : ∀ q, AA ad q → AA ad q := fun _ h => h
  have hS : va_S (AA ad) s.heap s.heap [] := va_S.rf
  have hl := lv_entry ([.ref (ad 359), .int a1]) (n := 2) (Nat.le_of_ble_eq_true rfl)
  rw [lg_entry_eq]
  generalize (lg_sl ([.ref (ad 359), .int a1]) ++ List.replicate (2 - (lg_sl ([.ref (ad 359), .int a1])).length) Slot.unset).toArray = ls at hl ⊢
  have hl : lv_has ls 2 [(0, .ref (ad 359)), (1, .int a1)] := hl
  unfold F_X7_offers at hf
  refine lv_aload_n hx hb dX7_offers_0 rfl (lv_at hl 0 rfl) ?_
  refine lv_iload_n hx hb dX7_offers_1 rfl (lv_at hl 1 rfl) ?_
  refine lv_bipush (v := 6) hx hb dX7_offers_2 (by decide) ?_
  obtain ⟨r3, m4, hq, hf⟩ := ob_e hf
  refine w_ci (va_runV (As := [.int a1, .int 6]) (rest := []) ⟨hx, hb, hml, hown, hts⟩ (c_X7_told l D ad cI cR hi fu a1 6 mm r3 m4 hq) (cwV 2 hts gX7_offers_X7_told rfl rfl rfl (by decide +kernel) ⟨Nat.le_of_ble_eq_true rfl, Nat.le_of_ble_eq_true rfl⟩) (w_preV (ci := 7) hK hP hN (S_mod ad cI cR).1 (S_mod ad cI cR).2 rfl) rfl rfl hl.1 rfl (lv_room (Nat.le_of_ble_eq_true rfl)) dX7_offers_4 ⟨Nat.zero_le _, Nat.zero_le _⟩) hA hS (fun H locs hP hS => ?_)
  cases hf
  exact w_iret hx hb hr hlocks hP hS dX7_offers_7
def F_X7_reason (fu : Nat) (a1 : Int32) (mm : Mem) : Option (Int32 × Mem) := ob (F_X7_told fu a1 7 mm) fun r3 m4 => some (r3, m4)
set_option maxHeartbeats 4000000 in
set_option maxRecDepth 100000 in
theorem c_X7_reason (l : Launch) (D : va_G) (ad : Nat → Nat) (cI cR : ClassId) (hi : inj ad) (fu : Nat) (a1 : Int32)  (mm : Mem) (r0 : Int32) (m9 : Mem) (hf : F_X7_reason fu a1 mm = some (r0, m9)) : MI l yX7_reason wsX7_reason { frames := 3, cells := 0, slots := 0, locals := 65 } D ad cI cR [.ref (ad 359), .int a1] mm r0 m9 := by
  refine Met.ofW (cc := cX7_reason) (maxL := 2) (ret := (some .int)) (by decide) rfl ?_
  intro p e s m args below meth c s₁ B hml hv
  obtain ⟨rfl, hP, hK, hN⟩ := hv
  have hx := B.exec
  have hb := B.bytes
  have hr := B.returns
  have hts := atoms_spec (ws := wsX7_reason) B.pre
  have hown : s.vm.findClass RX7 = some m.cls := findClass_of_methodNamed B.named
  have hlocks := B.notSynchronized
  have hA : ∀ q, AA ad q → AA ad q := fun _ h => h
  have hS : va_S (AA ad) s.heap s.heap [] := va_S.rf
  have hl := lv_entry ([.ref (ad 359), .int a1]) (n := 2) (Nat.le_of_ble_eq_true rfl)
  rw [lg_entry_eq]
  generalize (lg_sl ([.ref (ad 359), .int a1]) ++ List.replicate (2 - (lg_sl ([.ref (ad 359), .int a1])).length) Slot.unset).toArray = ls at hl ⊢
  have hl : lv_has ls 2 [(0, .ref (ad 359)), (1, .int a1)] := hl
  unfold F_X7_reason at hf
  refine lv_aload_n hx hb dX7_reason_0 rfl (lv_at hl 0 rfl) ?_
  refine lv_iload_n hx hb dX7_reason_1 rfl (lv_at hl 1 rfl) ?_
  refine lv_bipush (v := 7) hx hb dX7_reason_2 (by decide) ?_
  obtain ⟨r3, m4, hq, hf⟩ := ob_e hf
  refine w_ci (va_runV (As := [.int a1, .int 7]) (rest := []) ⟨hx, hb, hml, hown, hts⟩ (c_X7_told l D ad cI cR hi fu a1 7 mm r3 m4 hq) (cwV 2 hts gX7_reason_X7_told rfl rfl rfl (by decide +kernel) ⟨Nat.le_of_ble_eq_true rfl, Nat.le_of_ble_eq_true rfl⟩) (w_preV (ci := 7) hK hP hN (S_mod ad cI cR).1 (S_mod ad cI cR).2 rfl) rfl rfl hl.1 rfl (lv_room (Nat.le_of_ble_eq_true rfl)) dX7_reason_4 ⟨Nat.zero_le _, Nat.zero_le _⟩) hA hS (fun H locs hP hS => ?_)
  cases hf
  exact w_iret hx hb hr hlocks hP hS dX7_reason_7
def F_X7_when (fu : Nat) (a1 : Int32) (mm : Mem) : Option (Int32 × Mem) := ob (F_X7_told fu a1 8 mm) fun r3 m4 => some (r3, m4)
set_option maxHeartbeats 4000000 in
set_option maxRecDepth 100000 in
theorem c_X7_when (l : Launch) (D : va_G) (ad : Nat → Nat) (cI cR : ClassId) (hi : inj ad) (fu : Nat) (a1 : Int32)  (mm : Mem) (r0 : Int32) (m9 : Mem) (hf : F_X7_when fu a1 mm = some (r0, m9)) : MI l yX7_when wsX7_when { frames := 3, cells := 0, slots := 0, locals := 65 } D ad cI cR [.ref (ad 359), .int a1] mm r0 m9 := by
  refine Met.ofW (cc := cX7_when) (maxL := 2) (ret := (some .int)) (by decide) rfl ?_
  intro p e s m args below meth c s₁ B hml hv
  obtain ⟨rfl, hP, hK, hN⟩ := hv
  have hx := B.exec
  have hb := B.bytes
  have hr := B.returns
  have hts := atoms_spec (ws := wsX7_when) B.pre
  have hown : s.vm.findClass RX7 = some m.cls := findClass_of_methodNamed B.named
  have hlocks := B.notSynchronized
  have hA : ∀ q, AA ad q → AA ad q := fun _ h => h
  have hS : va_S (AA ad) s.heap s.heap [] := va_S.rf
  have hl := lv_entry ([.ref (ad 359), .int a1]) (n := 2) (Nat.le_of_ble_eq_true rfl)
  rw [lg_entry_eq]
  generalize (lg_sl ([.ref (ad 359), .int a1]) ++ List.replicate (2 - (lg_sl ([.ref (ad 359), .int a1])).length) Slot.unset).toArray = ls at hl ⊢
  have hl : lv_has ls 2 [(0, .ref (ad 359)), (1, .int a1)] := hl
  unfold F_X7_when at hf
  refine lv_aload_n hx hb dX7_when_0 rfl (lv_at hl 0 rfl) ?_
  refine lv_iload_n hx hb dX7_when_1 rfl (lv_at hl 1 rfl) ?_
  refine lv_bipush (v := 8) hx hb dX7_when_2 (by decide) ?_
  obtain ⟨r3, m4, hq, hf⟩ := ob_e hf
  refine w_ci (va_runV (As := [.int a1, .int 8]) (rest := []) ⟨hx, hb, hml, hown, hts⟩ (c_X7_told l D ad cI cR hi fu a1 8 mm r3 m4 hq) (cwV 2 hts gX7_when_X7_told rfl rfl rfl (by decide +kernel) ⟨Nat.le_of_ble_eq_true rfl, Nat.le_of_ble_eq_true rfl⟩) (w_preV (ci := 7) hK hP hN (S_mod ad cI cR).1 (S_mod ad cI cR).2 rfl) rfl rfl hl.1 rfl (lv_room (Nat.le_of_ble_eq_true rfl)) dX7_when_4 ⟨Nat.zero_le _, Nat.zero_le _⟩) hA hS (fun H locs hP hS => ?_)
  cases hf
  exact w_iret hx hb hr hlocks hP hS dX7_when_7
def F_X7_wouldRefuse (fu : Nat) (a1 : Int32) (a2 : Int32) (mm : Mem) : Option (Int32 × Mem) := ob (F_X7_isClass fu a1 mm) fun r11 m12 => if r11 = 0 then (some ((-100001), m12)) else (ob (F_X7_isShape fu a2 m12) fun r14 m15 => if r14 = 0 then (some ((-100001), m15)) else (ob (F_X7_expectedCost fu a2 m15) fun r17 m18 => ob (F_X7_whyRefused fu a1 r17 m18) fun r19 m20 => some (r19, m20)))
set_option maxHeartbeats 4000000 in
set_option maxRecDepth 100000 in
theorem c_X7_wouldRefuse (l : Launch) (D : va_G) (ad : Nat → Nat) (cI cR : ClassId) (hi : inj ad) (fu : Nat) (a1 : Int32) (a2 : Int32)  (mm : Mem) (r0 : Int32) (m9 : Mem) (hf : F_X7_wouldRefuse fu a1 a2 mm = some (r0, m9)) : MI l yX7_wouldRefuse wsX7_wouldRefuse { frames := 3, cells := 0, slots := 0, locals := 70 } D ad cI cR [.ref (ad 359), .int a1, .int a2] mm r0 m9 := by
  refine Met.ofW (cc := cX7_wouldRefuse) (maxL := 3) (ret := (some .int)) (by decide) rfl ?_
  intro p e s m args below meth c s₁ B hml hv
  obtain ⟨rfl, hP, hK, hN⟩ := hv
  have hx := B.exec
  have hb := B.bytes
  have hr := B.returns
  have hts := atoms_spec (ws := wsX7_wouldRefuse) B.pre
  have hown : s.vm.findClass RX7 = some m.cls := findClass_of_methodNamed B.named
  have hlocks := B.notSynchronized
  have hA : ∀ q, AA ad q → AA ad q := fun _ h => h
  have hS : va_S (AA ad) s.heap s.heap [] := va_S.rf
  have hl := lv_entry ([.ref (ad 359), .int a1, .int a2]) (n := 3) (Nat.le_of_ble_eq_true rfl)
  rw [lg_entry_eq]
  generalize (lg_sl ([.ref (ad 359), .int a1, .int a2]) ++ List.replicate (3 - (lg_sl ([.ref (ad 359), .int a1, .int a2])).length) Slot.unset).toArray = ls at hl ⊢
  have hl : lv_has ls 3 [(0, .ref (ad 359)), (1, .int a1), (2, .int a2)] := hl
  unfold F_X7_wouldRefuse at hf
  refine lv_iload_n hx hb dX7_wouldRefuse_0 rfl (lv_at hl 1 rfl) ?_
  obtain ⟨r11, m12, hq, hf⟩ := ob_e hf
  refine w_ci (va_runS (As := [.int a1]) (rest := []) ⟨hx, hb, hml, hown, hts⟩ (c_X7_isClass l D ad cI cR hi fu a1 mm r11 m12 hq) (va_cwS 1 hts gX7_wouldRefuse_X7_isClass rfl rfl rfl (by decide +kernel) ⟨Nat.le_of_ble_eq_true rfl, Nat.le_of_ble_eq_true rfl⟩) (w_preS hK hP hN) rfl rfl hl.1 rfl (lv_room (Nat.le_of_ble_eq_true rfl)) dX7_wouldRefuse_1 ⟨Nat.zero_le _, Nat.zero_le _⟩) hA hS (fun H locs hP hS => ?_)
  refine lv_if_eq (tgt := 27) hx hb dX7_wouldRefuse_4 (by decide) (fun c13 => ?_) (fun c13 => ?_)
  · rw [if_pos c13] at hf
    refine lv_ldc (v := (-100001)) hx hb hown (hts (.constant RX7 83 (-100001)) (List.mem_of_getElem? (i := 1) rfl)) dX7_wouldRefuse_27 ?_
    cases hf
    exact w_iret hx hb hr hlocks hP hS dX7_wouldRefuse_29
  · rw [if_neg c13] at hf
    refine lv_iload_n hx hb dX7_wouldRefuse_7 rfl (lv_at hl 2 rfl) ?_
    obtain ⟨r14, m15, hq, hf⟩ := ob_e hf
    refine w_ci (va_runS (As := [.int a2]) (rest := []) ⟨hx, hb, hml, hown, hts⟩ (c_X7_isShape l D ad cI cR hi fu a2 m12 r14 m15 hq) (va_cwS 1 hts gX7_wouldRefuse_X7_isShape rfl rfl rfl (by decide +kernel) ⟨Nat.le_of_ble_eq_true rfl, Nat.le_of_ble_eq_true rfl⟩) (w_preS hK hP hN) rfl rfl hl.1 rfl (lv_room (Nat.le_of_ble_eq_true rfl)) dX7_wouldRefuse_8 ⟨Nat.zero_le _, Nat.zero_le _⟩) hA hS (fun H locs hP hS => ?_)
    refine lv_if_eq (tgt := 27) hx hb dX7_wouldRefuse_11 (by decide) (fun c16 => ?_) (fun c16 => ?_)
    · rw [if_pos c16] at hf
      refine lv_ldc (v := (-100001)) hx hb hown (hts (.constant RX7 83 (-100001)) (List.mem_of_getElem? (i := 1) rfl)) dX7_wouldRefuse_27 ?_
      cases hf
      exact w_iret hx hb hr hlocks hP hS dX7_wouldRefuse_29
    · rw [if_neg c16] at hf
      refine lv_aload_n hx hb dX7_wouldRefuse_14 rfl (lv_at hl 0 rfl) ?_
      refine lv_iload_n hx hb dX7_wouldRefuse_15 rfl (lv_at hl 1 rfl) ?_
      refine lv_aload_n hx hb dX7_wouldRefuse_16 rfl (lv_at hl 0 rfl) ?_
      refine lv_iload_n hx hb dX7_wouldRefuse_17 rfl (lv_at hl 2 rfl) ?_
      obtain ⟨r17, m18, hq, hf⟩ := ob_e hf
      refine w_ci (va_runV (As := [.int a2]) (rest := [.int a1, .ref (ad 359)]) ⟨hx, hb, hml, hown, hts⟩ (c_X7_expectedCost l D ad cI cR hi fu a2 m15 r17 m18 hq) (cwV 1 hts gX7_wouldRefuse_X7_expectedCost rfl rfl rfl (by decide +kernel) ⟨Nat.le_of_ble_eq_true rfl, Nat.le_of_ble_eq_true rfl⟩) (w_preV (ci := 7) hK hP hN (S_mod ad cI cR).1 (S_mod ad cI cR).2 rfl) rfl rfl hl.1 rfl (lv_room (Nat.le_of_ble_eq_true rfl)) dX7_wouldRefuse_18 ⟨Nat.zero_le _, Nat.zero_le _⟩) hA hS (fun H locs hP hS => ?_)
      obtain ⟨r19, m20, hq, hf⟩ := ob_e hf
      refine w_ci (va_runV (As := [.int a1, .int r17]) (rest := []) ⟨hx, hb, hml, hown, hts⟩ (c_X7_whyRefused l D ad cI cR hi fu a1 r17 m18 r19 m20 hq) (cwV 2 hts gX7_wouldRefuse_X7_whyRefused rfl rfl rfl (by decide +kernel) ⟨Nat.le_of_ble_eq_true rfl, Nat.le_of_ble_eq_true rfl⟩) (w_preV (ci := 7) hK hP hN (S_mod ad cI cR).1 (S_mod ad cI cR).2 rfl) rfl rfl hl.1 rfl (lv_room (Nat.le_of_ble_eq_true rfl)) dX7_wouldRefuse_21 ⟨Nat.zero_le _, Nat.zero_le _⟩) hA hS (fun H locs hP hS => ?_)
      refine lv_goto (tgt := 29) hx hb dX7_wouldRefuse_24 (by decide) ?_
      cases hf
      exact w_iret hx hb hr hlocks hP hS dX7_wouldRefuse_29
def F_X7_inState_L4 (fu : Nat) (a1 : Int32)  : Nat → Int32 → Int32 → Mem → Option (Int32 × Mem)
  | 0, _, _, _ => none
  | n + 1, x2, x3, mm => gd (inb 69 395) (if (mm 360 (69 : Int32).toNatClampNeg) ≤ x3 then (some (x2, mm)) else (ob (F_X7_of fu x3 3 mm) fun r18 m19 => if r18 = a1 then (bd (x2 + 1) fun v23 => bd (x3 + 1) fun v24 => F_X7_inState_L4 fu a1 n v23 v24 m19) else (bd (x2 + 0) fun v21 => bd (x3 + 1) fun v22 => F_X7_inState_L4 fu a1 n v21 v22 m19)))
def F_X7_inState (fu : Nat) (a1 : Int32) (mm : Mem) : Option (Int32 × Mem) := F_X7_inState_L4 fu a1 fu 0 0 mm
set_option maxHeartbeats 4000000 in
set_option maxRecDepth 100000 in
theorem c_X7_inState (l : Launch) (D : va_G) (ad : Nat → Nat) (cI cR : ClassId) (hi : inj ad) (fu : Nat) (a1 : Int32)  (mm : Mem) (r0 : Int32) (m9 : Mem) (hf : F_X7_inState fu a1 mm = some (r0, m9)) : MI l yX7_inState wsX7_inState { frames := 1, cells := 0, slots := 0, locals := 22 } D ad cI cR [.ref (ad 359), .int a1] mm r0 m9 := by
  refine Met.ofW (cc := cX7_inState) (maxL := 4) (ret := (some .int)) (by decide) rfl ?_
  intro p e s m args below meth c s₁ B hml hv
  obtain ⟨rfl, hP, hK, hN⟩ := hv
  have hx := B.exec
  have hb := B.bytes
  have hr := B.returns
  have hts := atoms_spec (ws := wsX7_inState) B.pre
  have hown : s.vm.findClass RX7 = some m.cls := findClass_of_methodNamed B.named
  have hlocks := B.notSynchronized
  have hA : ∀ q, AA ad q → AA ad q := fun _ h => h
  have hS : va_S (AA ad) s.heap s.heap [] := va_S.rf
  have hinX7 : ∀ w ∈ wsX70, w ∈ wsX7_inState := (fun _ h => List.mem_cons_of_mem _ (List.mem_append_right _ h))
  have hL4 : ∀ (n : Nat) (x2 : Int32) (x3 : Int32)  (mm : Mem) (H : Heap) (locs : List Loc) (ls : Array Slot), F_X7_inState_L4 fu a1  n x2 x3 mm = some (r0, m9) → va_P D vwCl (cw ad cI cR mm) H → va_S (AA ad) s.heap H locs → lv_has ls 4 [(0, .ref (ad 359)), (1, .int a1), (2, .int x2), (3, .int x3)] → W p l e (headSpec wsX7_inState { frames := 1, cells := 0, slots := 0, locals := 22 }).room s m ([.ref (ad 359), .int a1] : List Value).toArray below meth c H locs 0 0 (MQ below (va_Qi (fun (r' : Int32) (u : Mem) => r' = r0 ∧ u = m9) (KB D ad cI cR) (AA ad)) ([.ref (ad 359), .int a1] : List Value).toArray s 0 0 (AA ad)) (F0 m 4 ls []) := by
    intro n
    induction n with
    | zero =>
      intro x2 x3 mm H locs ls hf hP hS hl
      rw [F_X7_inState_L4] at hf
      cases hf
    | succ n4 ih4 =>
      intro x2 x3 mm H locs ls hf hP hS hl
      rw [F_X7_inState_L4] at hf
      refine lv_iload_n hx hb dX7_inState_4 rfl (lv_at hl 3 rfl) ?_
      refine lv_aload_n hx hb dX7_inState_5 rfl (lv_at hl 0 rfl) ?_
      refine w_get (C := RX7) (T := TX7) (N := 9) (ci := 7) (v := .ref (ad 360)) hx hb hts hinX7 hown hK hP (S_mod ad cI cR).1 (S_mod ad cI cR).2 rfl 0 (by decide) (hts (.fieldLink RX7 7 "AdmissionControlModel" "z" "[I") (List.mem_of_getElem? (i := 1) rfl)) (fun _ h9 => h9) rfl dX7_inState_6 ?_
      refine lv_bipush (v := 69) hx hb dX7_inState_9 (by decide) ?_
      obtain ⟨hnb, hf⟩ := gd_e hf
      refine w_ald hx hb hK hP (S_z ad cI cR) hnb dX7_inState_11 ?_
      refine lv_icmp_ge (tgt := 39) hx hb dX7_inState_12 (by decide) (fun c17 => ?_) (fun c17 => ?_)
      · rw [if_pos c17] at hf
        refine lv_iload_n hx hb dX7_inState_39 rfl (lv_at hl 2 rfl) ?_
        cases hf
        exact w_iret hx hb hr hlocks hP hS dX7_inState_40
      · rw [if_neg c17] at hf
        refine lv_iload_n hx hb dX7_inState_15 rfl (lv_at hl 2 rfl) ?_
        refine lv_aload_n hx hb dX7_inState_16 rfl (lv_at hl 0 rfl) ?_
        refine lv_iload_n hx hb dX7_inState_17 rfl (lv_at hl 3 rfl) ?_
        refine lv_iconst (v := 3) hx hb dX7_inState_18 (by decide) ?_
        obtain ⟨r18, m19, hq, hf⟩ := ob_e hf
        refine w_ci (va_runV (As := [.int x3, .int 3]) (rest := [.int x2]) ⟨hx, hb, hml, hown, hts⟩ (c_X7_of l D ad cI cR hi fu x3 3 mm r18 m19 hq) (cwV 2 hts gX7_inState_X7_of rfl rfl rfl (by decide +kernel) ⟨Nat.le_of_ble_eq_true rfl, Nat.le_of_ble_eq_true rfl⟩) (w_preV (ci := 7) hK hP hN (S_mod ad cI cR).1 (S_mod ad cI cR).2 rfl) rfl rfl hl.1 rfl (lv_room (Nat.le_of_ble_eq_true rfl)) dX7_inState_19 ⟨Nat.zero_le _, Nat.zero_le _⟩) hA hS (fun H locs hP hS => ?_)
        refine lv_iload_n hx hb dX7_inState_22 rfl (lv_at hl 1 rfl) ?_
        refine lv_icmp_ne (tgt := 30) hx hb dX7_inState_23 (by decide) (fun c20 => ?_) (fun c20 => ?_)
        · rw [if_neg c20] at hf
          refine lv_iconst (v := 0) hx hb dX7_inState_30 (by decide) ?_
          obtain ⟨v21, ev21, hf⟩ := bd_e hf
          refine lv_iadd hx hb dX7_inState_31 ?_
          refine w_top ev21 ?_
          refine lv_istore_n (lv' := [(2, .int v21), (0, .ref (ad 359)), (1, .int a1), (3, .int x3)]) hx hb dX7_inState_32 rfl hl (by decide) rfl (fun ls hl => ?_)
          obtain ⟨v22, ev22, hf⟩ := bd_e hf
          refine lv_iinc (v := v22) (lv' := [(3, .int v22), (2, .int v21), (0, .ref (ad 359)), (1, .int a1)]) hx hb dX7_inState_33 hl (k := 3) rfl (by rw [ev22]; rfl) (by decide) rfl (fun ls hl => ?_)
          refine lv_goto (tgt := 4) hx hb dX7_inState_36 (by decide) ?_
          exact ih4 v21 v22 m19 _ _ _ hf hP hS (lv_sub hl [2, 3, 1, 0] rfl)
        · rw [if_pos c20] at hf
          refine lv_iconst (v := 1) hx hb dX7_inState_26 (by decide) ?_
          refine lv_goto (tgt := 31) hx hb dX7_inState_27 (by decide) ?_
          obtain ⟨v23, ev23, hf⟩ := bd_e hf
          refine lv_iadd hx hb dX7_inState_31 ?_
          refine w_top ev23 ?_
          refine lv_istore_n (lv' := [(2, .int v23), (0, .ref (ad 359)), (1, .int a1), (3, .int x3)]) hx hb dX7_inState_32 rfl hl (by decide) rfl (fun ls hl => ?_)
          obtain ⟨v24, ev24, hf⟩ := bd_e hf
          refine lv_iinc (v := v24) (lv' := [(3, .int v24), (2, .int v23), (0, .ref (ad 359)), (1, .int a1)]) hx hb dX7_inState_33 hl (k := 3) rfl (by rw [ev24]; rfl) (by decide) rfl (fun ls hl => ?_)
          refine lv_goto (tgt := 4) hx hb dX7_inState_36 (by decide) ?_
          exact ih4 v23 v24 m19 _ _ _ hf hP hS (lv_sub hl [2, 3, 1, 0] rfl)
  have hl := lv_entry ([.ref (ad 359), .int a1]) (n := 4) (Nat.le_of_ble_eq_true rfl)
  rw [lg_entry_eq]
  generalize (lg_sl ([.ref (ad 359), .int a1]) ++ List.replicate (4 - (lg_sl ([.ref (ad 359), .int a1])).length) Slot.unset).toArray = ls at hl ⊢
  have hl : lv_has ls 4 [(0, .ref (ad 359)), (1, .int a1)] := hl
  unfold F_X7_inState at hf
  refine lv_iconst (v := 0) hx hb dX7_inState_0 (by decide) ?_
  refine lv_istore_n (lv' := [(2, .int 0), (0, .ref (ad 359)), (1, .int a1)]) hx hb dX7_inState_1 rfl hl (by decide) rfl (fun ls hl => ?_)
  refine lv_iconst (v := 0) hx hb dX7_inState_2 (by decide) ?_
  refine lv_istore_n (lv' := [(3, .int 0), (2, .int 0), (0, .ref (ad 359)), (1, .int a1)]) hx hb dX7_inState_3 rfl hl (by decide) rfl (fun ls hl => ?_)
  exact hL4 fu 0 0 mm _ _ _ hf hP hS (lv_sub hl [2, 3, 1, 0] rfl)
def F_X7_isOver (fu : Nat)  (mm : Mem) : Option (Int32 × Mem) := ob (F_X7_inState fu 2 mm) fun r7 m8 => ob (F_X7_inState fu 4 m8) fun r9 m10 => bd (r7 + r9) fun v11 => gd (inb 69 395) (if v11 = (m10 360 (69 : Int32).toNatClampNeg) then (some (1, m10)) else (some (0, m10)))
set_option maxHeartbeats 4000000 in
set_option maxRecDepth 100000 in
theorem c_X7_isOver (l : Launch) (D : va_G) (ad : Nat → Nat) (cI cR : ClassId) (hi : inj ad) (fu : Nat)   (mm : Mem) (r0 : Int32) (m9 : Mem) (hf : F_X7_isOver fu  mm = some (r0, m9)) : MI l yX7_isOver wsX7_isOver { frames := 2, cells := 0, slots := 0, locals := 45 } D ad cI cR [.ref (ad 359)] mm r0 m9 := by
  refine Met.ofW (cc := cX7_isOver) (maxL := 1) (ret := (some .boolean)) (by decide) rfl ?_
  intro p e s m args below meth c s₁ B hml hv
  obtain ⟨rfl, hP, hK, hN⟩ := hv
  have hx := B.exec
  have hb := B.bytes
  have hr := B.returns
  have hts := atoms_spec (ws := wsX7_isOver) B.pre
  have hown : s.vm.findClass RX7 = some m.cls := findClass_of_methodNamed B.named
  have hlocks := B.notSynchronized
  have hA : ∀ q, AA ad q → AA ad q := fun _ h => h
  have hS : va_S (AA ad) s.heap s.heap [] := va_S.rf
  have hinX7 : ∀ w ∈ wsX70, w ∈ wsX7_isOver := (fun _ h => List.mem_cons_of_mem _ (List.mem_append_right _ h))
  have hl := lv_entry ([.ref (ad 359)]) (n := 1) (Nat.le_of_ble_eq_true rfl)
  rw [lg_entry_eq]
  generalize (lg_sl ([.ref (ad 359)]) ++ List.replicate (1 - (lg_sl ([.ref (ad 359)])).length) Slot.unset).toArray = ls at hl ⊢
  have hl : lv_has ls 1 [(0, .ref (ad 359))] := hl
  unfold F_X7_isOver at hf
  refine lv_aload_n hx hb dX7_isOver_0 rfl (lv_at hl 0 rfl) ?_
  refine lv_iconst (v := 2) hx hb dX7_isOver_1 (by decide) ?_
  obtain ⟨r7, m8, hq, hf⟩ := ob_e hf
  refine w_ci (va_runV (As := [.int 2]) (rest := []) ⟨hx, hb, hml, hown, hts⟩ (c_X7_inState l D ad cI cR hi fu 2 mm r7 m8 hq) (cwV 1 hts gX7_isOver_X7_inState rfl rfl rfl (by decide +kernel) ⟨Nat.le_of_ble_eq_true rfl, Nat.le_of_ble_eq_true rfl⟩) (w_preV (ci := 7) hK hP hN (S_mod ad cI cR).1 (S_mod ad cI cR).2 rfl) rfl rfl hl.1 rfl (lv_room (Nat.le_of_ble_eq_true rfl)) dX7_isOver_2 ⟨Nat.zero_le _, Nat.zero_le _⟩) hA hS (fun H locs hP hS => ?_)
  refine lv_aload_n hx hb dX7_isOver_5 rfl (lv_at hl 0 rfl) ?_
  refine lv_iconst (v := 4) hx hb dX7_isOver_6 (by decide) ?_
  obtain ⟨r9, m10, hq, hf⟩ := ob_e hf
  refine w_ci (va_runV (As := [.int 4]) (rest := [.int r7]) ⟨hx, hb, hml, hown, hts⟩ (c_X7_inState l D ad cI cR hi fu 4 m8 r9 m10 hq) (cwV 1 hts gX7_isOver_X7_inState rfl rfl rfl (by decide +kernel) ⟨Nat.le_of_ble_eq_true rfl, Nat.le_of_ble_eq_true rfl⟩) (w_preV (ci := 7) hK hP hN (S_mod ad cI cR).1 (S_mod ad cI cR).2 rfl) rfl rfl hl.1 rfl (lv_room (Nat.le_of_ble_eq_true rfl)) dX7_isOver_7 ⟨Nat.zero_le _, Nat.zero_le _⟩) hA hS (fun H locs hP hS => ?_)
  obtain ⟨v11, ev11, hf⟩ := bd_e hf
  refine lv_iadd hx hb dX7_isOver_10 ?_
  refine w_top ev11 ?_
  refine lv_aload_n hx hb dX7_isOver_11 rfl (lv_at hl 0 rfl) ?_
  refine w_get (C := RX7) (T := TX7) (N := 9) (ci := 7) (v := .ref (ad 360)) hx hb hts hinX7 hown hK hP (S_mod ad cI cR).1 (S_mod ad cI cR).2 rfl 0 (by decide) (hts (.fieldLink RX7 7 "AdmissionControlModel" "z" "[I") (List.mem_of_getElem? (i := 1) rfl)) (fun _ h9 => h9) rfl dX7_isOver_12 ?_
  refine lv_bipush (v := 69) hx hb dX7_isOver_15 (by decide) ?_
  obtain ⟨hnb, hf⟩ := gd_e hf
  refine w_ald hx hb hK hP (S_z ad cI cR) hnb dX7_isOver_17 ?_
  refine lv_icmp_ne (tgt := 25) hx hb dX7_isOver_18 (by decide) (fun c12 => ?_) (fun c12 => ?_)
  · rw [if_neg c12] at hf
    refine lv_iconst (v := 0) hx hb dX7_isOver_25 (by decide) ?_
    cases hf
    exact w_zret hx hb hr hlocks rfl hP hS dX7_isOver_26
  · rw [if_pos c12] at hf
    refine lv_iconst (v := 1) hx hb dX7_isOver_21 (by decide) ?_
    refine lv_goto (tgt := 26) hx hb dX7_isOver_22 (by decide) ?_
    cases hf
    exact w_zret hx hb hr hlocks rfl hP hS dX7_isOver_26
def F_X7_ticksToEnd_L2 (fu : Nat)   : Nat → Int32 → Mem → Option (Int32 × Mem)
  | 0, _, _ => none
  | n + 1, x1, mm => ob (F_X7_isOver fu  mm) fun r15 m16 => if r15 = 0 then (if 400 < x1 then (some (x1, m16)) else (ob (F_X7_tick fu  m16) fun r19 m20 => bd (x1 + 1) fun v21 => F_X7_ticksToEnd_L2 fu  n v21 m20)) else (some (x1, m16))
def F_X7_ticksToEnd (fu : Nat)  (mm : Mem) : Option (Int32 × Mem) := F_X7_ticksToEnd_L2 fu  fu 0 mm
set_option maxHeartbeats 4000000 in
set_option maxRecDepth 100000 in
theorem c_X7_ticksToEnd (l : Launch) (D : va_G) (ad : Nat → Nat) (cI cR : ClassId) (hi : inj ad) (fu : Nat)   (mm : Mem) (r0 : Int32) (m9 : Mem) (hf : F_X7_ticksToEnd fu  mm = some (r0, m9)) : MI l yX7_ticksToEnd wsX7_ticksToEnd { frames := 5, cells := 0, slots := 0, locals := 115 } D ad cI cR [.ref (ad 359)] mm r0 m9 := by
  refine Met.ofW (cc := cX7_ticksToEnd) (maxL := 2) (ret := (some .int)) (by decide) rfl ?_
  intro p e s m args below meth c s₁ B hml hv
  obtain ⟨rfl, hP, hK, hN⟩ := hv
  have hx := B.exec
  have hb := B.bytes
  have hr := B.returns
  have hts := atoms_spec (ws := wsX7_ticksToEnd) B.pre
  have hown : s.vm.findClass RX7 = some m.cls := findClass_of_methodNamed B.named
  have hlocks := B.notSynchronized
  have hA : ∀ q, AA ad q → AA ad q := fun _ h => h
  have hS : va_S (AA ad) s.heap s.heap [] := va_S.rf
  have hL2 : ∀ (n : Nat) (x1 : Int32)  (mm : Mem) (H : Heap) (locs : List Loc) (ls : Array Slot), F_X7_ticksToEnd_L2 fu   n x1 mm = some (r0, m9) → va_P D vwCl (cw ad cI cR mm) H → va_S (AA ad) s.heap H locs → lv_has ls 2 [(0, .ref (ad 359)), (1, .int x1)] → W p l e (headSpec wsX7_ticksToEnd { frames := 5, cells := 0, slots := 0, locals := 115 }).room s m ([.ref (ad 359)] : List Value).toArray below meth c H locs 0 0 (MQ below (va_Qi (fun (r' : Int32) (u : Mem) => r' = r0 ∧ u = m9) (KB D ad cI cR) (AA ad)) ([.ref (ad 359)] : List Value).toArray s 0 0 (AA ad)) (F0 m 2 ls []) := by
    intro n
    induction n with
    | zero =>
      intro x1 mm H locs ls hf hP hS hl
      rw [F_X7_ticksToEnd_L2] at hf
      cases hf
    | succ n2 ih2 =>
      intro x1 mm H locs ls hf hP hS hl
      rw [F_X7_ticksToEnd_L2] at hf
      refine lv_aload_n hx hb dX7_ticksToEnd_2 rfl (lv_at hl 0 rfl) ?_
      obtain ⟨r15, m16, hq, hf⟩ := ob_e hf
      refine w_ci (va_runV (As := []) (rest := []) ⟨hx, hb, hml, hown, hts⟩ (c_X7_isOver l D ad cI cR hi fu  mm r15 m16 hq) (cwV 0 hts gX7_ticksToEnd_X7_isOver rfl rfl rfl (by decide +kernel) ⟨Nat.le_of_ble_eq_true rfl, Nat.le_of_ble_eq_true rfl⟩) (w_preV (ci := 7) hK hP hN (S_mod ad cI cR).1 (S_mod ad cI cR).2 rfl) rfl rfl hl.1 rfl (lv_room (Nat.le_of_ble_eq_true rfl)) dX7_ticksToEnd_3 ⟨Nat.zero_le _, Nat.zero_le _⟩) hA hS (fun H locs hP hS => ?_)
      refine lv_if_ne (tgt := 27) hx hb dX7_ticksToEnd_6 (by decide) (fun c17 => ?_) (fun c17 => ?_)
      · rw [if_neg c17] at hf
        refine lv_iload_n hx hb dX7_ticksToEnd_27 rfl (lv_at hl 1 rfl) ?_
        cases hf
        exact w_iret hx hb hr hlocks hP hS dX7_ticksToEnd_28
      · rw [if_pos c17] at hf
        refine lv_iload_n hx hb dX7_ticksToEnd_9 rfl (lv_at hl 1 rfl) ?_
        refine lv_sipush (v := 400) hx hb dX7_ticksToEnd_10 (by decide) ?_
        refine lv_icmp_gt (tgt := 27) hx hb dX7_ticksToEnd_13 (by decide) (fun c18 => ?_) (fun c18 => ?_)
        · rw [if_pos c18] at hf
          refine lv_iload_n hx hb dX7_ticksToEnd_27 rfl (lv_at hl 1 rfl) ?_
          cases hf
          exact w_iret hx hb hr hlocks hP hS dX7_ticksToEnd_28
        · rw [if_neg c18] at hf
          refine lv_aload_n hx hb dX7_ticksToEnd_16 rfl (lv_at hl 0 rfl) ?_
          obtain ⟨r19, m20, hq, hf⟩ := ob_e hf
          refine w_ci (va_runV (As := []) (rest := []) ⟨hx, hb, hml, hown, hts⟩ (c_X7_tick l D ad cI cR hi fu  m16 r19 m20 hq) (cwV 0 hts gX7_ticksToEnd_X7_tick rfl rfl rfl (by decide +kernel) ⟨Nat.le_of_ble_eq_true rfl, Nat.le_of_ble_eq_true rfl⟩) (w_preV (ci := 7) hK hP hN (S_mod ad cI cR).1 (S_mod ad cI cR).2 rfl) rfl rfl hl.1 rfl (lv_room (Nat.le_of_ble_eq_true rfl)) dX7_ticksToEnd_17 ⟨Nat.zero_le _, Nat.zero_le _⟩) hA hS (fun H locs hP hS => ?_)
          refine lv_pop hx hb dX7_ticksToEnd_20 rfl ?_
          obtain ⟨v21, ev21, hf⟩ := bd_e hf
          refine lv_iinc (v := v21) (lv' := [(1, .int v21), (0, .ref (ad 359))]) hx hb dX7_ticksToEnd_21 hl (k := 1) rfl (by rw [ev21]; rfl) (by decide) rfl (fun ls hl => ?_)
          refine lv_goto (tgt := 2) hx hb dX7_ticksToEnd_24 (by decide) ?_
          exact ih2 v21 m20 _ _ _ hf hP hS (lv_sub hl [1, 0] rfl)
  have hl := lv_entry ([.ref (ad 359)]) (n := 2) (Nat.le_of_ble_eq_true rfl)
  rw [lg_entry_eq]
  generalize (lg_sl ([.ref (ad 359)]) ++ List.replicate (2 - (lg_sl ([.ref (ad 359)])).length) Slot.unset).toArray = ls at hl ⊢
  have hl : lv_has ls 2 [(0, .ref (ad 359))] := hl
  unfold F_X7_ticksToEnd at hf
  refine lv_iconst (v := 0) hx hb dX7_ticksToEnd_0 (by decide) ?_
  refine lv_istore_n (lv' := [(1, .int 0), (0, .ref (ad 359))]) hx hb dX7_ticksToEnd_1 rfl hl (by decide) rfl (fun ls hl => ?_)
  exact hL2 fu 0 mm _ _ _ hf hP hS (lv_sub hl [1, 0] rfl)
def F_X7_ticksWith (fu : Nat) (a1 : Int32) (mm : Mem) : Option (Int32 × Mem) := ov (F_X7_putAside fu  mm) fun m7 => gd (inb 0 395) (bd (mput m7 360 (0 : Int32).toNatClampNeg a1) fun m8 => ob (F_X7_ticksToEnd fu  m8) fun r9 m10 => ov (F_X7_putBack fu  m10) fun m11 => if r9 ≤ 400 then (some (r9, m11)) else (some ((-100005), m11)))
set_option maxHeartbeats 4000000 in
set_option maxRecDepth 100000 in
theorem c_X7_ticksWith (l : Launch) (D : va_G) (ad : Nat → Nat) (cI cR : ClassId) (hi : inj ad) (fu : Nat) (a1 : Int32)  (mm : Mem) (r0 : Int32) (m9 : Mem) (hf : F_X7_ticksWith fu a1 mm = some (r0, m9)) : MI l yX7_ticksWith wsX7_ticksWith { frames := 6, cells := 0, slots := 0, locals := 136 } D ad cI cR [.ref (ad 359), .int a1] mm r0 m9 := by
  refine Met.ofW (cc := cX7_ticksWith) (maxL := 3) (ret := (some .int)) (by decide) rfl ?_
  intro p e s m args below meth c s₁ B hml hv
  obtain ⟨rfl, hP, hK, hN⟩ := hv
  have hx := B.exec
  have hb := B.bytes
  have hr := B.returns
  have hts := atoms_spec (ws := wsX7_ticksWith) B.pre
  have hown : s.vm.findClass RX7 = some m.cls := findClass_of_methodNamed B.named
  have hlocks := B.notSynchronized
  have hA : ∀ q, AA ad q → AA ad q := fun _ h => h
  have hS : va_S (AA ad) s.heap s.heap [] := va_S.rf
  have hinX7 : ∀ w ∈ wsX70, w ∈ wsX7_ticksWith := (fun _ h => List.mem_cons_of_mem _ (List.mem_append_right _ h))
  have hl := lv_entry ([.ref (ad 359), .int a1]) (n := 3) (Nat.le_of_ble_eq_true rfl)
  rw [lg_entry_eq]
  generalize (lg_sl ([.ref (ad 359), .int a1]) ++ List.replicate (3 - (lg_sl ([.ref (ad 359), .int a1])).length) Slot.unset).toArray = ls at hl ⊢
  have hl : lv_has ls 3 [(0, .ref (ad 359)), (1, .int a1)] := hl
  unfold F_X7_ticksWith at hf
  refine lv_aload_n hx hb dX7_ticksWith_0 rfl (lv_at hl 0 rfl) ?_
  obtain ⟨m7, hq, hf⟩ := ov_e hf
  refine w_cv (va_runV (As := []) (rest := []) ⟨hx, hb, hml, hown, hts⟩ (c_X7_putAside l D ad cI cR hi fu  mm m7 hq) (cwV 0 hts gX7_ticksWith_X7_putAside rfl rfl rfl (by decide +kernel) ⟨Nat.le_of_ble_eq_true rfl, Nat.le_of_ble_eq_true rfl⟩) (w_preV (ci := 7) hK hP hN (S_mod ad cI cR).1 (S_mod ad cI cR).2 rfl) rfl rfl hl.1 rfl (lv_room (Nat.le_of_ble_eq_true rfl)) dX7_ticksWith_1 ⟨Nat.zero_le _, Nat.zero_le _⟩) hA hS (fun H locs hP hS => ?_)
  refine lv_aload_n hx hb dX7_ticksWith_4 rfl (lv_at hl 0 rfl) ?_
  refine w_get (C := RX7) (T := TX7) (N := 9) (ci := 7) (v := .ref (ad 360)) hx hb hts hinX7 hown hK hP (S_mod ad cI cR).1 (S_mod ad cI cR).2 rfl 0 (by decide) (hts (.fieldLink RX7 7 "AdmissionControlModel" "z" "[I") (List.mem_of_getElem? (i := 1) rfl)) (fun _ h9 => h9) rfl dX7_ticksWith_5 ?_
  refine lv_iconst (v := 0) hx hb dX7_ticksWith_8 (by decide) ?_
  refine lv_iload_n hx hb dX7_ticksWith_9 rfl (lv_at hl 1 rfl) ?_
  obtain ⟨hnb, hf⟩ := gd_e hf
  obtain ⟨m8, em8, hf⟩ := bd_e hf
  refine w_ast hx hb hi hA hK hP hS (S_z ad cI cR) hnb dX7_ticksWith_10 (fun H locs hP hS => ?_)
  rw [← em8] at hP
  refine lv_aload_n hx hb dX7_ticksWith_11 rfl (lv_at hl 0 rfl) ?_
  obtain ⟨r9, m10, hq, hf⟩ := ob_e hf
  refine w_ci (va_runV (As := []) (rest := []) ⟨hx, hb, hml, hown, hts⟩ (c_X7_ticksToEnd l D ad cI cR hi fu  m8 r9 m10 hq) (cwV 0 hts gX7_ticksWith_X7_ticksToEnd rfl rfl rfl (by decide +kernel) ⟨Nat.le_of_ble_eq_true rfl, Nat.le_of_ble_eq_true rfl⟩) (w_preV (ci := 7) hK hP hN (S_mod ad cI cR).1 (S_mod ad cI cR).2 rfl) rfl rfl hl.1 rfl (lv_room (Nat.le_of_ble_eq_true rfl)) dX7_ticksWith_12 ⟨Nat.zero_le _, Nat.zero_le _⟩) hA hS (fun H locs hP hS => ?_)
  refine lv_istore_n (lv' := [(2, .int r9), (0, .ref (ad 359)), (1, .int a1)]) hx hb dX7_ticksWith_15 rfl hl (by decide) rfl (fun ls hl => ?_)
  refine lv_aload_n hx hb dX7_ticksWith_16 rfl (lv_at hl 1 rfl) ?_
  obtain ⟨m11, hq, hf⟩ := ov_e hf
  refine w_cv (va_runV (As := []) (rest := []) ⟨hx, hb, hml, hown, hts⟩ (c_X7_putBack l D ad cI cR hi fu  m10 m11 hq) (cwV 0 hts gX7_ticksWith_X7_putBack rfl rfl rfl (by decide +kernel) ⟨Nat.le_of_ble_eq_true rfl, Nat.le_of_ble_eq_true rfl⟩) (w_preV (ci := 7) hK hP hN (S_mod ad cI cR).1 (S_mod ad cI cR).2 rfl) rfl rfl hl.1 rfl (lv_room (Nat.le_of_ble_eq_true rfl)) dX7_ticksWith_17 ⟨Nat.zero_le _, Nat.zero_le _⟩) hA hS (fun H locs hP hS => ?_)
  refine lv_iload_n hx hb dX7_ticksWith_20 rfl (lv_at hl 0 rfl) ?_
  refine lv_sipush (v := 400) hx hb dX7_ticksWith_21 (by decide) ?_
  refine lv_icmp_le (tgt := 32) hx hb dX7_ticksWith_24 (by decide) (fun c12 => ?_) (fun c12 => ?_)
  · rw [if_pos c12] at hf
    refine lv_iload_n hx hb dX7_ticksWith_32 rfl (lv_at hl 0 rfl) ?_
    cases hf
    exact w_iret hx hb hr hlocks hP hS dX7_ticksWith_33
  · rw [if_neg c12] at hf
    refine lv_ldc (v := (-100005)) hx hb hown (hts (.constant RX7 30 (-100005)) (List.mem_of_getElem? (i := 2) rfl)) dX7_ticksWith_27 ?_
    refine lv_goto (tgt := 33) hx hb dX7_ticksWith_29 (by decide) ?_
    cases hf
    exact w_iret hx hb hr hlocks hP hS dX7_ticksWith_33
def F_X7_ticksLeft (fu : Nat)  (mm : Mem) : Option (Int32 × Mem) := gd (inb 0 395) (ob (F_X7_ticksWith fu (mm 360 (0 : Int32).toNatClampNeg) mm) fun r3 m4 => some (r3, m4))
set_option maxHeartbeats 4000000 in
set_option maxRecDepth 100000 in
theorem c_X7_ticksLeft (l : Launch) (D : va_G) (ad : Nat → Nat) (cI cR : ClassId) (hi : inj ad) (fu : Nat)   (mm : Mem) (r0 : Int32) (m9 : Mem) (hf : F_X7_ticksLeft fu  mm = some (r0, m9)) : MI l yX7_ticksLeft wsX7_ticksLeft { frames := 7, cells := 0, slots := 0, locals := 158 } D ad cI cR [.ref (ad 359)] mm r0 m9 := by
  refine Met.ofW (cc := cX7_ticksLeft) (maxL := 1) (ret := (some .int)) (by decide) rfl ?_
  intro p e s m args below meth c s₁ B hml hv
  obtain ⟨rfl, hP, hK, hN⟩ := hv
  have hx := B.exec
  have hb := B.bytes
  have hr := B.returns
  have hts := atoms_spec (ws := wsX7_ticksLeft) B.pre
  have hown : s.vm.findClass RX7 = some m.cls := findClass_of_methodNamed B.named
  have hlocks := B.notSynchronized
  have hA : ∀ q, AA ad q → AA ad q := fun _ h => h
  have hS : va_S (AA ad) s.heap s.heap [] := va_S.rf
  have hinX7 : ∀ w ∈ wsX70, w ∈ wsX7_ticksLeft := (fun _ h => List.mem_cons_of_mem _ (List.mem_append_right _ h))
  have hl := lv_entry ([.ref (ad 359)]) (n := 1) (Nat.le_of_ble_eq_true rfl)
  rw [lg_entry_eq]
  generalize (lg_sl ([.ref (ad 359)]) ++ List.replicate (1 - (lg_sl ([.ref (ad 359)])).length) Slot.unset).toArray = ls at hl ⊢
  have hl : lv_has ls 1 [(0, .ref (ad 359))] := hl
  unfold F_X7_ticksLeft at hf
  refine lv_aload_n hx hb dX7_ticksLeft_0 rfl (lv_at hl 0 rfl) ?_
  refine lv_aload_n hx hb dX7_ticksLeft_1 rfl (lv_at hl 0 rfl) ?_
  refine w_get (C := RX7) (T := TX7) (N := 9) (ci := 7) (v := .ref (ad 360)) hx hb hts hinX7 hown hK hP (S_mod ad cI cR).1 (S_mod ad cI cR).2 rfl 0 (by decide) (hts (.fieldLink RX7 7 "AdmissionControlModel" "z" "[I") (List.mem_of_getElem? (i := 1) rfl)) (fun _ h9 => h9) rfl dX7_ticksLeft_2 ?_
  refine lv_iconst (v := 0) hx hb dX7_ticksLeft_5 (by decide) ?_
  obtain ⟨hnb, hf⟩ := gd_e hf
  refine w_ald hx hb hK hP (S_z ad cI cR) hnb dX7_ticksLeft_6 ?_
  obtain ⟨r3, m4, hq, hf⟩ := ob_e hf
  refine w_ci (va_runV (As := [.int (mm 360 (0 : Int32).toNatClampNeg)]) (rest := []) ⟨hx, hb, hml, hown, hts⟩ (c_X7_ticksWith l D ad cI cR hi fu (mm 360 (0 : Int32).toNatClampNeg) mm r3 m4 hq) (cwV 1 hts gX7_ticksLeft_X7_ticksWith rfl rfl rfl (by decide +kernel) ⟨Nat.le_of_ble_eq_true rfl, Nat.le_of_ble_eq_true rfl⟩) (w_preV (ci := 7) hK hP hN (S_mod ad cI cR).1 (S_mod ad cI cR).2 rfl) rfl rfl hl.1 rfl (lv_room (Nat.le_of_ble_eq_true rfl)) dX7_ticksLeft_7 ⟨Nat.zero_le _, Nat.zero_le _⟩) hA hS (fun H locs hP hS => ?_)
  cases hf
  exact w_iret hx hb hr hlocks hP hS dX7_ticksLeft_10
def F_X7_ticksIf (fu : Nat) (a1 : Int32) (mm : Mem) : Option (Int32 × Mem) := ob (F_X7_in fu a1 1 20 mm) fun r6 m7 => if r6 = 0 then (some ((-100002), m7)) else (ob (F_X7_ticksWith fu a1 m7) fun r9 m10 => some (r9, m10))
set_option maxHeartbeats 4000000 in
set_option maxRecDepth 100000 in
theorem c_X7_ticksIf (l : Launch) (D : va_G) (ad : Nat → Nat) (cI cR : ClassId) (hi : inj ad) (fu : Nat) (a1 : Int32)  (mm : Mem) (r0 : Int32) (m9 : Mem) (hf : F_X7_ticksIf fu a1 mm = some (r0, m9)) : MI l yX7_ticksIf wsX7_ticksIf { frames := 7, cells := 0, slots := 0, locals := 158 } D ad cI cR [.ref (ad 359), .int a1] mm r0 m9 := by
  refine Met.ofW (cc := cX7_ticksIf) (maxL := 2) (ret := (some .int)) (by decide) rfl ?_
  intro p e s m args below meth c s₁ B hml hv
  obtain ⟨rfl, hP, hK, hN⟩ := hv
  have hx := B.exec
  have hb := B.bytes
  have hr := B.returns
  have hts := atoms_spec (ws := wsX7_ticksIf) B.pre
  have hown : s.vm.findClass RX7 = some m.cls := findClass_of_methodNamed B.named
  have hlocks := B.notSynchronized
  have hA : ∀ q, AA ad q → AA ad q := fun _ h => h
  have hS : va_S (AA ad) s.heap s.heap [] := va_S.rf
  have hl := lv_entry ([.ref (ad 359), .int a1]) (n := 2) (Nat.le_of_ble_eq_true rfl)
  rw [lg_entry_eq]
  generalize (lg_sl ([.ref (ad 359), .int a1]) ++ List.replicate (2 - (lg_sl ([.ref (ad 359), .int a1])).length) Slot.unset).toArray = ls at hl ⊢
  have hl : lv_has ls 2 [(0, .ref (ad 359)), (1, .int a1)] := hl
  unfold F_X7_ticksIf at hf
  refine lv_iload_n hx hb dX7_ticksIf_0 rfl (lv_at hl 1 rfl) ?_
  refine lv_iconst (v := 1) hx hb dX7_ticksIf_1 (by decide) ?_
  refine lv_bipush (v := 20) hx hb dX7_ticksIf_2 (by decide) ?_
  obtain ⟨r6, m7, hq, hf⟩ := ob_e hf
  refine w_ci (va_runS (As := [.int a1, .int 1, .int 20]) (rest := []) ⟨hx, hb, hml, hown, hts⟩ (c_X7_in l D ad cI cR hi fu a1 1 20 mm r6 m7 hq) (va_cwS 3 hts gX7_ticksIf_X7_in rfl rfl rfl (by decide +kernel) ⟨Nat.le_of_ble_eq_true rfl, Nat.le_of_ble_eq_true rfl⟩) (w_preS hK hP hN) rfl rfl hl.1 rfl (lv_room (Nat.le_of_ble_eq_true rfl)) dX7_ticksIf_4 ⟨Nat.zero_le _, Nat.zero_le _⟩) hA hS (fun H locs hP hS => ?_)
  refine lv_if_eq (tgt := 18) hx hb dX7_ticksIf_7 (by decide) (fun c8 => ?_) (fun c8 => ?_)
  · rw [if_pos c8] at hf
    refine lv_ldc (v := (-100002)) hx hb hown (hts (.constant RX7 90 (-100002)) (List.mem_of_getElem? (i := 1) rfl)) dX7_ticksIf_18 ?_
    cases hf
    exact w_iret hx hb hr hlocks hP hS dX7_ticksIf_20
  · rw [if_neg c8] at hf
    refine lv_aload_n hx hb dX7_ticksIf_10 rfl (lv_at hl 0 rfl) ?_
    refine lv_iload_n hx hb dX7_ticksIf_11 rfl (lv_at hl 1 rfl) ?_
    obtain ⟨r9, m10, hq, hf⟩ := ob_e hf
    refine w_ci (va_runV (As := [.int a1]) (rest := []) ⟨hx, hb, hml, hown, hts⟩ (c_X7_ticksWith l D ad cI cR hi fu a1 m7 r9 m10 hq) (cwV 1 hts gX7_ticksIf_X7_ticksWith rfl rfl rfl (by decide +kernel) ⟨Nat.le_of_ble_eq_true rfl, Nat.le_of_ble_eq_true rfl⟩) (w_preV (ci := 7) hK hP hN (S_mod ad cI cR).1 (S_mod ad cI cR).2 rfl) rfl rfl hl.1 rfl (lv_room (Nat.le_of_ble_eq_true rfl)) dX7_ticksIf_12 ⟨Nat.zero_le _, Nat.zero_le _⟩) hA hS (fun H locs hP hS => ?_)
    refine lv_goto (tgt := 20) hx hb dX7_ticksIf_15 (by decide) ?_
    cases hf
    exact w_iret hx hb hr hlocks hP hS dX7_ticksIf_20
def F_X7_leastCapacity_L60 (fu : Nat)  (k5 : Int32 → Int32 → Mem → Option (Int32 × Mem)) (x2 : Int32) (p0 : Int32) (mm : Mem) : Option (Int32 × Mem) := ov (F_X7_putBack fu  mm) fun m31 => bd (x2 + 1) fun v32 => k5 p0 v32 m31
def F_X7_leastCapacity_L5 (fu : Nat)   : Nat → Int32 → Int32 → Mem → Option (Int32 × Mem)
  | 0, _, _, _ => none
  | n + 1, x1, x2, mm => if 20 < x2 then (some (x1, mm)) else (if 0 ≤ x1 then (some (x1, mm)) else (ov (F_X7_putAside fu  mm) fun m35 => ob (F_X7_inState fu 4 m35) fun r36 m37 => gd (inb 0 395) (bd (mput m37 360 (0 : Int32).toNatClampNeg x2) fun m38 => ob (F_X7_ticksToEnd fu  m38) fun r39 m40 => if 400 < r39 then (F_X7_leastCapacity_L60 fu  (F_X7_leastCapacity_L5 fu  n) x2 x1 m40) else (ob (F_X7_inState fu 4 m40) fun r42 m43 => if r42 = r36 then (F_X7_leastCapacity_L60 fu  (F_X7_leastCapacity_L5 fu  n) x2 x2 m43) else (F_X7_leastCapacity_L60 fu  (F_X7_leastCapacity_L5 fu  n) x2 x1 m43)))))
def F_X7_leastCapacity (fu : Nat)  (mm : Mem) : Option (Int32 × Mem) := F_X7_leastCapacity_L5 fu  fu (-100005) 1 mm
set_option maxHeartbeats 4000000 in
set_option maxRecDepth 100000 in
theorem c_X7_leastCapacity (l : Launch) (D : va_G) (ad : Nat → Nat) (cI cR : ClassId) (hi : inj ad) (fu : Nat)   (mm : Mem) (r0 : Int32) (m9 : Mem) (hf : F_X7_leastCapacity fu  mm = some (r0, m9)) : MI l yX7_leastCapacity wsX7_leastCapacity { frames := 6, cells := 0, slots := 0, locals := 136 } D ad cI cR [.ref (ad 359)] mm r0 m9 := by
  refine Met.ofW (cc := cX7_leastCapacity) (maxL := 5) (ret := (some .int)) (by decide) rfl ?_
  intro p e s m args below meth c s₁ B hml hv
  obtain ⟨rfl, hP, hK, hN⟩ := hv
  have hx := B.exec
  have hb := B.bytes
  have hr := B.returns
  have hts := atoms_spec (ws := wsX7_leastCapacity) B.pre
  have hown : s.vm.findClass RX7 = some m.cls := findClass_of_methodNamed B.named
  have hlocks := B.notSynchronized
  have hA : ∀ q, AA ad q → AA ad q := fun _ h => h
  have hS : va_S (AA ad) s.heap s.heap [] := va_S.rf
  have hinX7 : ∀ w ∈ wsX70, w ∈ wsX7_leastCapacity := (fun _ h => List.mem_cons_of_mem _ (List.mem_append_right _ h))
  have hL5 : ∀ (n : Nat) (x1 : Int32) (x2 : Int32)  (mm : Mem) (H : Heap) (locs : List Loc) (ls : Array Slot), F_X7_leastCapacity_L5 fu   n x1 x2 mm = some (r0, m9) → va_P D vwCl (cw ad cI cR mm) H → va_S (AA ad) s.heap H locs → lv_has ls 5 [(0, .ref (ad 359)), (1, .int x1), (2, .int x2)] → W p l e (headSpec wsX7_leastCapacity { frames := 6, cells := 0, slots := 0, locals := 136 }).room s m ([.ref (ad 359)] : List Value).toArray below meth c H locs 0 0 (MQ below (va_Qi (fun (r' : Int32) (u : Mem) => r' = r0 ∧ u = m9) (KB D ad cI cR) (AA ad)) ([.ref (ad 359)] : List Value).toArray s 0 0 (AA ad)) (F0 m 5 ls []) := by
    intro n
    induction n with
    | zero =>
      intro x1 x2 mm H locs ls hf hP hS hl
      rw [F_X7_leastCapacity_L5] at hf
      cases hf
    | succ n5 ih5 =>
      have hL60 : ∀ (x2 : Int32) (p0 : Int32)  (mm : Mem) (H : Heap) (locs : List Loc) (ls : Array Slot), F_X7_leastCapacity_L60 fu  (F_X7_leastCapacity_L5 fu  n5) x2 p0 mm = some (r0, m9) → va_P D vwCl (cw ad cI cR mm) H → va_S (AA ad) s.heap H locs → lv_has ls 5 [(0, .ref (ad 359)), (2, .int x2)] → W p l e (headSpec wsX7_leastCapacity { frames := 6, cells := 0, slots := 0, locals := 136 }).room s m ([.ref (ad 359)] : List Value).toArray below meth c H locs 0 0 (MQ below (va_Qi (fun (r' : Int32) (u : Mem) => r' = r0 ∧ u = m9) (KB D ad cI cR) (AA ad)) ([.ref (ad 359)] : List Value).toArray s 0 0 (AA ad)) (F0 m 60 ls [.int p0]) := by
        intro x2 p0 mm H locs ls hf hP hS hl
        unfold F_X7_leastCapacity_L60 at hf
        refine lv_istore_n (lv' := [(1, .int p0), (0, .ref (ad 359)), (2, .int x2)]) hx hb dX7_leastCapacity_60 rfl hl (by decide) rfl (fun ls hl => ?_)
        refine lv_aload_n hx hb dX7_leastCapacity_61 rfl (lv_at hl 1 rfl) ?_
        obtain ⟨m31, hq, hf⟩ := ov_e hf
        refine w_cv (va_runV (As := []) (rest := []) ⟨hx, hb, hml, hown, hts⟩ (c_X7_putBack l D ad cI cR hi fu  mm m31 hq) (cwV 0 hts gX7_leastCapacity_X7_putBack rfl rfl rfl (by decide +kernel) ⟨Nat.le_of_ble_eq_true rfl, Nat.le_of_ble_eq_true rfl⟩) (w_preV (ci := 7) hK hP hN (S_mod ad cI cR).1 (S_mod ad cI cR).2 rfl) rfl rfl hl.1 rfl (lv_room (Nat.le_of_ble_eq_true rfl)) dX7_leastCapacity_62 ⟨Nat.zero_le _, Nat.zero_le _⟩) hA hS (fun H locs hP hS => ?_)
        obtain ⟨v32, ev32, hf⟩ := bd_e hf
        refine lv_iinc (v := v32) (lv' := [(2, .int v32), (1, .int p0), (0, .ref (ad 359))]) hx hb dX7_leastCapacity_65 hl (k := 2) rfl (by rw [ev32]; rfl) (by decide) rfl (fun ls hl => ?_)
        refine lv_goto (tgt := 5) hx hb dX7_leastCapacity_68 (by decide) ?_
        exact ih5 p0 v32 m31 _ _ _ hf hP hS (lv_sub hl [2, 1, 0] rfl)
      intro x1 x2 mm H locs ls hf hP hS hl
      rw [F_X7_leastCapacity_L5] at hf
      refine lv_iload_n hx hb dX7_leastCapacity_5 rfl (lv_at hl 2 rfl) ?_
      refine lv_bipush (v := 20) hx hb dX7_leastCapacity_6 (by decide) ?_
      refine lv_icmp_gt (tgt := 71) hx hb dX7_leastCapacity_8 (by decide) (fun c33 => ?_) (fun c33 => ?_)
      · rw [if_pos c33] at hf
        refine lv_iload_n hx hb dX7_leastCapacity_71 rfl (lv_at hl 1 rfl) ?_
        cases hf
        exact w_iret hx hb hr hlocks hP hS dX7_leastCapacity_72
      · rw [if_neg c33] at hf
        refine lv_iload_n hx hb dX7_leastCapacity_11 rfl (lv_at hl 1 rfl) ?_
        refine lv_if_ge (tgt := 71) hx hb dX7_leastCapacity_12 (by decide) (fun c34 => ?_) (fun c34 => ?_)
        · rw [if_pos c34] at hf
          refine lv_iload_n hx hb dX7_leastCapacity_71 rfl (lv_at hl 1 rfl) ?_
          cases hf
          exact w_iret hx hb hr hlocks hP hS dX7_leastCapacity_72
        · rw [if_neg c34] at hf
          refine lv_aload_n hx hb dX7_leastCapacity_15 rfl (lv_at hl 0 rfl) ?_
          obtain ⟨m35, hq, hf⟩ := ov_e hf
          refine w_cv (va_runV (As := []) (rest := []) ⟨hx, hb, hml, hown, hts⟩ (c_X7_putAside l D ad cI cR hi fu  mm m35 hq) (cwV 0 hts gX7_leastCapacity_X7_putAside rfl rfl rfl (by decide +kernel) ⟨Nat.le_of_ble_eq_true rfl, Nat.le_of_ble_eq_true rfl⟩) (w_preV (ci := 7) hK hP hN (S_mod ad cI cR).1 (S_mod ad cI cR).2 rfl) rfl rfl hl.1 rfl (lv_room (Nat.le_of_ble_eq_true rfl)) dX7_leastCapacity_16 ⟨Nat.zero_le _, Nat.zero_le _⟩) hA hS (fun H locs hP hS => ?_)
          refine lv_aload_n hx hb dX7_leastCapacity_19 rfl (lv_at hl 0 rfl) ?_
          refine lv_iconst (v := 4) hx hb dX7_leastCapacity_20 (by decide) ?_
          obtain ⟨r36, m37, hq, hf⟩ := ob_e hf
          refine w_ci (va_runV (As := [.int 4]) (rest := []) ⟨hx, hb, hml, hown, hts⟩ (c_X7_inState l D ad cI cR hi fu 4 m35 r36 m37 hq) (cwV 1 hts gX7_leastCapacity_X7_inState rfl rfl rfl (by decide +kernel) ⟨Nat.le_of_ble_eq_true rfl, Nat.le_of_ble_eq_true rfl⟩) (w_preV (ci := 7) hK hP hN (S_mod ad cI cR).1 (S_mod ad cI cR).2 rfl) rfl rfl hl.1 rfl (lv_room (Nat.le_of_ble_eq_true rfl)) dX7_leastCapacity_21 ⟨Nat.zero_le _, Nat.zero_le _⟩) hA hS (fun H locs hP hS => ?_)
          refine lv_istore_n (lv' := [(3, .int r36), (0, .ref (ad 359)), (1, .int x1), (2, .int x2)]) hx hb dX7_leastCapacity_24 rfl hl (by decide) rfl (fun ls hl => ?_)
          refine lv_aload_n hx hb dX7_leastCapacity_25 rfl (lv_at hl 1 rfl) ?_
          refine w_get (C := RX7) (T := TX7) (N := 9) (ci := 7) (v := .ref (ad 360)) hx hb hts hinX7 hown hK hP (S_mod ad cI cR).1 (S_mod ad cI cR).2 rfl 0 (by decide) (hts (.fieldLink RX7 7 "AdmissionControlModel" "z" "[I") (List.mem_of_getElem? (i := 2) rfl)) (fun _ h9 => h9) rfl dX7_leastCapacity_26 ?_
          refine lv_iconst (v := 0) hx hb dX7_leastCapacity_29 (by decide) ?_
          refine lv_iload_n hx hb dX7_leastCapacity_30 rfl (lv_at hl 3 rfl) ?_
          obtain ⟨hnb, hf⟩ := gd_e hf
          obtain ⟨m38, em38, hf⟩ := bd_e hf
          refine w_ast hx hb hi hA hK hP hS (S_z ad cI cR) hnb dX7_leastCapacity_31 (fun H locs hP hS => ?_)
          rw [← em38] at hP
          refine lv_aload_n hx hb dX7_leastCapacity_32 rfl (lv_at hl 1 rfl) ?_
          obtain ⟨r39, m40, hq, hf⟩ := ob_e hf
          refine w_ci (va_runV (As := []) (rest := []) ⟨hx, hb, hml, hown, hts⟩ (c_X7_ticksToEnd l D ad cI cR hi fu  m38 r39 m40 hq) (cwV 0 hts gX7_leastCapacity_X7_ticksToEnd rfl rfl rfl (by decide +kernel) ⟨Nat.le_of_ble_eq_true rfl, Nat.le_of_ble_eq_true rfl⟩) (w_preV (ci := 7) hK hP hN (S_mod ad cI cR).1 (S_mod ad cI cR).2 rfl) rfl rfl hl.1 rfl (lv_room (Nat.le_of_ble_eq_true rfl)) dX7_leastCapacity_33 ⟨Nat.zero_le _, Nat.zero_le _⟩) hA hS (fun H locs hP hS => ?_)
          refine lv_istore (lv' := [(4, .int r39), (3, .int r36), (0, .ref (ad 359)), (1, .int x1), (2, .int x2)]) hx hb dX7_leastCapacity_36 hl (by decide) rfl (fun ls hl => ?_)
          refine lv_iload hx hb dX7_leastCapacity_38 (lv_at hl 0 rfl) ?_
          refine lv_sipush (v := 400) hx hb dX7_leastCapacity_40 (by decide) ?_
          refine lv_icmp_gt (tgt := 59) hx hb dX7_leastCapacity_43 (by decide) (fun c41 => ?_) (fun c41 => ?_)
          · rw [if_pos c41] at hf
            refine lv_iload_n hx hb dX7_leastCapacity_59 rfl (lv_at hl 3 rfl) ?_
            exact hL60 x2 x1 m40 _ _ _ hf hP hS (lv_sub hl [2, 4] rfl)
          · rw [if_neg c41] at hf
            refine lv_aload_n hx hb dX7_leastCapacity_46 rfl (lv_at hl 2 rfl) ?_
            refine lv_iconst (v := 4) hx hb dX7_leastCapacity_47 (by decide) ?_
            obtain ⟨r42, m43, hq, hf⟩ := ob_e hf
            refine w_ci (va_runV (As := [.int 4]) (rest := []) ⟨hx, hb, hml, hown, hts⟩ (c_X7_inState l D ad cI cR hi fu 4 m40 r42 m43 hq) (cwV 1 hts gX7_leastCapacity_X7_inState rfl rfl rfl (by decide +kernel) ⟨Nat.le_of_ble_eq_true rfl, Nat.le_of_ble_eq_true rfl⟩) (w_preV (ci := 7) hK hP hN (S_mod ad cI cR).1 (S_mod ad cI cR).2 rfl) rfl rfl hl.1 rfl (lv_room (Nat.le_of_ble_eq_true rfl)) dX7_leastCapacity_48 ⟨Nat.zero_le _, Nat.zero_le _⟩) hA hS (fun H locs hP hS => ?_)
            refine lv_iload_n hx hb dX7_leastCapacity_51 rfl (lv_at hl 1 rfl) ?_
            refine lv_icmp_ne (tgt := 59) hx hb dX7_leastCapacity_52 (by decide) (fun c44 => ?_) (fun c44 => ?_)
            · rw [if_neg c44] at hf
              refine lv_iload_n hx hb dX7_leastCapacity_59 rfl (lv_at hl 3 rfl) ?_
              exact hL60 x2 x1 m43 _ _ _ hf hP hS (lv_sub hl [2, 4] rfl)
            · rw [if_pos c44] at hf
              refine lv_iload_n hx hb dX7_leastCapacity_55 rfl (lv_at hl 4 rfl) ?_
              refine lv_goto (tgt := 60) hx hb dX7_leastCapacity_56 (by decide) ?_
              exact hL60 x2 x2 m43 _ _ _ hf hP hS (lv_sub hl [2, 4] rfl)
  have hl := lv_entry ([.ref (ad 359)]) (n := 5) (Nat.le_of_ble_eq_true rfl)
  rw [lg_entry_eq]
  generalize (lg_sl ([.ref (ad 359)]) ++ List.replicate (5 - (lg_sl ([.ref (ad 359)])).length) Slot.unset).toArray = ls at hl ⊢
  have hl : lv_has ls 5 [(0, .ref (ad 359))] := hl
  unfold F_X7_leastCapacity at hf
  refine lv_ldc (v := (-100005)) hx hb hown (hts (.constant RX7 30 (-100005)) (List.mem_of_getElem? (i := 1) rfl)) dX7_leastCapacity_0 ?_
  refine lv_istore_n (lv' := [(1, .int (-100005)), (0, .ref (ad 359))]) hx hb dX7_leastCapacity_2 rfl hl (by decide) rfl (fun ls hl => ?_)
  refine lv_iconst (v := 1) hx hb dX7_leastCapacity_3 (by decide) ?_
  refine lv_istore_n (lv' := [(2, .int 1), (1, .int (-100005)), (0, .ref (ad 359))]) hx hb dX7_leastCapacity_4 rfl hl (by decide) rfl (fun ls hl => ?_)
  exact hL5 fu (-100005) 1 mm _ _ _ hf hP hS (lv_sub hl [2, 1, 0] rfl)
def F_X7_finish_L77 (fu : Nat) (a1 : Int32)  (p0 : Int32) (mm : Mem) : Option (Int32 × Mem) := ov (F_X7_putBack fu  mm) fun m32 => some (p0, m32)
def F_X7_finish_L55 (fu : Nat) (a1 : Int32)   (mm : Mem) : Option (Int32 × Mem) := ob (F_X7_of fu a1 3 mm) fun r33 m34 => if r33 = 2 then (ob (F_X7_of fu a1 8 m34) fun r36 m37 => F_X7_finish_L77 fu a1 r36 m37) else (F_X7_finish_L77 fu a1 (-100005) m34)
def F_X7_finish_L17 (fu : Nat) (a1 : Int32)  : Nat → Int32 → Mem → Option (Int32 × Mem)
  | 0, _, _ => none
  | n + 1, x2, mm => if 400 ≤ x2 then (F_X7_finish_L55 fu a1 mm) else (ob (F_X7_of fu a1 3 mm) fun r39 m40 => if r39 = 2 then (F_X7_finish_L55 fu a1 m40) else (ob (F_X7_of fu a1 3 m40) fun r42 m43 => if r42 = 4 then (F_X7_finish_L55 fu a1 m43) else (ob (F_X7_tick fu  m43) fun r45 m46 => bd (x2 + 1) fun v47 => F_X7_finish_L17 fu a1 n v47 m46)))
def F_X7_finish (fu : Nat) (a1 : Int32) (mm : Mem) : Option (Int32 × Mem) := ob (F_X7_isRequest fu a1 mm) fun r48 m49 => if r48 = 0 then (some ((-100001), m49)) else (ov (F_X7_putAside fu  m49) fun m51 => F_X7_finish_L17 fu a1 fu 0 m51)
set_option maxHeartbeats 4000000 in
set_option maxRecDepth 100000 in
theorem c_X7_finish (l : Launch) (D : va_G) (ad : Nat → Nat) (cI cR : ClassId) (hi : inj ad) (fu : Nat) (a1 : Int32)  (mm : Mem) (r0 : Int32) (m9 : Mem) (hf : F_X7_finish fu a1 mm = some (r0, m9)) : MI l yX7_finish wsX7_finish { frames := 5, cells := 0, slots := 0, locals := 115 } D ad cI cR [.ref (ad 359), .int a1] mm r0 m9 := by
  refine Met.ofW (cc := cX7_finish) (maxL := 3) (ret := (some .int)) (by decide) rfl ?_
  intro p e s m args below meth c s₁ B hml hv
  obtain ⟨rfl, hP, hK, hN⟩ := hv
  have hx := B.exec
  have hb := B.bytes
  have hr := B.returns
  have hts := atoms_spec (ws := wsX7_finish) B.pre
  have hown : s.vm.findClass RX7 = some m.cls := findClass_of_methodNamed B.named
  have hlocks := B.notSynchronized
  have hA : ∀ q, AA ad q → AA ad q := fun _ h => h
  have hS : va_S (AA ad) s.heap s.heap [] := va_S.rf
  have hL77 : ∀ (p0 : Int32)  (mm : Mem) (H : Heap) (locs : List Loc) (ls : Array Slot), F_X7_finish_L77 fu a1  p0 mm = some (r0, m9) → va_P D vwCl (cw ad cI cR mm) H → va_S (AA ad) s.heap H locs → lv_has ls 3 [(0, .ref (ad 359))] → W p l e (headSpec wsX7_finish { frames := 5, cells := 0, slots := 0, locals := 115 }).room s m ([.ref (ad 359), .int a1] : List Value).toArray below meth c H locs 0 0 (MQ below (va_Qi (fun (r' : Int32) (u : Mem) => r' = r0 ∧ u = m9) (KB D ad cI cR) (AA ad)) ([.ref (ad 359), .int a1] : List Value).toArray s 0 0 (AA ad)) (F0 m 77 ls [.int p0]) := by
    intro p0 mm H locs ls hf hP hS hl
    unfold F_X7_finish_L77 at hf
    refine lv_istore_n (lv' := [(2, .int p0), (0, .ref (ad 359))]) hx hb dX7_finish_77 rfl hl (by decide) rfl (fun ls hl => ?_)
    refine lv_aload_n hx hb dX7_finish_78 rfl (lv_at hl 1 rfl) ?_
    obtain ⟨m32, hq, hf⟩ := ov_e hf
    refine w_cv (va_runV (As := []) (rest := []) ⟨hx, hb, hml, hown, hts⟩ (c_X7_putBack l D ad cI cR hi fu  mm m32 hq) (cwV 0 hts gX7_finish_X7_putBack rfl rfl rfl (by decide +kernel) ⟨Nat.le_of_ble_eq_true rfl, Nat.le_of_ble_eq_true rfl⟩) (w_preV (ci := 7) hK hP hN (S_mod ad cI cR).1 (S_mod ad cI cR).2 rfl) rfl rfl hl.1 rfl (lv_room (Nat.le_of_ble_eq_true rfl)) dX7_finish_79 ⟨Nat.zero_le _, Nat.zero_le _⟩) hA hS (fun H locs hP hS => ?_)
    refine lv_iload_n hx hb dX7_finish_82 rfl (lv_at hl 0 rfl) ?_
    cases hf
    exact w_iret hx hb hr hlocks hP hS dX7_finish_83
  have hL55 : ∀   (mm : Mem) (H : Heap) (locs : List Loc) (ls : Array Slot), F_X7_finish_L55 fu a1   mm = some (r0, m9) → va_P D vwCl (cw ad cI cR mm) H → va_S (AA ad) s.heap H locs → lv_has ls 3 [(0, .ref (ad 359)), (1, .int a1)] → W p l e (headSpec wsX7_finish { frames := 5, cells := 0, slots := 0, locals := 115 }).room s m ([.ref (ad 359), .int a1] : List Value).toArray below meth c H locs 0 0 (MQ below (va_Qi (fun (r' : Int32) (u : Mem) => r' = r0 ∧ u = m9) (KB D ad cI cR) (AA ad)) ([.ref (ad 359), .int a1] : List Value).toArray s 0 0 (AA ad)) (F0 m 55 ls []) := by
    intro  mm H locs ls hf hP hS hl
    unfold F_X7_finish_L55 at hf
    refine lv_aload_n hx hb dX7_finish_55 rfl (lv_at hl 0 rfl) ?_
    refine lv_iload_n hx hb dX7_finish_56 rfl (lv_at hl 1 rfl) ?_
    refine lv_iconst (v := 3) hx hb dX7_finish_57 (by decide) ?_
    obtain ⟨r33, m34, hq, hf⟩ := ob_e hf
    refine w_ci (va_runV (As := [.int a1, .int 3]) (rest := []) ⟨hx, hb, hml, hown, hts⟩ (c_X7_of l D ad cI cR hi fu a1 3 mm r33 m34 hq) (cwV 2 hts gX7_finish_X7_of rfl rfl rfl (by decide +kernel) ⟨Nat.le_of_ble_eq_true rfl, Nat.le_of_ble_eq_true rfl⟩) (w_preV (ci := 7) hK hP hN (S_mod ad cI cR).1 (S_mod ad cI cR).2 rfl) rfl rfl hl.1 rfl (lv_room (Nat.le_of_ble_eq_true rfl)) dX7_finish_58 ⟨Nat.zero_le _, Nat.zero_le _⟩) hA hS (fun H locs hP hS => ?_)
    refine lv_iconst (v := 2) hx hb dX7_finish_61 (by decide) ?_
    refine lv_icmp_ne (tgt := 75) hx hb dX7_finish_62 (by decide) (fun c35 => ?_) (fun c35 => ?_)
    · rw [if_neg c35] at hf
      refine lv_ldc (v := (-100005)) hx hb hown (hts (.constant RX7 30 (-100005)) (List.mem_of_getElem? (i := 2) rfl)) dX7_finish_75 ?_
      exact hL77 (-100005) m34 _ _ _ hf hP hS (lv_sub hl [0] rfl)
    · rw [if_pos c35] at hf
      refine lv_aload_n hx hb dX7_finish_65 rfl (lv_at hl 0 rfl) ?_
      refine lv_iload_n hx hb dX7_finish_66 rfl (lv_at hl 1 rfl) ?_
      refine lv_bipush (v := 8) hx hb dX7_finish_67 (by decide) ?_
      obtain ⟨r36, m37, hq, hf⟩ := ob_e hf
      refine w_ci (va_runV (As := [.int a1, .int 8]) (rest := []) ⟨hx, hb, hml, hown, hts⟩ (c_X7_of l D ad cI cR hi fu a1 8 m34 r36 m37 hq) (cwV 2 hts gX7_finish_X7_of rfl rfl rfl (by decide +kernel) ⟨Nat.le_of_ble_eq_true rfl, Nat.le_of_ble_eq_true rfl⟩) (w_preV (ci := 7) hK hP hN (S_mod ad cI cR).1 (S_mod ad cI cR).2 rfl) rfl rfl hl.1 rfl (lv_room (Nat.le_of_ble_eq_true rfl)) dX7_finish_69 ⟨Nat.zero_le _, Nat.zero_le _⟩) hA hS (fun H locs hP hS => ?_)
      refine lv_goto (tgt := 77) hx hb dX7_finish_72 (by decide) ?_
      exact hL77 r36 m37 _ _ _ hf hP hS (lv_sub hl [0] rfl)
  have hL17 : ∀ (n : Nat) (x2 : Int32)  (mm : Mem) (H : Heap) (locs : List Loc) (ls : Array Slot), F_X7_finish_L17 fu a1  n x2 mm = some (r0, m9) → va_P D vwCl (cw ad cI cR mm) H → va_S (AA ad) s.heap H locs → lv_has ls 3 [(0, .ref (ad 359)), (1, .int a1), (2, .int x2)] → W p l e (headSpec wsX7_finish { frames := 5, cells := 0, slots := 0, locals := 115 }).room s m ([.ref (ad 359), .int a1] : List Value).toArray below meth c H locs 0 0 (MQ below (va_Qi (fun (r' : Int32) (u : Mem) => r' = r0 ∧ u = m9) (KB D ad cI cR) (AA ad)) ([.ref (ad 359), .int a1] : List Value).toArray s 0 0 (AA ad)) (F0 m 17 ls []) := by
    intro n
    induction n with
    | zero =>
      intro x2 mm H locs ls hf hP hS hl
      rw [F_X7_finish_L17] at hf
      cases hf
    | succ n17 ih17 =>
      intro x2 mm H locs ls hf hP hS hl
      rw [F_X7_finish_L17] at hf
      refine lv_iload_n hx hb dX7_finish_17 rfl (lv_at hl 2 rfl) ?_
      refine lv_sipush (v := 400) hx hb dX7_finish_18 (by decide) ?_
      refine lv_icmp_ge (tgt := 55) hx hb dX7_finish_21 (by decide) (fun c38 => ?_) (fun c38 => ?_)
      · rw [if_pos c38] at hf
        exact hL55  mm _ _ _ hf hP hS (lv_sub hl [0, 1] rfl)
      · rw [if_neg c38] at hf
        refine lv_aload_n hx hb dX7_finish_24 rfl (lv_at hl 0 rfl) ?_
        refine lv_iload_n hx hb dX7_finish_25 rfl (lv_at hl 1 rfl) ?_
        refine lv_iconst (v := 3) hx hb dX7_finish_26 (by decide) ?_
        obtain ⟨r39, m40, hq, hf⟩ := ob_e hf
        refine w_ci (va_runV (As := [.int a1, .int 3]) (rest := []) ⟨hx, hb, hml, hown, hts⟩ (c_X7_of l D ad cI cR hi fu a1 3 mm r39 m40 hq) (cwV 2 hts gX7_finish_X7_of rfl rfl rfl (by decide +kernel) ⟨Nat.le_of_ble_eq_true rfl, Nat.le_of_ble_eq_true rfl⟩) (w_preV (ci := 7) hK hP hN (S_mod ad cI cR).1 (S_mod ad cI cR).2 rfl) rfl rfl hl.1 rfl (lv_room (Nat.le_of_ble_eq_true rfl)) dX7_finish_27 ⟨Nat.zero_le _, Nat.zero_le _⟩) hA hS (fun H locs hP hS => ?_)
        refine lv_iconst (v := 2) hx hb dX7_finish_30 (by decide) ?_
        refine lv_icmp_eq (tgt := 55) hx hb dX7_finish_31 (by decide) (fun c41 => ?_) (fun c41 => ?_)
        · rw [if_pos c41] at hf
          exact hL55  m40 _ _ _ hf hP hS (lv_sub hl [0, 1] rfl)
        · rw [if_neg c41] at hf
          refine lv_aload_n hx hb dX7_finish_34 rfl (lv_at hl 0 rfl) ?_
          refine lv_iload_n hx hb dX7_finish_35 rfl (lv_at hl 1 rfl) ?_
          refine lv_iconst (v := 3) hx hb dX7_finish_36 (by decide) ?_
          obtain ⟨r42, m43, hq, hf⟩ := ob_e hf
          refine w_ci (va_runV (As := [.int a1, .int 3]) (rest := []) ⟨hx, hb, hml, hown, hts⟩ (c_X7_of l D ad cI cR hi fu a1 3 m40 r42 m43 hq) (cwV 2 hts gX7_finish_X7_of rfl rfl rfl (by decide +kernel) ⟨Nat.le_of_ble_eq_true rfl, Nat.le_of_ble_eq_true rfl⟩) (w_preV (ci := 7) hK hP hN (S_mod ad cI cR).1 (S_mod ad cI cR).2 rfl) rfl rfl hl.1 rfl (lv_room (Nat.le_of_ble_eq_true rfl)) dX7_finish_37 ⟨Nat.zero_le _, Nat.zero_le _⟩) hA hS (fun H locs hP hS => ?_)
          refine lv_iconst (v := 4) hx hb dX7_finish_40 (by decide) ?_
          refine lv_icmp_eq (tgt := 55) hx hb dX7_finish_41 (by decide) (fun c44 => ?_) (fun c44 => ?_)
          · rw [if_pos c44] at hf
            exact hL55  m43 _ _ _ hf hP hS (lv_sub hl [0, 1] rfl)
          · rw [if_neg c44] at hf
            refine lv_aload_n hx hb dX7_finish_44 rfl (lv_at hl 0 rfl) ?_
            obtain ⟨r45, m46, hq, hf⟩ := ob_e hf
            refine w_ci (va_runV (As := []) (rest := []) ⟨hx, hb, hml, hown, hts⟩ (c_X7_tick l D ad cI cR hi fu  m43 r45 m46 hq) (cwV 0 hts gX7_finish_X7_tick rfl rfl rfl (by decide +kernel) ⟨Nat.le_of_ble_eq_true rfl, Nat.le_of_ble_eq_true rfl⟩) (w_preV (ci := 7) hK hP hN (S_mod ad cI cR).1 (S_mod ad cI cR).2 rfl) rfl rfl hl.1 rfl (lv_room (Nat.le_of_ble_eq_true rfl)) dX7_finish_45 ⟨Nat.zero_le _, Nat.zero_le _⟩) hA hS (fun H locs hP hS => ?_)
            refine lv_pop hx hb dX7_finish_48 rfl ?_
            obtain ⟨v47, ev47, hf⟩ := bd_e hf
            refine lv_iinc (v := v47) (lv' := [(2, .int v47), (0, .ref (ad 359)), (1, .int a1)]) hx hb dX7_finish_49 hl (k := 2) rfl (by rw [ev47]; rfl) (by decide) rfl (fun ls hl => ?_)
            refine lv_goto (tgt := 17) hx hb dX7_finish_52 (by decide) ?_
            exact ih17 v47 m46 _ _ _ hf hP hS (lv_sub hl [1, 2, 0] rfl)
  have hl := lv_entry ([.ref (ad 359), .int a1]) (n := 3) (Nat.le_of_ble_eq_true rfl)
  rw [lg_entry_eq]
  generalize (lg_sl ([.ref (ad 359), .int a1]) ++ List.replicate (3 - (lg_sl ([.ref (ad 359), .int a1])).length) Slot.unset).toArray = ls at hl ⊢
  have hl : lv_has ls 3 [(0, .ref (ad 359)), (1, .int a1)] := hl
  unfold F_X7_finish at hf
  refine lv_aload_n hx hb dX7_finish_0 rfl (lv_at hl 0 rfl) ?_
  refine lv_iload_n hx hb dX7_finish_1 rfl (lv_at hl 1 rfl) ?_
  obtain ⟨r48, m49, hq, hf⟩ := ob_e hf
  refine w_ci (va_runV (As := [.int a1]) (rest := []) ⟨hx, hb, hml, hown, hts⟩ (c_X7_isRequest l D ad cI cR hi fu a1 mm r48 m49 hq) (cwV 1 hts gX7_finish_X7_isRequest rfl rfl rfl (by decide +kernel) ⟨Nat.le_of_ble_eq_true rfl, Nat.le_of_ble_eq_true rfl⟩) (w_preV (ci := 7) hK hP hN (S_mod ad cI cR).1 (S_mod ad cI cR).2 rfl) rfl rfl hl.1 rfl (lv_room (Nat.le_of_ble_eq_true rfl)) dX7_finish_2 ⟨Nat.zero_le _, Nat.zero_le _⟩) hA hS (fun H locs hP hS => ?_)
  refine lv_if_ne (tgt := 11) hx hb dX7_finish_5 (by decide) (fun c50 => ?_) (fun c50 => ?_)
  · rw [if_neg c50] at hf
    refine lv_aload_n hx hb dX7_finish_11 rfl (lv_at hl 0 rfl) ?_
    obtain ⟨m51, hq, hf⟩ := ov_e hf
    refine w_cv (va_runV (As := []) (rest := []) ⟨hx, hb, hml, hown, hts⟩ (c_X7_putAside l D ad cI cR hi fu  m49 m51 hq) (cwV 0 hts gX7_finish_X7_putAside rfl rfl rfl (by decide +kernel) ⟨Nat.le_of_ble_eq_true rfl, Nat.le_of_ble_eq_true rfl⟩) (w_preV (ci := 7) hK hP hN (S_mod ad cI cR).1 (S_mod ad cI cR).2 rfl) rfl rfl hl.1 rfl (lv_room (Nat.le_of_ble_eq_true rfl)) dX7_finish_12 ⟨Nat.zero_le _, Nat.zero_le _⟩) hA hS (fun H locs hP hS => ?_)
    refine lv_iconst (v := 0) hx hb dX7_finish_15 (by decide) ?_
    refine lv_istore_n (lv' := [(2, .int 0), (0, .ref (ad 359)), (1, .int a1)]) hx hb dX7_finish_16 rfl hl (by decide) rfl (fun ls hl => ?_)
    exact hL17 fu 0 m51 _ _ _ hf hP hS (lv_sub hl [1, 2, 0] rfl)
  · rw [if_pos c50] at hf
    refine lv_ldc (v := (-100001)) hx hb hown (hts (.constant RX7 83 (-100001)) (List.mem_of_getElem? (i := 1) rfl)) dX7_finish_8 ?_
    cases hf
    exact w_iret hx hb hr hlocks hP hS dX7_finish_10
