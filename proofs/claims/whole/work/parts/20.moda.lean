def F_X7_in (fu : Nat) (a1 : Int32) (a2 : Int32) (a3 : Int32) (mm : Mem) : Option (Int32 × Mem) := if a1 < a2 then (some (0, mm)) else (if a3 < a1 then (some (0, mm)) else (some (1, mm)))
set_option maxHeartbeats 4000000 in
set_option maxRecDepth 100000 in
theorem c_X7_in (l : Launch) (D : va_G) (ad : Nat → Nat) (cI cR : ClassId) (hi : inj ad) (fu : Nat) (a1 : Int32) (a2 : Int32) (a3 : Int32)  (mm : Mem) (r0 : Int32) (m9 : Mem) (hf : F_X7_in fu a1 a2 a3 mm = some (r0, m9)) : MI l yX7_in wsX7_in { frames := 0, cells := 0, slots := 0, locals := 0 } D ad cI cR [.int a1, .int a2, .int a3] mm r0 m9 := by
  refine Met.ofW (cc := cX7_in) (maxL := 3) (ret := (some .boolean)) (by decide) rfl ?_
  intro p e s m args below meth c s₁ B hml hv
  obtain ⟨rfl, hP, hK, hN⟩ := hv
  have hx := B.exec
  have hb := B.bytes
  have hr := B.returns
  have hts := atoms_spec (ws := wsX7_in) B.pre
  have hown : s.vm.findClass RX7 = some m.cls := findClass_of_methodNamed B.named
  have hlocks := B.notSynchronized
  have hA : ∀ q, AA ad q → AA ad q := fun _ h => h
  have hS : va_S (AA ad) s.heap s.heap [] := va_S.rf
  have hl := lv_entry ([.int a1, .int a2, .int a3]) (n := 3) (Nat.le_of_ble_eq_true rfl)
  rw [lg_entry_eq]
  generalize (lg_sl ([.int a1, .int a2, .int a3]) ++ List.replicate (3 - (lg_sl ([.int a1, .int a2, .int a3])).length) Slot.unset).toArray = ls at hl ⊢
  have hl : lv_has ls 3 [(0, .int a1), (1, .int a2), (2, .int a3)] := hl
  unfold F_X7_in at hf
  refine lv_iload_n hx hb dX7_in_0 rfl (lv_at hl 0 rfl) ?_
  refine lv_iload_n hx hb dX7_in_1 rfl (lv_at hl 1 rfl) ?_
  refine lv_icmp_lt (tgt := 14) hx hb dX7_in_2 (by decide) (fun c3 => ?_) (fun c3 => ?_)
  · rw [if_pos c3] at hf
    refine lv_iconst (v := 0) hx hb dX7_in_14 (by decide) ?_
    cases hf
    exact w_zret hx hb hr hlocks rfl hP hS dX7_in_15
  · rw [if_neg c3] at hf
    refine lv_iload_n hx hb dX7_in_5 rfl (lv_at hl 0 rfl) ?_
    refine lv_iload_n hx hb dX7_in_6 rfl (lv_at hl 2 rfl) ?_
    refine lv_icmp_gt (tgt := 14) hx hb dX7_in_7 (by decide) (fun c4 => ?_) (fun c4 => ?_)
    · rw [if_pos c4] at hf
      refine lv_iconst (v := 0) hx hb dX7_in_14 (by decide) ?_
      cases hf
      exact w_zret hx hb hr hlocks rfl hP hS dX7_in_15
    · rw [if_neg c4] at hf
      refine lv_iconst (v := 1) hx hb dX7_in_10 (by decide) ?_
      refine lv_goto (tgt := 15) hx hb dX7_in_11 (by decide) ?_
      cases hf
      exact w_zret hx hb hr hlocks rfl hP hS dX7_in_15
def F_X7_isClass (fu : Nat) (a1 : Int32) (mm : Mem) : Option (Int32 × Mem) := ob (F_X7_in fu a1 0 2 mm) fun r3 m4 => gd (isZ r3) (some (r3, m4))
set_option maxHeartbeats 4000000 in
set_option maxRecDepth 100000 in
theorem c_X7_isClass (l : Launch) (D : va_G) (ad : Nat → Nat) (cI cR : ClassId) (hi : inj ad) (fu : Nat) (a1 : Int32)  (mm : Mem) (r0 : Int32) (m9 : Mem) (hf : F_X7_isClass fu a1 mm = some (r0, m9)) : MI l yX7_isClass wsX7_isClass { frames := 1, cells := 0, slots := 0, locals := 22 } D ad cI cR [.int a1] mm r0 m9 := by
  refine Met.ofW (cc := cX7_isClass) (maxL := 1) (ret := (some .boolean)) (by decide) rfl ?_
  intro p e s m args below meth c s₁ B hml hv
  obtain ⟨rfl, hP, hK, hN⟩ := hv
  have hx := B.exec
  have hb := B.bytes
  have hr := B.returns
  have hts := atoms_spec (ws := wsX7_isClass) B.pre
  have hown : s.vm.findClass RX7 = some m.cls := findClass_of_methodNamed B.named
  have hlocks := B.notSynchronized
  have hA : ∀ q, AA ad q → AA ad q := fun _ h => h
  have hS : va_S (AA ad) s.heap s.heap [] := va_S.rf
  have hl := lv_entry ([.int a1]) (n := 1) (Nat.le_of_ble_eq_true rfl)
  rw [lg_entry_eq]
  generalize (lg_sl ([.int a1]) ++ List.replicate (1 - (lg_sl ([.int a1])).length) Slot.unset).toArray = ls at hl ⊢
  have hl : lv_has ls 1 [(0, .int a1)] := hl
  unfold F_X7_isClass at hf
  refine lv_iload_n hx hb dX7_isClass_0 rfl (lv_at hl 0 rfl) ?_
  refine lv_iconst (v := 0) hx hb dX7_isClass_1 (by decide) ?_
  refine lv_iconst (v := 2) hx hb dX7_isClass_2 (by decide) ?_
  obtain ⟨r3, m4, hq, hf⟩ := ob_e hf
  refine w_ci (va_runS (As := [.int a1, .int 0, .int 2]) (rest := []) ⟨hx, hb, hml, hown, hts⟩ (c_X7_in l D ad cI cR hi fu a1 0 2 mm r3 m4 hq) (va_cwS 3 hts gX7_isClass_X7_in rfl rfl rfl (by decide +kernel) ⟨Nat.le_of_ble_eq_true rfl, Nat.le_of_ble_eq_true rfl⟩) (w_preS hK hP hN) rfl rfl hl.1 rfl (lv_room (Nat.le_of_ble_eq_true rfl)) dX7_isClass_3 ⟨Nat.zero_le _, Nat.zero_le _⟩) hA hS (fun H locs hP hS => ?_)
  obtain ⟨hz, hf⟩ := gd_e hf
  cases hf
  exact w_zret hx hb hr hlocks (isZ_n hz) hP hS dX7_isClass_6
def F_X7_isShape (fu : Nat) (a1 : Int32) (mm : Mem) : Option (Int32 × Mem) := ob (F_X7_in fu a1 0 4 mm) fun r3 m4 => gd (isZ r3) (some (r3, m4))
set_option maxHeartbeats 4000000 in
set_option maxRecDepth 100000 in
theorem c_X7_isShape (l : Launch) (D : va_G) (ad : Nat → Nat) (cI cR : ClassId) (hi : inj ad) (fu : Nat) (a1 : Int32)  (mm : Mem) (r0 : Int32) (m9 : Mem) (hf : F_X7_isShape fu a1 mm = some (r0, m9)) : MI l yX7_isShape wsX7_isShape { frames := 1, cells := 0, slots := 0, locals := 22 } D ad cI cR [.int a1] mm r0 m9 := by
  refine Met.ofW (cc := cX7_isShape) (maxL := 1) (ret := (some .boolean)) (by decide) rfl ?_
  intro p e s m args below meth c s₁ B hml hv
  obtain ⟨rfl, hP, hK, hN⟩ := hv
  have hx := B.exec
  have hb := B.bytes
  have hr := B.returns
  have hts := atoms_spec (ws := wsX7_isShape) B.pre
  have hown : s.vm.findClass RX7 = some m.cls := findClass_of_methodNamed B.named
  have hlocks := B.notSynchronized
  have hA : ∀ q, AA ad q → AA ad q := fun _ h => h
  have hS : va_S (AA ad) s.heap s.heap [] := va_S.rf
  have hl := lv_entry ([.int a1]) (n := 1) (Nat.le_of_ble_eq_true rfl)
  rw [lg_entry_eq]
  generalize (lg_sl ([.int a1]) ++ List.replicate (1 - (lg_sl ([.int a1])).length) Slot.unset).toArray = ls at hl ⊢
  have hl : lv_has ls 1 [(0, .int a1)] := hl
  unfold F_X7_isShape at hf
  refine lv_iload_n hx hb dX7_isShape_0 rfl (lv_at hl 0 rfl) ?_
  refine lv_iconst (v := 0) hx hb dX7_isShape_1 (by decide) ?_
  refine lv_iconst (v := 4) hx hb dX7_isShape_2 (by decide) ?_
  obtain ⟨r3, m4, hq, hf⟩ := ob_e hf
  refine w_ci (va_runS (As := [.int a1, .int 0, .int 4]) (rest := []) ⟨hx, hb, hml, hown, hts⟩ (c_X7_in l D ad cI cR hi fu a1 0 4 mm r3 m4 hq) (va_cwS 3 hts gX7_isShape_X7_in rfl rfl rfl (by decide +kernel) ⟨Nat.le_of_ble_eq_true rfl, Nat.le_of_ble_eq_true rfl⟩) (w_preS hK hP hN) rfl rfl hl.1 rfl (lv_room (Nat.le_of_ble_eq_true rfl)) dX7_isShape_3 ⟨Nat.zero_le _, Nat.zero_le _⟩) hA hS (fun H locs hP hS => ?_)
  obtain ⟨hz, hf⟩ := gd_e hf
  cases hf
  exact w_zret hx hb hr hlocks (isZ_n hz) hP hS dX7_isShape_6
def F_X7_isRequest (fu : Nat) (a1 : Int32) (mm : Mem) : Option (Int32 × Mem) := gd (inb 69 395) (bd ((mm 360 (69 : Int32).toNatClampNeg) - 1) fun v4 => ob (F_X7_in fu a1 0 v4 mm) fun r5 m6 => gd (isZ r5) (some (r5, m6)))
set_option maxHeartbeats 4000000 in
set_option maxRecDepth 100000 in
theorem c_X7_isRequest (l : Launch) (D : va_G) (ad : Nat → Nat) (cI cR : ClassId) (hi : inj ad) (fu : Nat) (a1 : Int32)  (mm : Mem) (r0 : Int32) (m9 : Mem) (hf : F_X7_isRequest fu a1 mm = some (r0, m9)) : MI l yX7_isRequest wsX7_isRequest { frames := 1, cells := 0, slots := 0, locals := 22 } D ad cI cR [.ref (ad 359), .int a1] mm r0 m9 := by
  refine Met.ofW (cc := cX7_isRequest) (maxL := 2) (ret := (some .boolean)) (by decide) rfl ?_
  intro p e s m args below meth c s₁ B hml hv
  obtain ⟨rfl, hP, hK, hN⟩ := hv
  have hx := B.exec
  have hb := B.bytes
  have hr := B.returns
  have hts := atoms_spec (ws := wsX7_isRequest) B.pre
  have hown : s.vm.findClass RX7 = some m.cls := findClass_of_methodNamed B.named
  have hlocks := B.notSynchronized
  have hA : ∀ q, AA ad q → AA ad q := fun _ h => h
  have hS : va_S (AA ad) s.heap s.heap [] := va_S.rf
  have hinX7 : ∀ w ∈ wsX70, w ∈ wsX7_isRequest := (fun _ h => List.mem_cons_of_mem _ (List.mem_append_right _ h))
  have hl := lv_entry ([.ref (ad 359), .int a1]) (n := 2) (Nat.le_of_ble_eq_true rfl)
  rw [lg_entry_eq]
  generalize (lg_sl ([.ref (ad 359), .int a1]) ++ List.replicate (2 - (lg_sl ([.ref (ad 359), .int a1])).length) Slot.unset).toArray = ls at hl ⊢
  have hl : lv_has ls 2 [(0, .ref (ad 359)), (1, .int a1)] := hl
  unfold F_X7_isRequest at hf
  refine lv_iload_n hx hb dX7_isRequest_0 rfl (lv_at hl 1 rfl) ?_
  refine lv_iconst (v := 0) hx hb dX7_isRequest_1 (by decide) ?_
  refine lv_aload_n hx hb dX7_isRequest_2 rfl (lv_at hl 0 rfl) ?_
  refine w_get (C := RX7) (T := TX7) (N := 9) (ci := 7) (v := .ref (ad 360)) hx hb hts hinX7 hown hK hP (S_mod ad cI cR).1 (S_mod ad cI cR).2 rfl 0 (by decide) (hts (.fieldLink RX7 7 "AdmissionControlModel" "z" "[I") (List.mem_of_getElem? (i := 1) rfl)) (fun _ h9 => h9) rfl dX7_isRequest_3 ?_
  refine lv_bipush (v := 69) hx hb dX7_isRequest_6 (by decide) ?_
  obtain ⟨hnb, hf⟩ := gd_e hf
  refine w_ald hx hb hK hP (S_z ad cI cR) hnb dX7_isRequest_8 ?_
  refine lv_iconst (v := 1) hx hb dX7_isRequest_9 (by decide) ?_
  obtain ⟨v4, ev4, hf⟩ := bd_e hf
  refine lv_isub hx hb dX7_isRequest_10 ?_
  refine w_top ev4 ?_
  obtain ⟨r5, m6, hq, hf⟩ := ob_e hf
  refine w_ci (va_runS (As := [.int a1, .int 0, .int v4]) (rest := []) ⟨hx, hb, hml, hown, hts⟩ (c_X7_in l D ad cI cR hi fu a1 0 v4 mm r5 m6 hq) (va_cwS 3 hts gX7_isRequest_X7_in rfl rfl rfl (by decide +kernel) ⟨Nat.le_of_ble_eq_true rfl, Nat.le_of_ble_eq_true rfl⟩) (w_preS hK hP hN) rfl rfl hl.1 rfl (lv_room (Nat.le_of_ble_eq_true rfl)) dX7_isRequest_11 ⟨Nat.zero_le _, Nat.zero_le _⟩) hA hS (fun H locs hP hS => ?_)
  obtain ⟨hz, hf⟩ := gd_e hf
  cases hf
  exact w_zret hx hb hr hlocks (isZ_n hz) hP hS dX7_isRequest_14
def F_X7_ofClass (fu : Nat) (a1 : Int32) (a2 : Int32) (mm : Mem) : Option (Int32 × Mem) := bd (4 * a1) fun v4 => bd (4 + v4) fun v5 => bd (v5 + a2) fun v6 => gd (inb v6 395) (some ((mm 360 v6.toNatClampNeg), mm))
set_option maxHeartbeats 4000000 in
set_option maxRecDepth 100000 in
theorem c_X7_ofClass (l : Launch) (D : va_G) (ad : Nat → Nat) (cI cR : ClassId) (hi : inj ad) (fu : Nat) (a1 : Int32) (a2 : Int32)  (mm : Mem) (r0 : Int32) (m9 : Mem) (hf : F_X7_ofClass fu a1 a2 mm = some (r0, m9)) : MI l yX7_ofClass wsX7_ofClass { frames := 0, cells := 0, slots := 0, locals := 0 } D ad cI cR [.ref (ad 359), .int a1, .int a2] mm r0 m9 := by
  refine Met.ofW (cc := cX7_ofClass) (maxL := 3) (ret := (some .int)) (by decide) rfl ?_
  intro p e s m args below meth c s₁ B hml hv
  obtain ⟨rfl, hP, hK, hN⟩ := hv
  have hx := B.exec
  have hb := B.bytes
  have hr := B.returns
  have hts := atoms_spec (ws := wsX7_ofClass) B.pre
  have hown : s.vm.findClass RX7 = some m.cls := findClass_of_methodNamed B.named
  have hlocks := B.notSynchronized
  have hA : ∀ q, AA ad q → AA ad q := fun _ h => h
  have hS : va_S (AA ad) s.heap s.heap [] := va_S.rf
  have hinX7 : ∀ w ∈ wsX70, w ∈ wsX7_ofClass := (fun _ h => List.mem_cons_of_mem _ (List.mem_append_right _ h))
  have hl := lv_entry ([.ref (ad 359), .int a1, .int a2]) (n := 3) (Nat.le_of_ble_eq_true rfl)
  rw [lg_entry_eq]
  generalize (lg_sl ([.ref (ad 359), .int a1, .int a2]) ++ List.replicate (3 - (lg_sl ([.ref (ad 359), .int a1, .int a2])).length) Slot.unset).toArray = ls at hl ⊢
  have hl : lv_has ls 3 [(0, .ref (ad 359)), (1, .int a1), (2, .int a2)] := hl
  unfold F_X7_ofClass at hf
  refine lv_aload_n hx hb dX7_ofClass_0 rfl (lv_at hl 0 rfl) ?_
  refine w_get (C := RX7) (T := TX7) (N := 9) (ci := 7) (v := .ref (ad 360)) hx hb hts hinX7 hown hK hP (S_mod ad cI cR).1 (S_mod ad cI cR).2 rfl 0 (by decide) (hts (.fieldLink RX7 7 "AdmissionControlModel" "z" "[I") (List.mem_of_getElem? (i := 1) rfl)) (fun _ h9 => h9) rfl dX7_ofClass_1 ?_
  refine lv_iconst (v := 4) hx hb dX7_ofClass_4 (by decide) ?_
  refine lv_iconst (v := 4) hx hb dX7_ofClass_5 (by decide) ?_
  refine lv_iload_n hx hb dX7_ofClass_6 rfl (lv_at hl 1 rfl) ?_
  obtain ⟨v4, ev4, hf⟩ := bd_e hf
  refine lv_imul hx hb dX7_ofClass_7 ?_
  refine w_top ev4 ?_
  obtain ⟨v5, ev5, hf⟩ := bd_e hf
  refine lv_iadd hx hb dX7_ofClass_8 ?_
  refine w_top ev5 ?_
  refine lv_iload_n hx hb dX7_ofClass_9 rfl (lv_at hl 2 rfl) ?_
  obtain ⟨v6, ev6, hf⟩ := bd_e hf
  refine lv_iadd hx hb dX7_ofClass_10 ?_
  refine w_top ev6 ?_
  obtain ⟨hnb, hf⟩ := gd_e hf
  refine w_ald hx hb hK hP (S_z ad cI cR) hnb dX7_ofClass_11 ?_
  cases hf
  exact w_iret hx hb hr hlocks hP hS dX7_ofClass_12
def F_X7_of (fu : Nat) (a1 : Int32) (a2 : Int32) (mm : Mem) : Option (Int32 × Mem) := bd (10 * a1) fun v4 => bd (75 + v4) fun v5 => bd (v5 + a2) fun v6 => gd (inb v6 395) (some ((mm 360 v6.toNatClampNeg), mm))
set_option maxHeartbeats 4000000 in
set_option maxRecDepth 100000 in
theorem c_X7_of (l : Launch) (D : va_G) (ad : Nat → Nat) (cI cR : ClassId) (hi : inj ad) (fu : Nat) (a1 : Int32) (a2 : Int32)  (mm : Mem) (r0 : Int32) (m9 : Mem) (hf : F_X7_of fu a1 a2 mm = some (r0, m9)) : MI l yX7_of wsX7_of { frames := 0, cells := 0, slots := 0, locals := 0 } D ad cI cR [.ref (ad 359), .int a1, .int a2] mm r0 m9 := by
  refine Met.ofW (cc := cX7_of) (maxL := 3) (ret := (some .int)) (by decide) rfl ?_
  intro p e s m args below meth c s₁ B hml hv
  obtain ⟨rfl, hP, hK, hN⟩ := hv
  have hx := B.exec
  have hb := B.bytes
  have hr := B.returns
  have hts := atoms_spec (ws := wsX7_of) B.pre
  have hown : s.vm.findClass RX7 = some m.cls := findClass_of_methodNamed B.named
  have hlocks := B.notSynchronized
  have hA : ∀ q, AA ad q → AA ad q := fun _ h => h
  have hS : va_S (AA ad) s.heap s.heap [] := va_S.rf
  have hinX7 : ∀ w ∈ wsX70, w ∈ wsX7_of := (fun _ h => List.mem_cons_of_mem _ (List.mem_append_right _ h))
  have hl := lv_entry ([.ref (ad 359), .int a1, .int a2]) (n := 3) (Nat.le_of_ble_eq_true rfl)
  rw [lg_entry_eq]
  generalize (lg_sl ([.ref (ad 359), .int a1, .int a2]) ++ List.replicate (3 - (lg_sl ([.ref (ad 359), .int a1, .int a2])).length) Slot.unset).toArray = ls at hl ⊢
  have hl : lv_has ls 3 [(0, .ref (ad 359)), (1, .int a1), (2, .int a2)] := hl
  unfold F_X7_of at hf
  refine lv_aload_n hx hb dX7_of_0 rfl (lv_at hl 0 rfl) ?_
  refine w_get (C := RX7) (T := TX7) (N := 9) (ci := 7) (v := .ref (ad 360)) hx hb hts hinX7 hown hK hP (S_mod ad cI cR).1 (S_mod ad cI cR).2 rfl 0 (by decide) (hts (.fieldLink RX7 7 "AdmissionControlModel" "z" "[I") (List.mem_of_getElem? (i := 1) rfl)) (fun _ h9 => h9) rfl dX7_of_1 ?_
  refine lv_bipush (v := 75) hx hb dX7_of_4 (by decide) ?_
  refine lv_bipush (v := 10) hx hb dX7_of_6 (by decide) ?_
  refine lv_iload_n hx hb dX7_of_8 rfl (lv_at hl 1 rfl) ?_
  obtain ⟨v4, ev4, hf⟩ := bd_e hf
  refine lv_imul hx hb dX7_of_9 ?_
  refine w_top ev4 ?_
  obtain ⟨v5, ev5, hf⟩ := bd_e hf
  refine lv_iadd hx hb dX7_of_10 ?_
  refine w_top ev5 ?_
  refine lv_iload_n hx hb dX7_of_11 rfl (lv_at hl 2 rfl) ?_
  obtain ⟨v6, ev6, hf⟩ := bd_e hf
  refine lv_iadd hx hb dX7_of_12 ?_
  refine w_top ev6 ?_
  obtain ⟨hnb, hf⟩ := gd_e hf
  refine w_ald hx hb hK hP (S_z ad cI cR) hnb dX7_of_13 ?_
  cases hf
  exact w_iret hx hb hr hlocks hP hS dX7_of_14
def F_X7_put (fu : Nat) (a1 : Int32) (a2 : Int32) (a3 : Int32) (mm : Mem) : Option (Mem) := bd (10 * a1) fun v5 => bd (75 + v5) fun v6 => bd (v6 + a2) fun v7 => gd (inb v7 395) (bd (mput mm 360 v7.toNatClampNeg a3) fun m8 => some m8)
set_option maxHeartbeats 4000000 in
set_option maxRecDepth 100000 in
theorem c_X7_put (l : Launch) (D : va_G) (ad : Nat → Nat) (cI cR : ClassId) (hi : inj ad) (fu : Nat) (a1 : Int32) (a2 : Int32) (a3 : Int32)  (mm : Mem) (m9 : Mem) (hf : F_X7_put fu a1 a2 a3 mm = some m9) : MV l yX7_put wsX7_put { frames := 0, cells := 0, slots := 0, locals := 0 } D ad cI cR [.ref (ad 359), .int a1, .int a2, .int a3] mm m9 := by
  refine Met.ofW (cc := cX7_put) (maxL := 4) (ret := none) (by decide) rfl ?_
  intro p e s m args below meth c s₁ B hml hv
  obtain ⟨rfl, hP, hK, hN⟩ := hv
  have hx := B.exec
  have hb := B.bytes
  have hr := B.returns
  have hts := atoms_spec (ws := wsX7_put) B.pre
  have hown : s.vm.findClass RX7 = some m.cls := findClass_of_methodNamed B.named
  have hlocks := B.notSynchronized
  have hA : ∀ q, AA ad q → AA ad q := fun _ h => h
  have hS : va_S (AA ad) s.heap s.heap [] := va_S.rf
  have hinX7 : ∀ w ∈ wsX70, w ∈ wsX7_put := (fun _ h => List.mem_cons_of_mem _ (List.mem_append_right _ h))
  have hl := lv_entry ([.ref (ad 359), .int a1, .int a2, .int a3]) (n := 4) (Nat.le_of_ble_eq_true rfl)
  rw [lg_entry_eq]
  generalize (lg_sl ([.ref (ad 359), .int a1, .int a2, .int a3]) ++ List.replicate (4 - (lg_sl ([.ref (ad 359), .int a1, .int a2, .int a3])).length) Slot.unset).toArray = ls at hl ⊢
  have hl : lv_has ls 4 [(0, .ref (ad 359)), (1, .int a1), (2, .int a2), (3, .int a3)] := hl
  unfold F_X7_put at hf
  refine lv_aload_n hx hb dX7_put_0 rfl (lv_at hl 0 rfl) ?_
  refine w_get (C := RX7) (T := TX7) (N := 9) (ci := 7) (v := .ref (ad 360)) hx hb hts hinX7 hown hK hP (S_mod ad cI cR).1 (S_mod ad cI cR).2 rfl 0 (by decide) (hts (.fieldLink RX7 7 "AdmissionControlModel" "z" "[I") (List.mem_of_getElem? (i := 1) rfl)) (fun _ h9 => h9) rfl dX7_put_1 ?_
  refine lv_bipush (v := 75) hx hb dX7_put_4 (by decide) ?_
  refine lv_bipush (v := 10) hx hb dX7_put_6 (by decide) ?_
  refine lv_iload_n hx hb dX7_put_8 rfl (lv_at hl 1 rfl) ?_
  obtain ⟨v5, ev5, hf⟩ := bd_e hf
  refine lv_imul hx hb dX7_put_9 ?_
  refine w_top ev5 ?_
  obtain ⟨v6, ev6, hf⟩ := bd_e hf
  refine lv_iadd hx hb dX7_put_10 ?_
  refine w_top ev6 ?_
  refine lv_iload_n hx hb dX7_put_11 rfl (lv_at hl 2 rfl) ?_
  obtain ⟨v7, ev7, hf⟩ := bd_e hf
  refine lv_iadd hx hb dX7_put_12 ?_
  refine w_top ev7 ?_
  refine lv_iload_n hx hb dX7_put_13 rfl (lv_at hl 3 rfl) ?_
  obtain ⟨hnb, hf⟩ := gd_e hf
  obtain ⟨m8, em8, hf⟩ := bd_e hf
  refine w_ast hx hb hi hA hK hP hS (S_z ad cI cR) hnb dX7_put_14 (fun H locs hP hS => ?_)
  rw [← em8] at hP
  cases hf
  exact w_vret hx hb hr hlocks hP hS dX7_put_15
def F_X7_inQueue (fu : Nat) (a1 : Int32) (a2 : Int32) (mm : Mem) : Option (Int32 × Mem) := bd (8 * a1) fun v4 => bd (28 + v4) fun v5 => bd (v5 + a2) fun v6 => gd (inb v6 395) (some ((mm 360 v6.toNatClampNeg), mm))
set_option maxHeartbeats 4000000 in
set_option maxRecDepth 100000 in
theorem c_X7_inQueue (l : Launch) (D : va_G) (ad : Nat → Nat) (cI cR : ClassId) (hi : inj ad) (fu : Nat) (a1 : Int32) (a2 : Int32)  (mm : Mem) (r0 : Int32) (m9 : Mem) (hf : F_X7_inQueue fu a1 a2 mm = some (r0, m9)) : MI l yX7_inQueue wsX7_inQueue { frames := 0, cells := 0, slots := 0, locals := 0 } D ad cI cR [.ref (ad 359), .int a1, .int a2] mm r0 m9 := by
  refine Met.ofW (cc := cX7_inQueue) (maxL := 3) (ret := (some .int)) (by decide) rfl ?_
  intro p e s m args below meth c s₁ B hml hv
  obtain ⟨rfl, hP, hK, hN⟩ := hv
  have hx := B.exec
  have hb := B.bytes
  have hr := B.returns
  have hts := atoms_spec (ws := wsX7_inQueue) B.pre
  have hown : s.vm.findClass RX7 = some m.cls := findClass_of_methodNamed B.named
  have hlocks := B.notSynchronized
  have hA : ∀ q, AA ad q → AA ad q := fun _ h => h
  have hS : va_S (AA ad) s.heap s.heap [] := va_S.rf
  have hinX7 : ∀ w ∈ wsX70, w ∈ wsX7_inQueue := (fun _ h => List.mem_cons_of_mem _ (List.mem_append_right _ h))
  have hl := lv_entry ([.ref (ad 359), .int a1, .int a2]) (n := 3) (Nat.le_of_ble_eq_true rfl)
  rw [lg_entry_eq]
  generalize (lg_sl ([.ref (ad 359), .int a1, .int a2]) ++ List.replicate (3 - (lg_sl ([.ref (ad 359), .int a1, .int a2])).length) Slot.unset).toArray = ls at hl ⊢
  have hl : lv_has ls 3 [(0, .ref (ad 359)), (1, .int a1), (2, .int a2)] := hl
  unfold F_X7_inQueue at hf
  refine lv_aload_n hx hb dX7_inQueue_0 rfl (lv_at hl 0 rfl) ?_
  refine w_get (C := RX7) (T := TX7) (N := 9) (ci := 7) (v := .ref (ad 360)) hx hb hts hinX7 hown hK hP (S_mod ad cI cR).1 (S_mod ad cI cR).2 rfl 0 (by decide) (hts (.fieldLink RX7 7 "AdmissionControlModel" "z" "[I") (List.mem_of_getElem? (i := 1) rfl)) (fun _ h9 => h9) rfl dX7_inQueue_1 ?_
  refine lv_bipush (v := 28) hx hb dX7_inQueue_4 (by decide) ?_
  refine lv_bipush (v := 8) hx hb dX7_inQueue_6 (by decide) ?_
  refine lv_iload_n hx hb dX7_inQueue_8 rfl (lv_at hl 1 rfl) ?_
  obtain ⟨v4, ev4, hf⟩ := bd_e hf
  refine lv_imul hx hb dX7_inQueue_9 ?_
  refine w_top ev4 ?_
  obtain ⟨v5, ev5, hf⟩ := bd_e hf
  refine lv_iadd hx hb dX7_inQueue_10 ?_
  refine w_top ev5 ?_
  refine lv_iload_n hx hb dX7_inQueue_11 rfl (lv_at hl 2 rfl) ?_
  obtain ⟨v6, ev6, hf⟩ := bd_e hf
  refine lv_iadd hx hb dX7_inQueue_12 ?_
  refine w_top ev6 ?_
  obtain ⟨hnb, hf⟩ := gd_e hf
  refine w_ald hx hb hK hP (S_z ad cI cR) hnb dX7_inQueue_13 ?_
  cases hf
  exact w_iret hx hb hr hlocks hP hS dX7_inQueue_14
def F_X7_record_L51 (fu : Nat)   : Nat → Int32 → Mem → Option (Mem)
  | 0, _, _ => none
  | n + 1, x1, mm => if 395 ≤ x1 then (bd ((mm 359 3) + 1) fun v29 => bd (mput mm 359 3 v29) fun m30 => some m30) else (bd (395 * (mm 359 3)) fun v31 => bd (v31 + x1) fun v32 => gd (inb x1 395) (gd (inb v32 1580) (bd (mput mm 362 v32.toNatClampNeg (mm 360 x1.toNatClampNeg)) fun m33 => bd (x1 + 1) fun v34 => F_X7_record_L51 fu  n v34 m33)))
def F_X7_record_L10 (fu : Nat)   : Nat → Int32 → Mem → Option (Mem)
  | 0, _, _ => none
  | n + 1, x1, mm => if 1185 ≤ x1 then (bd ((mm 359 3) - 1) fun v36 => bd (mput mm 359 3 v36) fun m37 => F_X7_record_L51 fu  fu 0 m37) else (bd (395 + x1) fun v38 => gd (inb v38 1580) (gd (inb x1 1580) (bd (mput mm 362 x1.toNatClampNeg (mm 362 v38.toNatClampNeg)) fun m39 => bd (x1 + 1) fun v40 => F_X7_record_L10 fu  n v40 m39)))
def F_X7_record (fu : Nat)  (mm : Mem) : Option (Mem) := if (mm 359 3) = 4 then (F_X7_record_L10 fu  fu 0 mm) else (F_X7_record_L51 fu  fu 0 mm)
set_option maxHeartbeats 4000000 in
set_option maxRecDepth 100000 in
theorem c_X7_record (l : Launch) (D : va_G) (ad : Nat → Nat) (cI cR : ClassId) (hi : inj ad) (fu : Nat)   (mm : Mem) (m9 : Mem) (hf : F_X7_record fu  mm = some m9) : MV l yX7_record wsX7_record { frames := 0, cells := 0, slots := 0, locals := 0 } D ad cI cR [.ref (ad 359)] mm m9 := by
  refine Met.ofW (cc := cX7_record) (maxL := 2) (ret := none) (by decide) rfl ?_
  intro p e s m args below meth c s₁ B hml hv
  obtain ⟨rfl, hP, hK, hN⟩ := hv
  have hx := B.exec
  have hb := B.bytes
  have hr := B.returns
  have hts := atoms_spec (ws := wsX7_record) B.pre
  have hown : s.vm.findClass RX7 = some m.cls := findClass_of_methodNamed B.named
  have hlocks := B.notSynchronized
  have hA : ∀ q, AA ad q → AA ad q := fun _ h => h
  have hS : va_S (AA ad) s.heap s.heap [] := va_S.rf
  have hinX7 : ∀ w ∈ wsX70, w ∈ wsX7_record := (fun _ h => List.mem_cons_of_mem _ (List.mem_append_right _ h))
  have hL51 : ∀ (n : Nat) (x1 : Int32)  (mm : Mem) (H : Heap) (locs : List Loc) (ls : Array Slot), F_X7_record_L51 fu   n x1 mm = some m9 → va_P D vwCl (cw ad cI cR mm) H → va_S (AA ad) s.heap H locs → lv_has ls 2 [(0, .ref (ad 359)), (1, .int x1)] → W p l e (headSpec wsX7_record { frames := 0, cells := 0, slots := 0, locals := 0 }).room s m ([.ref (ad 359)] : List Value).toArray below meth c H locs 0 0 (MQ below (va_Qv (fun (u : Mem) => u = m9) (KB D ad cI cR) (AA ad)) ([.ref (ad 359)] : List Value).toArray s 0 0 (AA ad)) (F0 m 51 ls []) := by
    intro n
    induction n with
    | zero =>
      intro x1 mm H locs ls hf hP hS hl
      rw [F_X7_record_L51] at hf
      cases hf
    | succ n51 ih51 =>
      intro x1 mm H locs ls hf hP hS hl
      rw [F_X7_record_L51] at hf
      refine lv_iload_n hx hb dX7_record_51 rfl (lv_at hl 1 rfl) ?_
      refine lv_sipush (v := 395) hx hb dX7_record_52 (by decide) ?_
      refine lv_icmp_ge (tgt := 85) hx hb dX7_record_55 (by decide) (fun c28 => ?_) (fun c28 => ?_)
      · rw [if_pos c28] at hf
        refine lv_aload_n hx hb dX7_record_85 rfl (lv_at hl 0 rfl) ?_
        refine lv_dup hx hb dX7_record_86 rfl ?_
        refine w_get (C := RX7) (T := TX7) (N := 9) (ci := 7) (v := .int (mm 359 3)) hx hb hts hinX7 hown hK hP (S_mod ad cI cR).1 (S_mod ad cI cR).2 rfl 3 (by decide) (hts (.fieldLink RX7 26 "AdmissionControlModel" "states" "I") (List.mem_of_getElem? (i := 1) rfl)) (fun _ h9 => h9) rfl dX7_record_87 ?_
        refine lv_iconst (v := 1) hx hb dX7_record_90 (by decide) ?_
        obtain ⟨v29, ev29, hf⟩ := bd_e hf
        refine lv_iadd hx hb dX7_record_91 ?_
        refine w_top ev29 ?_
        obtain ⟨m30, em30, hf⟩ := bd_e hf
        refine w_put (C := RX7) (T := TX7) (N := 9) (ci := 7) (x := v29) hx hb hts hinX7 tyX7 tyX7_ok nmX7 hown hi hA hK hP hS (S_mod ad cI cR).1 (S_mod ad cI cR).2 rfl 3 (by decide) (hts (.fieldLink RX7 26 "AdmissionControlModel" "states" "I") (List.mem_of_getElem? (i := 1) rfl)) (fun _ h9 => h9) rfl rfl rfl (Nat.le_of_ble_eq_true rfl) rfl dX7_record_92 (fun H locs hP hS => ?_)
        rw [← em30] at hP
        cases hf
        exact w_vret hx hb hr hlocks hP hS dX7_record_95
      · rw [if_neg c28] at hf
        refine lv_aload_n hx hb dX7_record_58 rfl (lv_at hl 0 rfl) ?_
        refine w_get (C := RX7) (T := TX7) (N := 9) (ci := 7) (v := .ref (ad 362)) hx hb hts hinX7 hown hK hP (S_mod ad cI cR).1 (S_mod ad cI cR).2 rfl 2 (by decide) (hts (.fieldLink RX7 16 "AdmissionControlModel" "history" "[I") (List.mem_of_getElem? (i := 2) rfl)) (fun _ h9 => h9) rfl dX7_record_59 ?_
        refine lv_sipush (v := 395) hx hb dX7_record_62 (by decide) ?_
        refine lv_aload_n hx hb dX7_record_65 rfl (lv_at hl 0 rfl) ?_
        refine w_get (C := RX7) (T := TX7) (N := 9) (ci := 7) (v := .int (mm 359 3)) hx hb hts hinX7 hown hK hP (S_mod ad cI cR).1 (S_mod ad cI cR).2 rfl 3 (by decide) (hts (.fieldLink RX7 26 "AdmissionControlModel" "states" "I") (List.mem_of_getElem? (i := 1) rfl)) (fun _ h9 => h9) rfl dX7_record_66 ?_
        obtain ⟨v31, ev31, hf⟩ := bd_e hf
        refine lv_imul hx hb dX7_record_69 ?_
        refine w_top ev31 ?_
        refine lv_iload_n hx hb dX7_record_70 rfl (lv_at hl 1 rfl) ?_
        obtain ⟨v32, ev32, hf⟩ := bd_e hf
        refine lv_iadd hx hb dX7_record_71 ?_
        refine w_top ev32 ?_
        refine lv_aload_n hx hb dX7_record_72 rfl (lv_at hl 0 rfl) ?_
        refine w_get (C := RX7) (T := TX7) (N := 9) (ci := 7) (v := .ref (ad 360)) hx hb hts hinX7 hown hK hP (S_mod ad cI cR).1 (S_mod ad cI cR).2 rfl 0 (by decide) (hts (.fieldLink RX7 7 "AdmissionControlModel" "z" "[I") (List.mem_of_getElem? (i := 3) rfl)) (fun _ h9 => h9) rfl dX7_record_73 ?_
        refine lv_iload_n hx hb dX7_record_76 rfl (lv_at hl 1 rfl) ?_
        obtain ⟨hnb, hf⟩ := gd_e hf
        refine w_ald hx hb hK hP (S_z ad cI cR) hnb dX7_record_77 ?_
        obtain ⟨hnb, hf⟩ := gd_e hf
        obtain ⟨m33, em33, hf⟩ := bd_e hf
        refine w_ast hx hb hi hA hK hP hS (S_mhist ad cI cR) hnb dX7_record_78 (fun H locs hP hS => ?_)
        rw [← em33] at hP
        obtain ⟨v34, ev34, hf⟩ := bd_e hf
        refine lv_iinc (v := v34) (lv' := [(1, .int v34), (0, .ref (ad 359))]) hx hb dX7_record_79 hl (k := 1) rfl (by rw [ev34]; rfl) (by decide) rfl (fun ls hl => ?_)
        refine lv_goto (tgt := 51) hx hb dX7_record_82 (by decide) ?_
        exact ih51 v34 m33 _ _ _ hf hP hS (lv_sub hl [1, 0] rfl)
  have hL10 : ∀ (n : Nat) (x1 : Int32)  (mm : Mem) (H : Heap) (locs : List Loc) (ls : Array Slot), F_X7_record_L10 fu   n x1 mm = some m9 → va_P D vwCl (cw ad cI cR mm) H → va_S (AA ad) s.heap H locs → lv_has ls 2 [(0, .ref (ad 359)), (1, .int x1)] → W p l e (headSpec wsX7_record { frames := 0, cells := 0, slots := 0, locals := 0 }).room s m ([.ref (ad 359)] : List Value).toArray below meth c H locs 0 0 (MQ below (va_Qv (fun (u : Mem) => u = m9) (KB D ad cI cR) (AA ad)) ([.ref (ad 359)] : List Value).toArray s 0 0 (AA ad)) (F0 m 10 ls []) := by
    intro n
    induction n with
    | zero =>
      intro x1 mm H locs ls hf hP hS hl
      rw [F_X7_record_L10] at hf
      cases hf
    | succ n10 ih10 =>
      intro x1 mm H locs ls hf hP hS hl
      rw [F_X7_record_L10] at hf
      refine lv_iload_n hx hb dX7_record_10 rfl (lv_at hl 1 rfl) ?_
      refine lv_sipush (v := 1185) hx hb dX7_record_11 (by decide) ?_
      refine lv_icmp_ge (tgt := 39) hx hb dX7_record_14 (by decide) (fun c35 => ?_) (fun c35 => ?_)
      · rw [if_pos c35] at hf
        refine lv_aload_n hx hb dX7_record_39 rfl (lv_at hl 0 rfl) ?_
        refine lv_dup hx hb dX7_record_40 rfl ?_
        refine w_get (C := RX7) (T := TX7) (N := 9) (ci := 7) (v := .int (mm 359 3)) hx hb hts hinX7 hown hK hP (S_mod ad cI cR).1 (S_mod ad cI cR).2 rfl 3 (by decide) (hts (.fieldLink RX7 26 "AdmissionControlModel" "states" "I") (List.mem_of_getElem? (i := 1) rfl)) (fun _ h9 => h9) rfl dX7_record_41 ?_
        refine lv_iconst (v := 1) hx hb dX7_record_44 (by decide) ?_
        obtain ⟨v36, ev36, hf⟩ := bd_e hf
        refine lv_isub hx hb dX7_record_45 ?_
        refine w_top ev36 ?_
        obtain ⟨m37, em37, hf⟩ := bd_e hf
        refine w_put (C := RX7) (T := TX7) (N := 9) (ci := 7) (x := v36) hx hb hts hinX7 tyX7 tyX7_ok nmX7 hown hi hA hK hP hS (S_mod ad cI cR).1 (S_mod ad cI cR).2 rfl 3 (by decide) (hts (.fieldLink RX7 26 "AdmissionControlModel" "states" "I") (List.mem_of_getElem? (i := 1) rfl)) (fun _ h9 => h9) rfl rfl rfl (Nat.le_of_ble_eq_true rfl) rfl dX7_record_46 (fun H locs hP hS => ?_)
        rw [← em37] at hP
        refine lv_iconst (v := 0) hx hb dX7_record_49 (by decide) ?_
        refine lv_istore_n (lv' := [(1, .int 0), (0, .ref (ad 359))]) hx hb dX7_record_50 rfl hl (by decide) rfl (fun ls hl => ?_)
        exact hL51 fu 0 m37 _ _ _ hf hP hS (lv_sub hl [1, 0] rfl)
      · rw [if_neg c35] at hf
        refine lv_aload_n hx hb dX7_record_17 rfl (lv_at hl 0 rfl) ?_
        refine w_get (C := RX7) (T := TX7) (N := 9) (ci := 7) (v := .ref (ad 362)) hx hb hts hinX7 hown hK hP (S_mod ad cI cR).1 (S_mod ad cI cR).2 rfl 2 (by decide) (hts (.fieldLink RX7 16 "AdmissionControlModel" "history" "[I") (List.mem_of_getElem? (i := 2) rfl)) (fun _ h9 => h9) rfl dX7_record_18 ?_
        refine lv_iload_n hx hb dX7_record_21 rfl (lv_at hl 1 rfl) ?_
        refine lv_aload_n hx hb dX7_record_22 rfl (lv_at hl 0 rfl) ?_
        refine w_get (C := RX7) (T := TX7) (N := 9) (ci := 7) (v := .ref (ad 362)) hx hb hts hinX7 hown hK hP (S_mod ad cI cR).1 (S_mod ad cI cR).2 rfl 2 (by decide) (hts (.fieldLink RX7 16 "AdmissionControlModel" "history" "[I") (List.mem_of_getElem? (i := 2) rfl)) (fun _ h9 => h9) rfl dX7_record_23 ?_
        refine lv_sipush (v := 395) hx hb dX7_record_26 (by decide) ?_
        refine lv_iload_n hx hb dX7_record_29 rfl (lv_at hl 1 rfl) ?_
        obtain ⟨v38, ev38, hf⟩ := bd_e hf
        refine lv_iadd hx hb dX7_record_30 ?_
        refine w_top ev38 ?_
        obtain ⟨hnb, hf⟩ := gd_e hf
        refine w_ald hx hb hK hP (S_mhist ad cI cR) hnb dX7_record_31 ?_
        obtain ⟨hnb, hf⟩ := gd_e hf
        obtain ⟨m39, em39, hf⟩ := bd_e hf
        refine w_ast hx hb hi hA hK hP hS (S_mhist ad cI cR) hnb dX7_record_32 (fun H locs hP hS => ?_)
        rw [← em39] at hP
        obtain ⟨v40, ev40, hf⟩ := bd_e hf
        refine lv_iinc (v := v40) (lv' := [(1, .int v40), (0, .ref (ad 359))]) hx hb dX7_record_33 hl (k := 1) rfl (by rw [ev40]; rfl) (by decide) rfl (fun ls hl => ?_)
        refine lv_goto (tgt := 10) hx hb dX7_record_36 (by decide) ?_
        exact ih10 v40 m39 _ _ _ hf hP hS (lv_sub hl [1, 0] rfl)
  have hl := lv_entry ([.ref (ad 359)]) (n := 2) (Nat.le_of_ble_eq_true rfl)
  rw [lg_entry_eq]
  generalize (lg_sl ([.ref (ad 359)]) ++ List.replicate (2 - (lg_sl ([.ref (ad 359)])).length) Slot.unset).toArray = ls at hl ⊢
  have hl : lv_has ls 2 [(0, .ref (ad 359))] := hl
  unfold F_X7_record at hf
  refine lv_aload_n hx hb dX7_record_0 rfl (lv_at hl 0 rfl) ?_
  refine w_get (C := RX7) (T := TX7) (N := 9) (ci := 7) (v := .int (mm 359 3)) hx hb hts hinX7 hown hK hP (S_mod ad cI cR).1 (S_mod ad cI cR).2 rfl 3 (by decide) (hts (.fieldLink RX7 26 "AdmissionControlModel" "states" "I") (List.mem_of_getElem? (i := 1) rfl)) (fun _ h9 => h9) rfl dX7_record_1 ?_
  refine lv_iconst (v := 4) hx hb dX7_record_4 (by decide) ?_
  refine lv_icmp_ne (tgt := 49) hx hb dX7_record_5 (by decide) (fun c41 => ?_) (fun c41 => ?_)
  · rw [if_neg c41] at hf
    refine lv_iconst (v := 0) hx hb dX7_record_49 (by decide) ?_
    refine lv_istore_n (lv' := [(1, .int 0), (0, .ref (ad 359))]) hx hb dX7_record_50 rfl hl (by decide) rfl (fun ls hl => ?_)
    exact hL51 fu 0 mm _ _ _ hf hP hS (lv_sub hl [1, 0] rfl)
  · rw [if_pos c41] at hf
    refine lv_iconst (v := 0) hx hb dX7_record_8 (by decide) ?_
    refine lv_istore_n (lv' := [(1, .int 0), (0, .ref (ad 359))]) hx hb dX7_record_9 rfl hl (by decide) rfl (fun ls hl => ?_)
    exact hL10 fu 0 mm _ _ _ hf hP hS (lv_sub hl [1, 0] rfl)
def F_X7_undo_L22 (fu : Nat)   : Nat → Int32 → Mem → Option (Int32 × Mem)
  | 0, _, _ => none
  | n + 1, x1, mm => if 395 ≤ x1 then (some ((mm 359 3), mm)) else (bd (395 * (mm 359 3)) fun v15 => bd (v15 + x1) fun v16 => gd (inb v16 1580) (gd (inb x1 395) (bd (mput mm 360 x1.toNatClampNeg (mm 362 v16.toNatClampNeg)) fun m17 => bd (x1 + 1) fun v18 => F_X7_undo_L22 fu  n v18 m17)))
def F_X7_undo (fu : Nat)  (mm : Mem) : Option (Int32 × Mem) := if (mm 359 3) = 0 then (some ((-100005), mm)) else (bd ((mm 359 3) - 1) fun v20 => bd (mput mm 359 3 v20) fun m21 => F_X7_undo_L22 fu  fu 0 m21)
set_option maxHeartbeats 4000000 in
set_option maxRecDepth 100000 in
theorem c_X7_undo (l : Launch) (D : va_G) (ad : Nat → Nat) (cI cR : ClassId) (hi : inj ad) (fu : Nat)   (mm : Mem) (r0 : Int32) (m9 : Mem) (hf : F_X7_undo fu  mm = some (r0, m9)) : MI l yX7_undo wsX7_undo { frames := 0, cells := 0, slots := 0, locals := 0 } D ad cI cR [.ref (ad 359)] mm r0 m9 := by
  refine Met.ofW (cc := cX7_undo) (maxL := 2) (ret := (some .int)) (by decide) rfl ?_
  intro p e s m args below meth c s₁ B hml hv
  obtain ⟨rfl, hP, hK, hN⟩ := hv
  have hx := B.exec
  have hb := B.bytes
  have hr := B.returns
  have hts := atoms_spec (ws := wsX7_undo) B.pre
  have hown : s.vm.findClass RX7 = some m.cls := findClass_of_methodNamed B.named
  have hlocks := B.notSynchronized
  have hA : ∀ q, AA ad q → AA ad q := fun _ h => h
  have hS : va_S (AA ad) s.heap s.heap [] := va_S.rf
  have hinX7 : ∀ w ∈ wsX70, w ∈ wsX7_undo := (fun _ h => List.mem_cons_of_mem _ (List.mem_append_right _ h))
  have hL22 : ∀ (n : Nat) (x1 : Int32)  (mm : Mem) (H : Heap) (locs : List Loc) (ls : Array Slot), F_X7_undo_L22 fu   n x1 mm = some (r0, m9) → va_P D vwCl (cw ad cI cR mm) H → va_S (AA ad) s.heap H locs → lv_has ls 2 [(0, .ref (ad 359)), (1, .int x1)] → W p l e (headSpec wsX7_undo { frames := 0, cells := 0, slots := 0, locals := 0 }).room s m ([.ref (ad 359)] : List Value).toArray below meth c H locs 0 0 (MQ below (va_Qi (fun (r' : Int32) (u : Mem) => r' = r0 ∧ u = m9) (KB D ad cI cR) (AA ad)) ([.ref (ad 359)] : List Value).toArray s 0 0 (AA ad)) (F0 m 22 ls []) := by
    intro n
    induction n with
    | zero =>
      intro x1 mm H locs ls hf hP hS hl
      rw [F_X7_undo_L22] at hf
      cases hf
    | succ n22 ih22 =>
      intro x1 mm H locs ls hf hP hS hl
      rw [F_X7_undo_L22] at hf
      refine lv_iload_n hx hb dX7_undo_22 rfl (lv_at hl 1 rfl) ?_
      refine lv_sipush (v := 395) hx hb dX7_undo_23 (by decide) ?_
      refine lv_icmp_ge (tgt := 56) hx hb dX7_undo_26 (by decide) (fun c14 => ?_) (fun c14 => ?_)
      · rw [if_pos c14] at hf
        refine lv_aload_n hx hb dX7_undo_56 rfl (lv_at hl 0 rfl) ?_
        refine w_get (C := RX7) (T := TX7) (N := 9) (ci := 7) (v := .int (mm 359 3)) hx hb hts hinX7 hown hK hP (S_mod ad cI cR).1 (S_mod ad cI cR).2 rfl 3 (by decide) (hts (.fieldLink RX7 26 "AdmissionControlModel" "states" "I") (List.mem_of_getElem? (i := 1) rfl)) (fun _ h9 => h9) rfl dX7_undo_57 ?_
        cases hf
        exact w_iret hx hb hr hlocks hP hS dX7_undo_60
      · rw [if_neg c14] at hf
        refine lv_aload_n hx hb dX7_undo_29 rfl (lv_at hl 0 rfl) ?_
        refine w_get (C := RX7) (T := TX7) (N := 9) (ci := 7) (v := .ref (ad 360)) hx hb hts hinX7 hown hK hP (S_mod ad cI cR).1 (S_mod ad cI cR).2 rfl 0 (by decide) (hts (.fieldLink RX7 7 "AdmissionControlModel" "z" "[I") (List.mem_of_getElem? (i := 3) rfl)) (fun _ h9 => h9) rfl dX7_undo_30 ?_
        refine lv_iload_n hx hb dX7_undo_33 rfl (lv_at hl 1 rfl) ?_
        refine lv_aload_n hx hb dX7_undo_34 rfl (lv_at hl 0 rfl) ?_
        refine w_get (C := RX7) (T := TX7) (N := 9) (ci := 7) (v := .ref (ad 362)) hx hb hts hinX7 hown hK hP (S_mod ad cI cR).1 (S_mod ad cI cR).2 rfl 2 (by decide) (hts (.fieldLink RX7 16 "AdmissionControlModel" "history" "[I") (List.mem_of_getElem? (i := 4) rfl)) (fun _ h9 => h9) rfl dX7_undo_35 ?_
        refine lv_sipush (v := 395) hx hb dX7_undo_38 (by decide) ?_
        refine lv_aload_n hx hb dX7_undo_41 rfl (lv_at hl 0 rfl) ?_
        refine w_get (C := RX7) (T := TX7) (N := 9) (ci := 7) (v := .int (mm 359 3)) hx hb hts hinX7 hown hK hP (S_mod ad cI cR).1 (S_mod ad cI cR).2 rfl 3 (by decide) (hts (.fieldLink RX7 26 "AdmissionControlModel" "states" "I") (List.mem_of_getElem? (i := 1) rfl)) (fun _ h9 => h9) rfl dX7_undo_42 ?_
        obtain ⟨v15, ev15, hf⟩ := bd_e hf
        refine lv_imul hx hb dX7_undo_45 ?_
        refine w_top ev15 ?_
        refine lv_iload_n hx hb dX7_undo_46 rfl (lv_at hl 1 rfl) ?_
        obtain ⟨v16, ev16, hf⟩ := bd_e hf
        refine lv_iadd hx hb dX7_undo_47 ?_
        refine w_top ev16 ?_
        obtain ⟨hnb, hf⟩ := gd_e hf
        refine w_ald hx hb hK hP (S_mhist ad cI cR) hnb dX7_undo_48 ?_
        obtain ⟨hnb, hf⟩ := gd_e hf
        obtain ⟨m17, em17, hf⟩ := bd_e hf
        refine w_ast hx hb hi hA hK hP hS (S_z ad cI cR) hnb dX7_undo_49 (fun H locs hP hS => ?_)
        rw [← em17] at hP
        obtain ⟨v18, ev18, hf⟩ := bd_e hf
        refine lv_iinc (v := v18) (lv' := [(1, .int v18), (0, .ref (ad 359))]) hx hb dX7_undo_50 hl (k := 1) rfl (by rw [ev18]; rfl) (by decide) rfl (fun ls hl => ?_)
        refine lv_goto (tgt := 22) hx hb dX7_undo_53 (by decide) ?_
        exact ih22 v18 m17 _ _ _ hf hP hS (lv_sub hl [1, 0] rfl)
  have hl := lv_entry ([.ref (ad 359)]) (n := 2) (Nat.le_of_ble_eq_true rfl)
  rw [lg_entry_eq]
  generalize (lg_sl ([.ref (ad 359)]) ++ List.replicate (2 - (lg_sl ([.ref (ad 359)])).length) Slot.unset).toArray = ls at hl ⊢
  have hl : lv_has ls 2 [(0, .ref (ad 359))] := hl
  unfold F_X7_undo at hf
  refine lv_aload_n hx hb dX7_undo_0 rfl (lv_at hl 0 rfl) ?_
  refine w_get (C := RX7) (T := TX7) (N := 9) (ci := 7) (v := .int (mm 359 3)) hx hb hts hinX7 hown hK hP (S_mod ad cI cR).1 (S_mod ad cI cR).2 rfl 3 (by decide) (hts (.fieldLink RX7 26 "AdmissionControlModel" "states" "I") (List.mem_of_getElem? (i := 1) rfl)) (fun _ h9 => h9) rfl dX7_undo_1 ?_
  refine lv_if_ne (tgt := 10) hx hb dX7_undo_4 (by decide) (fun c19 => ?_) (fun c19 => ?_)
  · rw [if_neg c19] at hf
    refine lv_aload_n hx hb dX7_undo_10 rfl (lv_at hl 0 rfl) ?_
    refine lv_dup hx hb dX7_undo_11 rfl ?_
    refine w_get (C := RX7) (T := TX7) (N := 9) (ci := 7) (v := .int (mm 359 3)) hx hb hts hinX7 hown hK hP (S_mod ad cI cR).1 (S_mod ad cI cR).2 rfl 3 (by decide) (hts (.fieldLink RX7 26 "AdmissionControlModel" "states" "I") (List.mem_of_getElem? (i := 1) rfl)) (fun _ h9 => h9) rfl dX7_undo_12 ?_
    refine lv_iconst (v := 1) hx hb dX7_undo_15 (by decide) ?_
    obtain ⟨v20, ev20, hf⟩ := bd_e hf
    refine lv_isub hx hb dX7_undo_16 ?_
    refine w_top ev20 ?_
    obtain ⟨m21, em21, hf⟩ := bd_e hf
    refine w_put (C := RX7) (T := TX7) (N := 9) (ci := 7) (x := v20) hx hb hts hinX7 tyX7 tyX7_ok nmX7 hown hi hA hK hP hS (S_mod ad cI cR).1 (S_mod ad cI cR).2 rfl 3 (by decide) (hts (.fieldLink RX7 26 "AdmissionControlModel" "states" "I") (List.mem_of_getElem? (i := 1) rfl)) (fun _ h9 => h9) rfl rfl rfl (Nat.le_of_ble_eq_true rfl) rfl dX7_undo_17 (fun H locs hP hS => ?_)
    rw [← em21] at hP
    refine lv_iconst (v := 0) hx hb dX7_undo_20 (by decide) ?_
    refine lv_istore_n (lv' := [(1, .int 0), (0, .ref (ad 359))]) hx hb dX7_undo_21 rfl hl (by decide) rfl (fun ls hl => ?_)
    exact hL22 fu 0 m21 _ _ _ hf hP hS (lv_sub hl [1, 0] rfl)
  · rw [if_pos c19] at hf
    refine lv_ldc (v := (-100005)) hx hb hown (hts (.constant RX7 30 (-100005)) (List.mem_of_getElem? (i := 2) rfl)) dX7_undo_7 ?_
    cases hf
    exact w_iret hx hb hr hlocks hP hS dX7_undo_9
def F_X7_putAside_L2 (fu : Nat)   : Nat → Int32 → Mem → Option (Mem)
  | 0, _, _ => none
  | n + 1, x1, mm => if 395 ≤ x1 then (some mm) else (gd (inb x1 395) (gd (inb x1 395) (bd (mput mm 361 x1.toNatClampNeg (mm 360 x1.toNatClampNeg)) fun m8 => bd (x1 + 1) fun v9 => F_X7_putAside_L2 fu  n v9 m8)))
def F_X7_putAside (fu : Nat)  (mm : Mem) : Option (Mem) := F_X7_putAside_L2 fu  fu 0 mm
set_option maxHeartbeats 4000000 in
set_option maxRecDepth 100000 in
theorem c_X7_putAside (l : Launch) (D : va_G) (ad : Nat → Nat) (cI cR : ClassId) (hi : inj ad) (fu : Nat)   (mm : Mem) (m9 : Mem) (hf : F_X7_putAside fu  mm = some m9) : MV l yX7_putAside wsX7_putAside { frames := 0, cells := 0, slots := 0, locals := 0 } D ad cI cR [.ref (ad 359)] mm m9 := by
  refine Met.ofW (cc := cX7_putAside) (maxL := 2) (ret := none) (by decide) rfl ?_
  intro p e s m args below meth c s₁ B hml hv
  obtain ⟨rfl, hP, hK, hN⟩ := hv
  have hx := B.exec
  have hb := B.bytes
  have hr := B.returns
  have hts := atoms_spec (ws := wsX7_putAside) B.pre
  have hown : s.vm.findClass RX7 = some m.cls := findClass_of_methodNamed B.named
  have hlocks := B.notSynchronized
  have hA : ∀ q, AA ad q → AA ad q := fun _ h => h
  have hS : va_S (AA ad) s.heap s.heap [] := va_S.rf
  have hinX7 : ∀ w ∈ wsX70, w ∈ wsX7_putAside := (fun _ h => List.mem_cons_of_mem _ (List.mem_append_right _ h))
  have hL2 : ∀ (n : Nat) (x1 : Int32)  (mm : Mem) (H : Heap) (locs : List Loc) (ls : Array Slot), F_X7_putAside_L2 fu   n x1 mm = some m9 → va_P D vwCl (cw ad cI cR mm) H → va_S (AA ad) s.heap H locs → lv_has ls 2 [(0, .ref (ad 359)), (1, .int x1)] → W p l e (headSpec wsX7_putAside { frames := 0, cells := 0, slots := 0, locals := 0 }).room s m ([.ref (ad 359)] : List Value).toArray below meth c H locs 0 0 (MQ below (va_Qv (fun (u : Mem) => u = m9) (KB D ad cI cR) (AA ad)) ([.ref (ad 359)] : List Value).toArray s 0 0 (AA ad)) (F0 m 2 ls []) := by
    intro n
    induction n with
    | zero =>
      intro x1 mm H locs ls hf hP hS hl
      rw [F_X7_putAside_L2] at hf
      cases hf
    | succ n2 ih2 =>
      intro x1 mm H locs ls hf hP hS hl
      rw [F_X7_putAside_L2] at hf
      refine lv_iload_n hx hb dX7_putAside_2 rfl (lv_at hl 1 rfl) ?_
      refine lv_sipush (v := 395) hx hb dX7_putAside_3 (by decide) ?_
      refine lv_icmp_ge (tgt := 27) hx hb dX7_putAside_6 (by decide) (fun c7 => ?_) (fun c7 => ?_)
      · rw [if_pos c7] at hf
        cases hf
        exact w_vret hx hb hr hlocks hP hS dX7_putAside_27
      · rw [if_neg c7] at hf
        refine lv_aload_n hx hb dX7_putAside_9 rfl (lv_at hl 0 rfl) ?_
        refine w_get (C := RX7) (T := TX7) (N := 9) (ci := 7) (v := .ref (ad 361)) hx hb hts hinX7 hown hK hP (S_mod ad cI cR).1 (S_mod ad cI cR).2 rfl 1 (by decide) (hts (.fieldLink RX7 13 "AdmissionControlModel" "aside" "[I") (List.mem_of_getElem? (i := 1) rfl)) (fun _ h9 => h9) rfl dX7_putAside_10 ?_
        refine lv_iload_n hx hb dX7_putAside_13 rfl (lv_at hl 1 rfl) ?_
        refine lv_aload_n hx hb dX7_putAside_14 rfl (lv_at hl 0 rfl) ?_
        refine w_get (C := RX7) (T := TX7) (N := 9) (ci := 7) (v := .ref (ad 360)) hx hb hts hinX7 hown hK hP (S_mod ad cI cR).1 (S_mod ad cI cR).2 rfl 0 (by decide) (hts (.fieldLink RX7 7 "AdmissionControlModel" "z" "[I") (List.mem_of_getElem? (i := 2) rfl)) (fun _ h9 => h9) rfl dX7_putAside_15 ?_
        refine lv_iload_n hx hb dX7_putAside_18 rfl (lv_at hl 1 rfl) ?_
        obtain ⟨hnb, hf⟩ := gd_e hf
        refine w_ald hx hb hK hP (S_z ad cI cR) hnb dX7_putAside_19 ?_
        obtain ⟨hnb, hf⟩ := gd_e hf
        obtain ⟨m8, em8, hf⟩ := bd_e hf
        refine w_ast hx hb hi hA hK hP hS (S_aside ad cI cR) hnb dX7_putAside_20 (fun H locs hP hS => ?_)
        rw [← em8] at hP
        obtain ⟨v9, ev9, hf⟩ := bd_e hf
        refine lv_iinc (v := v9) (lv' := [(1, .int v9), (0, .ref (ad 359))]) hx hb dX7_putAside_21 hl (k := 1) rfl (by rw [ev9]; rfl) (by decide) rfl (fun ls hl => ?_)
        refine lv_goto (tgt := 2) hx hb dX7_putAside_24 (by decide) ?_
        exact ih2 v9 m8 _ _ _ hf hP hS (lv_sub hl [1, 0] rfl)
  have hl := lv_entry ([.ref (ad 359)]) (n := 2) (Nat.le_of_ble_eq_true rfl)
  rw [lg_entry_eq]
  generalize (lg_sl ([.ref (ad 359)]) ++ List.replicate (2 - (lg_sl ([.ref (ad 359)])).length) Slot.unset).toArray = ls at hl ⊢
  have hl : lv_has ls 2 [(0, .ref (ad 359))] := hl
  unfold F_X7_putAside at hf
  refine lv_iconst (v := 0) hx hb dX7_putAside_0 (by decide) ?_
  refine lv_istore_n (lv' := [(1, .int 0), (0, .ref (ad 359))]) hx hb dX7_putAside_1 rfl hl (by decide) rfl (fun ls hl => ?_)
  exact hL2 fu 0 mm _ _ _ hf hP hS (lv_sub hl [1, 0] rfl)
def F_X7_putBack_L2 (fu : Nat)   : Nat → Int32 → Mem → Option (Mem)
  | 0, _, _ => none
  | n + 1, x1, mm => if 395 ≤ x1 then (some mm) else (gd (inb x1 395) (gd (inb x1 395) (bd (mput mm 360 x1.toNatClampNeg (mm 361 x1.toNatClampNeg)) fun m8 => bd (x1 + 1) fun v9 => F_X7_putBack_L2 fu  n v9 m8)))
def F_X7_putBack (fu : Nat)  (mm : Mem) : Option (Mem) := F_X7_putBack_L2 fu  fu 0 mm
set_option maxHeartbeats 4000000 in
set_option maxRecDepth 100000 in
theorem c_X7_putBack (l : Launch) (D : va_G) (ad : Nat → Nat) (cI cR : ClassId) (hi : inj ad) (fu : Nat)   (mm : Mem) (m9 : Mem) (hf : F_X7_putBack fu  mm = some m9) : MV l yX7_putBack wsX7_putBack { frames := 0, cells := 0, slots := 0, locals := 0 } D ad cI cR [.ref (ad 359)] mm m9 := by
  refine Met.ofW (cc := cX7_putBack) (maxL := 2) (ret := none) (by decide) rfl ?_
  intro p e s m args below meth c s₁ B hml hv
  obtain ⟨rfl, hP, hK, hN⟩ := hv
  have hx := B.exec
  have hb := B.bytes
  have hr := B.returns
  have hts := atoms_spec (ws := wsX7_putBack) B.pre
  have hown : s.vm.findClass RX7 = some m.cls := findClass_of_methodNamed B.named
  have hlocks := B.notSynchronized
  have hA : ∀ q, AA ad q → AA ad q := fun _ h => h
  have hS : va_S (AA ad) s.heap s.heap [] := va_S.rf
  have hinX7 : ∀ w ∈ wsX70, w ∈ wsX7_putBack := (fun _ h => List.mem_cons_of_mem _ (List.mem_append_right _ h))
  have hL2 : ∀ (n : Nat) (x1 : Int32)  (mm : Mem) (H : Heap) (locs : List Loc) (ls : Array Slot), F_X7_putBack_L2 fu   n x1 mm = some m9 → va_P D vwCl (cw ad cI cR mm) H → va_S (AA ad) s.heap H locs → lv_has ls 2 [(0, .ref (ad 359)), (1, .int x1)] → W p l e (headSpec wsX7_putBack { frames := 0, cells := 0, slots := 0, locals := 0 }).room s m ([.ref (ad 359)] : List Value).toArray below meth c H locs 0 0 (MQ below (va_Qv (fun (u : Mem) => u = m9) (KB D ad cI cR) (AA ad)) ([.ref (ad 359)] : List Value).toArray s 0 0 (AA ad)) (F0 m 2 ls []) := by
    intro n
    induction n with
    | zero =>
      intro x1 mm H locs ls hf hP hS hl
      rw [F_X7_putBack_L2] at hf
      cases hf
    | succ n2 ih2 =>
      intro x1 mm H locs ls hf hP hS hl
      rw [F_X7_putBack_L2] at hf
      refine lv_iload_n hx hb dX7_putBack_2 rfl (lv_at hl 1 rfl) ?_
      refine lv_sipush (v := 395) hx hb dX7_putBack_3 (by decide) ?_
      refine lv_icmp_ge (tgt := 27) hx hb dX7_putBack_6 (by decide) (fun c7 => ?_) (fun c7 => ?_)
      · rw [if_pos c7] at hf
        cases hf
        exact w_vret hx hb hr hlocks hP hS dX7_putBack_27
      · rw [if_neg c7] at hf
        refine lv_aload_n hx hb dX7_putBack_9 rfl (lv_at hl 0 rfl) ?_
        refine w_get (C := RX7) (T := TX7) (N := 9) (ci := 7) (v := .ref (ad 360)) hx hb hts hinX7 hown hK hP (S_mod ad cI cR).1 (S_mod ad cI cR).2 rfl 0 (by decide) (hts (.fieldLink RX7 7 "AdmissionControlModel" "z" "[I") (List.mem_of_getElem? (i := 1) rfl)) (fun _ h9 => h9) rfl dX7_putBack_10 ?_
        refine lv_iload_n hx hb dX7_putBack_13 rfl (lv_at hl 1 rfl) ?_
        refine lv_aload_n hx hb dX7_putBack_14 rfl (lv_at hl 0 rfl) ?_
        refine w_get (C := RX7) (T := TX7) (N := 9) (ci := 7) (v := .ref (ad 361)) hx hb hts hinX7 hown hK hP (S_mod ad cI cR).1 (S_mod ad cI cR).2 rfl 1 (by decide) (hts (.fieldLink RX7 13 "AdmissionControlModel" "aside" "[I") (List.mem_of_getElem? (i := 2) rfl)) (fun _ h9 => h9) rfl dX7_putBack_15 ?_
        refine lv_iload_n hx hb dX7_putBack_18 rfl (lv_at hl 1 rfl) ?_
        obtain ⟨hnb, hf⟩ := gd_e hf
        refine w_ald hx hb hK hP (S_aside ad cI cR) hnb dX7_putBack_19 ?_
        obtain ⟨hnb, hf⟩ := gd_e hf
        obtain ⟨m8, em8, hf⟩ := bd_e hf
        refine w_ast hx hb hi hA hK hP hS (S_z ad cI cR) hnb dX7_putBack_20 (fun H locs hP hS => ?_)
        rw [← em8] at hP
        obtain ⟨v9, ev9, hf⟩ := bd_e hf
        refine lv_iinc (v := v9) (lv' := [(1, .int v9), (0, .ref (ad 359))]) hx hb dX7_putBack_21 hl (k := 1) rfl (by rw [ev9]; rfl) (by decide) rfl (fun ls hl => ?_)
        refine lv_goto (tgt := 2) hx hb dX7_putBack_24 (by decide) ?_
        exact ih2 v9 m8 _ _ _ hf hP hS (lv_sub hl [1, 0] rfl)
  have hl := lv_entry ([.ref (ad 359)]) (n := 2) (Nat.le_of_ble_eq_true rfl)
  rw [lg_entry_eq]
  generalize (lg_sl ([.ref (ad 359)]) ++ List.replicate (2 - (lg_sl ([.ref (ad 359)])).length) Slot.unset).toArray = ls at hl ⊢
  have hl : lv_has ls 2 [(0, .ref (ad 359))] := hl
  unfold F_X7_putBack at hf
  refine lv_iconst (v := 0) hx hb dX7_putBack_0 (by decide) ?_
  refine lv_istore_n (lv' := [(1, .int 0), (0, .ref (ad 359))]) hx hb dX7_putBack_1 rfl hl (by decide) rfl (fun ls hl => ?_)
  exact hL2 fu 0 mm _ _ _ hf hP hS (lv_sub hl [1, 0] rfl)
def F_X7_expectedCost (fu : Nat) (a1 : Int32) (mm : Mem) : Option (Int32 × Mem) := bd (70 + a1) fun v4 => gd (inb v4 395) (bd ((mm 360 v4.toNatClampNeg) / 16) fun v5 => if 1 ≤ v5 then (some (v5, mm)) else (some (1, mm)))
set_option maxHeartbeats 4000000 in
set_option maxRecDepth 100000 in
theorem c_X7_expectedCost (l : Launch) (D : va_G) (ad : Nat → Nat) (cI cR : ClassId) (hi : inj ad) (fu : Nat) (a1 : Int32)  (mm : Mem) (r0 : Int32) (m9 : Mem) (hf : F_X7_expectedCost fu a1 mm = some (r0, m9)) : MI l yX7_expectedCost wsX7_expectedCost { frames := 0, cells := 0, slots := 0, locals := 0 } D ad cI cR [.ref (ad 359), .int a1] mm r0 m9 := by
  refine Met.ofW (cc := cX7_expectedCost) (maxL := 3) (ret := (some .int)) (by decide) rfl ?_
  intro p e s m args below meth c s₁ B hml hv
  obtain ⟨rfl, hP, hK, hN⟩ := hv
  have hx := B.exec
  have hb := B.bytes
  have hr := B.returns
  have hts := atoms_spec (ws := wsX7_expectedCost) B.pre
  have hown : s.vm.findClass RX7 = some m.cls := findClass_of_methodNamed B.named
  have hlocks := B.notSynchronized
  have hA : ∀ q, AA ad q → AA ad q := fun _ h => h
  have hS : va_S (AA ad) s.heap s.heap [] := va_S.rf
  have hinX7 : ∀ w ∈ wsX70, w ∈ wsX7_expectedCost := (fun _ h => List.mem_cons_of_mem _ (List.mem_append_right _ h))
  have hl := lv_entry ([.ref (ad 359), .int a1]) (n := 3) (Nat.le_of_ble_eq_true rfl)
  rw [lg_entry_eq]
  generalize (lg_sl ([.ref (ad 359), .int a1]) ++ List.replicate (3 - (lg_sl ([.ref (ad 359), .int a1])).length) Slot.unset).toArray = ls at hl ⊢
  have hl : lv_has ls 3 [(0, .ref (ad 359)), (1, .int a1)] := hl
  unfold F_X7_expectedCost at hf
  refine lv_aload_n hx hb dX7_expectedCost_0 rfl (lv_at hl 0 rfl) ?_
  refine w_get (C := RX7) (T := TX7) (N := 9) (ci := 7) (v := .ref (ad 360)) hx hb hts hinX7 hown hK hP (S_mod ad cI cR).1 (S_mod ad cI cR).2 rfl 0 (by decide) (hts (.fieldLink RX7 7 "AdmissionControlModel" "z" "[I") (List.mem_of_getElem? (i := 1) rfl)) (fun _ h9 => h9) rfl dX7_expectedCost_1 ?_
  refine lv_bipush (v := 70) hx hb dX7_expectedCost_4 (by decide) ?_
  refine lv_iload_n hx hb dX7_expectedCost_6 rfl (lv_at hl 1 rfl) ?_
  obtain ⟨v4, ev4, hf⟩ := bd_e hf
  refine lv_iadd hx hb dX7_expectedCost_7 ?_
  refine w_top ev4 ?_
  obtain ⟨hnb, hf⟩ := gd_e hf
  refine w_ald hx hb hK hP (S_z ad cI cR) hnb dX7_expectedCost_8 ?_
  refine lv_bipush (v := 16) hx hb dX7_expectedCost_9 (by decide) ?_
  obtain ⟨v5, ev5, hf⟩ := bd_e hf
  refine lv_idiv hx hb dX7_expectedCost_11 (by decide) ?_
  refine w_top ev5 ?_
  refine lv_istore_n (lv' := [(2, .int v5), (0, .ref (ad 359)), (1, .int a1)]) hx hb dX7_expectedCost_12 rfl hl (by decide) rfl (fun ls hl => ?_)
  refine lv_iload_n hx hb dX7_expectedCost_13 rfl (lv_at hl 0 rfl) ?_
  refine lv_iconst (v := 1) hx hb dX7_expectedCost_14 (by decide) ?_
  refine lv_icmp_ge (tgt := 22) hx hb dX7_expectedCost_15 (by decide) (fun c6 => ?_) (fun c6 => ?_)
  · rw [if_pos c6] at hf
    refine lv_iload_n hx hb dX7_expectedCost_22 rfl (lv_at hl 0 rfl) ?_
    cases hf
    exact w_iret hx hb hr hlocks hP hS dX7_expectedCost_23
  · rw [if_neg c6] at hf
    refine lv_iconst (v := 1) hx hb dX7_expectedCost_18 (by decide) ?_
    refine lv_goto (tgt := 23) hx hb dX7_expectedCost_19 (by decide) ?_
    cases hf
    exact w_iret hx hb hr hlocks hP hS dX7_expectedCost_23
def F_X7_backlogOf_L4 (fu : Nat) (a1 : Int32)  : Nat → Int32 → Int32 → Mem → Option (Int32 × Mem)
  | 0, _, _, _ => none
  | n + 1, x2, x3, mm => bd (25 + a1) fun v33 => gd (inb v33 395) (if (mm 360 v33.toNatClampNeg) ≤ x3 then (some (x2, mm)) else (ob (F_X7_inQueue fu a1 x3 mm) fun r35 m36 => ob (F_X7_of fu r35 4 m36) fun r37 m38 => ob (F_X7_inQueue fu a1 x3 m38) fun r39 m40 => ob (F_X7_of fu r39 5 m40) fun r41 m42 => bd (r37 - r41) fun v43 => if 1 ≤ v43 then (bd (x2 + v43) fun v45 => bd (x3 + 1) fun v46 => F_X7_backlogOf_L4 fu a1 n v45 v46 m42) else (bd (x2 + 1) fun v47 => bd (x3 + 1) fun v48 => F_X7_backlogOf_L4 fu a1 n v47 v48 m42)))
def F_X7_backlogOf (fu : Nat) (a1 : Int32) (mm : Mem) : Option (Int32 × Mem) := F_X7_backlogOf_L4 fu a1 fu 0 0 mm
set_option maxHeartbeats 4000000 in
set_option maxRecDepth 100000 in
theorem c_X7_backlogOf (l : Launch) (D : va_G) (ad : Nat → Nat) (cI cR : ClassId) (hi : inj ad) (fu : Nat) (a1 : Int32)  (mm : Mem) (r0 : Int32) (m9 : Mem) (hf : F_X7_backlogOf fu a1 mm = some (r0, m9)) : MI l yX7_backlogOf wsX7_backlogOf { frames := 1, cells := 0, slots := 0, locals := 22 } D ad cI cR [.ref (ad 359), .int a1] mm r0 m9 := by
  refine Met.ofW (cc := cX7_backlogOf) (maxL := 5) (ret := (some .int)) (by decide) rfl ?_
  intro p e s m args below meth c s₁ B hml hv
  obtain ⟨rfl, hP, hK, hN⟩ := hv
  have hx := B.exec
  have hb := B.bytes
  have hr := B.returns
  have hts := atoms_spec (ws := wsX7_backlogOf) B.pre
  have hown : s.vm.findClass RX7 = some m.cls := findClass_of_methodNamed B.named
  have hlocks := B.notSynchronized
  have hA : ∀ q, AA ad q → AA ad q := fun _ h => h
  have hS : va_S (AA ad) s.heap s.heap [] := va_S.rf
  have hinX7 : ∀ w ∈ wsX70, w ∈ wsX7_backlogOf := (fun _ h => List.mem_cons_of_mem _ (List.mem_append_right _ h))
  have hL4 : ∀ (n : Nat) (x2 : Int32) (x3 : Int32)  (mm : Mem) (H : Heap) (locs : List Loc) (ls : Array Slot), F_X7_backlogOf_L4 fu a1  n x2 x3 mm = some (r0, m9) → va_P D vwCl (cw ad cI cR mm) H → va_S (AA ad) s.heap H locs → lv_has ls 5 [(0, .ref (ad 359)), (1, .int a1), (2, .int x2), (3, .int x3)] → W p l e (headSpec wsX7_backlogOf { frames := 1, cells := 0, slots := 0, locals := 22 }).room s m ([.ref (ad 359), .int a1] : List Value).toArray below meth c H locs 0 0 (MQ below (va_Qi (fun (r' : Int32) (u : Mem) => r' = r0 ∧ u = m9) (KB D ad cI cR) (AA ad)) ([.ref (ad 359), .int a1] : List Value).toArray s 0 0 (AA ad)) (F0 m 4 ls []) := by
    intro n
    induction n with
    | zero =>
      intro x2 x3 mm H locs ls hf hP hS hl
      rw [F_X7_backlogOf_L4] at hf
      cases hf
    | succ n4 ih4 =>
      intro x2 x3 mm H locs ls hf hP hS hl
      rw [F_X7_backlogOf_L4] at hf
      refine lv_iload_n hx hb dX7_backlogOf_4 rfl (lv_at hl 3 rfl) ?_
      refine lv_aload_n hx hb dX7_backlogOf_5 rfl (lv_at hl 0 rfl) ?_
      refine w_get (C := RX7) (T := TX7) (N := 9) (ci := 7) (v := .ref (ad 360)) hx hb hts hinX7 hown hK hP (S_mod ad cI cR).1 (S_mod ad cI cR).2 rfl 0 (by decide) (hts (.fieldLink RX7 7 "AdmissionControlModel" "z" "[I") (List.mem_of_getElem? (i := 1) rfl)) (fun _ h9 => h9) rfl dX7_backlogOf_6 ?_
      refine lv_bipush (v := 25) hx hb dX7_backlogOf_9 (by decide) ?_
      refine lv_iload_n hx hb dX7_backlogOf_11 rfl (lv_at hl 1 rfl) ?_
      obtain ⟨v33, ev33, hf⟩ := bd_e hf
      refine lv_iadd hx hb dX7_backlogOf_12 ?_
      refine w_top ev33 ?_
      obtain ⟨hnb, hf⟩ := gd_e hf
      refine w_ald hx hb hK hP (S_z ad cI cR) hnb dX7_backlogOf_13 ?_
      refine lv_icmp_ge (tgt := 63) hx hb dX7_backlogOf_14 (by decide) (fun c34 => ?_) (fun c34 => ?_)
      · rw [if_pos c34] at hf
        refine lv_iload_n hx hb dX7_backlogOf_63 rfl (lv_at hl 2 rfl) ?_
        cases hf
        exact w_iret hx hb hr hlocks hP hS dX7_backlogOf_64
      · rw [if_neg c34] at hf
        refine lv_aload_n hx hb dX7_backlogOf_17 rfl (lv_at hl 0 rfl) ?_
        refine lv_aload_n hx hb dX7_backlogOf_18 rfl (lv_at hl 0 rfl) ?_
        refine lv_iload_n hx hb dX7_backlogOf_19 rfl (lv_at hl 1 rfl) ?_
        refine lv_iload_n hx hb dX7_backlogOf_20 rfl (lv_at hl 3 rfl) ?_
        obtain ⟨r35, m36, hq, hf⟩ := ob_e hf
        refine w_ci (va_runV (As := [.int a1, .int x3]) (rest := [.ref (ad 359)]) ⟨hx, hb, hml, hown, hts⟩ (c_X7_inQueue l D ad cI cR hi fu a1 x3 mm r35 m36 hq) (cwV 2 hts gX7_backlogOf_X7_inQueue rfl rfl rfl (by decide +kernel) ⟨Nat.le_of_ble_eq_true rfl, Nat.le_of_ble_eq_true rfl⟩) (w_preV (ci := 7) hK hP hN (S_mod ad cI cR).1 (S_mod ad cI cR).2 rfl) rfl rfl hl.1 rfl (lv_room (Nat.le_of_ble_eq_true rfl)) dX7_backlogOf_21 ⟨Nat.zero_le _, Nat.zero_le _⟩) hA hS (fun H locs hP hS => ?_)
        refine lv_iconst (v := 4) hx hb dX7_backlogOf_24 (by decide) ?_
        obtain ⟨r37, m38, hq, hf⟩ := ob_e hf
        refine w_ci (va_runV (As := [.int r35, .int 4]) (rest := []) ⟨hx, hb, hml, hown, hts⟩ (c_X7_of l D ad cI cR hi fu r35 4 m36 r37 m38 hq) (cwV 2 hts gX7_backlogOf_X7_of rfl rfl rfl (by decide +kernel) ⟨Nat.le_of_ble_eq_true rfl, Nat.le_of_ble_eq_true rfl⟩) (w_preV (ci := 7) hK hP hN (S_mod ad cI cR).1 (S_mod ad cI cR).2 rfl) rfl rfl hl.1 rfl (lv_room (Nat.le_of_ble_eq_true rfl)) dX7_backlogOf_25 ⟨Nat.zero_le _, Nat.zero_le _⟩) hA hS (fun H locs hP hS => ?_)
        refine lv_aload_n hx hb dX7_backlogOf_28 rfl (lv_at hl 0 rfl) ?_
        refine lv_aload_n hx hb dX7_backlogOf_29 rfl (lv_at hl 0 rfl) ?_
        refine lv_iload_n hx hb dX7_backlogOf_30 rfl (lv_at hl 1 rfl) ?_
        refine lv_iload_n hx hb dX7_backlogOf_31 rfl (lv_at hl 3 rfl) ?_
        obtain ⟨r39, m40, hq, hf⟩ := ob_e hf
        refine w_ci (va_runV (As := [.int a1, .int x3]) (rest := [.ref (ad 359), .int r37]) ⟨hx, hb, hml, hown, hts⟩ (c_X7_inQueue l D ad cI cR hi fu a1 x3 m38 r39 m40 hq) (cwV 2 hts gX7_backlogOf_X7_inQueue rfl rfl rfl (by decide +kernel) ⟨Nat.le_of_ble_eq_true rfl, Nat.le_of_ble_eq_true rfl⟩) (w_preV (ci := 7) hK hP hN (S_mod ad cI cR).1 (S_mod ad cI cR).2 rfl) rfl rfl hl.1 rfl (lv_room (Nat.le_of_ble_eq_true rfl)) dX7_backlogOf_32 ⟨Nat.zero_le _, Nat.zero_le _⟩) hA hS (fun H locs hP hS => ?_)
        refine lv_iconst (v := 5) hx hb dX7_backlogOf_35 (by decide) ?_
        obtain ⟨r41, m42, hq, hf⟩ := ob_e hf
        refine w_ci (va_runV (As := [.int r39, .int 5]) (rest := [.int r37]) ⟨hx, hb, hml, hown, hts⟩ (c_X7_of l D ad cI cR hi fu r39 5 m40 r41 m42 hq) (cwV 2 hts gX7_backlogOf_X7_of rfl rfl rfl (by decide +kernel) ⟨Nat.le_of_ble_eq_true rfl, Nat.le_of_ble_eq_true rfl⟩) (w_preV (ci := 7) hK hP hN (S_mod ad cI cR).1 (S_mod ad cI cR).2 rfl) rfl rfl hl.1 rfl (lv_room (Nat.le_of_ble_eq_true rfl)) dX7_backlogOf_36 ⟨Nat.zero_le _, Nat.zero_le _⟩) hA hS (fun H locs hP hS => ?_)
        obtain ⟨v43, ev43, hf⟩ := bd_e hf
        refine lv_isub hx hb dX7_backlogOf_39 ?_
        refine w_top ev43 ?_
        refine lv_istore (lv' := [(4, .int v43), (0, .ref (ad 359)), (1, .int a1), (2, .int x2), (3, .int x3)]) hx hb dX7_backlogOf_40 hl (by decide) rfl (fun ls hl => ?_)
        refine lv_iload_n hx hb dX7_backlogOf_42 rfl (lv_at hl 3 rfl) ?_
        refine lv_iload hx hb dX7_backlogOf_43 (lv_at hl 0 rfl) ?_
        refine lv_iconst (v := 1) hx hb dX7_backlogOf_45 (by decide) ?_
        refine lv_icmp_ge (tgt := 53) hx hb dX7_backlogOf_46 (by decide) (fun c44 => ?_) (fun c44 => ?_)
        · rw [if_pos c44] at hf
          refine lv_iload hx hb dX7_backlogOf_53 (lv_at hl 0 rfl) ?_
          obtain ⟨v45, ev45, hf⟩ := bd_e hf
          refine lv_iadd hx hb dX7_backlogOf_55 ?_
          refine w_top ev45 ?_
          refine lv_istore_n (lv' := [(2, .int v45), (4, .int v43), (0, .ref (ad 359)), (1, .int a1), (3, .int x3)]) hx hb dX7_backlogOf_56 rfl hl (by decide) rfl (fun ls hl => ?_)
          obtain ⟨v46, ev46, hf⟩ := bd_e hf
          refine lv_iinc (v := v46) (lv' := [(3, .int v46), (2, .int v45), (4, .int v43), (0, .ref (ad 359)), (1, .int a1)]) hx hb dX7_backlogOf_57 hl (k := 4) rfl (by rw [ev46]; rfl) (by decide) rfl (fun ls hl => ?_)
          refine lv_goto (tgt := 4) hx hb dX7_backlogOf_60 (by decide) ?_
          exact ih4 v45 v46 m42 _ _ _ hf hP hS (lv_sub hl [3, 4, 1, 0] rfl)
        · rw [if_neg c44] at hf
          refine lv_iconst (v := 1) hx hb dX7_backlogOf_49 (by decide) ?_
          refine lv_goto (tgt := 55) hx hb dX7_backlogOf_50 (by decide) ?_
          obtain ⟨v47, ev47, hf⟩ := bd_e hf
          refine lv_iadd hx hb dX7_backlogOf_55 ?_
          refine w_top ev47 ?_
          refine lv_istore_n (lv' := [(2, .int v47), (4, .int v43), (0, .ref (ad 359)), (1, .int a1), (3, .int x3)]) hx hb dX7_backlogOf_56 rfl hl (by decide) rfl (fun ls hl => ?_)
          obtain ⟨v48, ev48, hf⟩ := bd_e hf
          refine lv_iinc (v := v48) (lv' := [(3, .int v48), (2, .int v47), (4, .int v43), (0, .ref (ad 359)), (1, .int a1)]) hx hb dX7_backlogOf_57 hl (k := 4) rfl (by rw [ev48]; rfl) (by decide) rfl (fun ls hl => ?_)
          refine lv_goto (tgt := 4) hx hb dX7_backlogOf_60 (by decide) ?_
          exact ih4 v47 v48 m42 _ _ _ hf hP hS (lv_sub hl [3, 4, 1, 0] rfl)
  have hl := lv_entry ([.ref (ad 359), .int a1]) (n := 5) (Nat.le_of_ble_eq_true rfl)
  rw [lg_entry_eq]
  generalize (lg_sl ([.ref (ad 359), .int a1]) ++ List.replicate (5 - (lg_sl ([.ref (ad 359), .int a1])).length) Slot.unset).toArray = ls at hl ⊢
  have hl : lv_has ls 5 [(0, .ref (ad 359)), (1, .int a1)] := hl
  unfold F_X7_backlogOf at hf
  refine lv_iconst (v := 0) hx hb dX7_backlogOf_0 (by decide) ?_
  refine lv_istore_n (lv' := [(2, .int 0), (0, .ref (ad 359)), (1, .int a1)]) hx hb dX7_backlogOf_1 rfl hl (by decide) rfl (fun ls hl => ?_)
  refine lv_iconst (v := 0) hx hb dX7_backlogOf_2 (by decide) ?_
  refine lv_istore_n (lv' := [(3, .int 0), (2, .int 0), (0, .ref (ad 359)), (1, .int a1)]) hx hb dX7_backlogOf_3 rfl hl (by decide) rfl (fun ls hl => ?_)
  exact hL4 fu 0 0 mm _ _ _ hf hP hS (lv_sub hl [2, 3, 1, 0] rfl)
def F_X7_whyRefused (fu : Nat) (a1 : Int32) (a2 : Int32) (mm : Mem) : Option (Int32 × Mem) := ob (F_X7_ofClass fu a1 3 mm) fun r25 m26 => if a2 ≤ r25 then (bd (25 + a1) fun v28 => gd (inb v28 395) (if (m26 360 v28.toNatClampNeg) = 8 then (some (2, m26)) else (ob (F_X7_ofClass fu 0 0 m26) fun r30 m31 => ob (F_X7_ofClass fu 1 0 m31) fun r32 m33 => bd (r30 + r32) fun v34 => ob (F_X7_ofClass fu 2 0 m33) fun r35 m36 => bd (v34 + r35) fun v37 => ob (F_X7_backlogOf fu a1 m36) fun r38 m39 => bd (r38 + a2) fun v40 => bd (v40 * v37) fun v41 => ob (F_X7_ofClass fu a1 0 m39) fun r42 m43 => gd (inb 0 395) (bd (r42 * (m43 360 (0 : Int32).toNatClampNeg)) fun v44 => gd (nz v44) (bd (v41 / v44) fun v45 => gd (inb 1 395) (if v45 ≤ (m43 360 (1 : Int32).toNatClampNeg) then (bd (16 + a1) fun v47 => gd (inb v47 395) (if a2 ≤ (m43 360 v47.toNatClampNeg) then (some (0, m43)) else (some (4, m43)))) else (some (3, m43)))))))) else (some (1, m26))
set_option maxHeartbeats 4000000 in
set_option maxRecDepth 100000 in
theorem c_X7_whyRefused (l : Launch) (D : va_G) (ad : Nat → Nat) (cI cR : ClassId) (hi : inj ad) (fu : Nat) (a1 : Int32) (a2 : Int32)  (mm : Mem) (r0 : Int32) (m9 : Mem) (hf : F_X7_whyRefused fu a1 a2 mm = some (r0, m9)) : MI l yX7_whyRefused wsX7_whyRefused { frames := 2, cells := 0, slots := 0, locals := 46 } D ad cI cR [.ref (ad 359), .int a1, .int a2] mm r0 m9 := by
  refine Met.ofW (cc := cX7_whyRefused) (maxL := 5) (ret := (some .int)) (by decide) rfl ?_
  intro p e s m args below meth c s₁ B hml hv
  obtain ⟨rfl, hP, hK, hN⟩ := hv
  have hx := B.exec
  have hb := B.bytes
  have hr := B.returns
  have hts := atoms_spec (ws := wsX7_whyRefused) B.pre
  have hown : s.vm.findClass RX7 = some m.cls := findClass_of_methodNamed B.named
  have hlocks := B.notSynchronized
  have hA : ∀ q, AA ad q → AA ad q := fun _ h => h
  have hS : va_S (AA ad) s.heap s.heap [] := va_S.rf
  have hinX7 : ∀ w ∈ wsX70, w ∈ wsX7_whyRefused := (fun _ h => List.mem_cons_of_mem _ (List.mem_append_right _ h))
  have hl := lv_entry ([.ref (ad 359), .int a1, .int a2]) (n := 5) (Nat.le_of_ble_eq_true rfl)
  rw [lg_entry_eq]
  generalize (lg_sl ([.ref (ad 359), .int a1, .int a2]) ++ List.replicate (5 - (lg_sl ([.ref (ad 359), .int a1, .int a2])).length) Slot.unset).toArray = ls at hl ⊢
  have hl : lv_has ls 5 [(0, .ref (ad 359)), (1, .int a1), (2, .int a2)] := hl
  unfold F_X7_whyRefused at hf
  refine lv_iload_n hx hb dX7_whyRefused_0 rfl (lv_at hl 2 rfl) ?_
  refine lv_aload_n hx hb dX7_whyRefused_1 rfl (lv_at hl 0 rfl) ?_
  refine lv_iload_n hx hb dX7_whyRefused_2 rfl (lv_at hl 1 rfl) ?_
  refine lv_iconst (v := 3) hx hb dX7_whyRefused_3 (by decide) ?_
  obtain ⟨r25, m26, hq, hf⟩ := ob_e hf
  refine w_ci (va_runV (As := [.int a1, .int 3]) (rest := [.int a2]) ⟨hx, hb, hml, hown, hts⟩ (c_X7_ofClass l D ad cI cR hi fu a1 3 mm r25 m26 hq) (cwV 2 hts gX7_whyRefused_X7_ofClass rfl rfl rfl (by decide +kernel) ⟨Nat.le_of_ble_eq_true rfl, Nat.le_of_ble_eq_true rfl⟩) (w_preV (ci := 7) hK hP hN (S_mod ad cI cR).1 (S_mod ad cI cR).2 rfl) rfl rfl hl.1 rfl (lv_room (Nat.le_of_ble_eq_true rfl)) dX7_whyRefused_4 ⟨Nat.zero_le _, Nat.zero_le _⟩) hA hS (fun H locs hP hS => ?_)
  refine lv_icmp_le (tgt := 12) hx hb dX7_whyRefused_7 (by decide) (fun c27 => ?_) (fun c27 => ?_)
  · rw [if_pos c27] at hf
    refine lv_aload_n hx hb dX7_whyRefused_12 rfl (lv_at hl 0 rfl) ?_
    refine w_get (C := RX7) (T := TX7) (N := 9) (ci := 7) (v := .ref (ad 360)) hx hb hts hinX7 hown hK hP (S_mod ad cI cR).1 (S_mod ad cI cR).2 rfl 0 (by decide) (hts (.fieldLink RX7 7 "AdmissionControlModel" "z" "[I") (List.mem_of_getElem? (i := 1) rfl)) (fun _ h9 => h9) rfl dX7_whyRefused_13 ?_
    refine lv_bipush (v := 25) hx hb dX7_whyRefused_16 (by decide) ?_
    refine lv_iload_n hx hb dX7_whyRefused_18 rfl (lv_at hl 1 rfl) ?_
    obtain ⟨v28, ev28, hf⟩ := bd_e hf
    refine lv_iadd hx hb dX7_whyRefused_19 ?_
    refine w_top ev28 ?_
    obtain ⟨hnb, hf⟩ := gd_e hf
    refine w_ald hx hb hK hP (S_z ad cI cR) hnb dX7_whyRefused_20 ?_
    refine lv_bipush (v := 8) hx hb dX7_whyRefused_21 (by decide) ?_
    refine lv_icmp_ne (tgt := 28) hx hb dX7_whyRefused_23 (by decide) (fun c29 => ?_) (fun c29 => ?_)
    · rw [if_neg c29] at hf
      refine lv_aload_n hx hb dX7_whyRefused_28 rfl (lv_at hl 0 rfl) ?_
      refine lv_iconst (v := 0) hx hb dX7_whyRefused_29 (by decide) ?_
      refine lv_iconst (v := 0) hx hb dX7_whyRefused_30 (by decide) ?_
      obtain ⟨r30, m31, hq, hf⟩ := ob_e hf
      refine w_ci (va_runV (As := [.int 0, .int 0]) (rest := []) ⟨hx, hb, hml, hown, hts⟩ (c_X7_ofClass l D ad cI cR hi fu 0 0 m26 r30 m31 hq) (cwV 2 hts gX7_whyRefused_X7_ofClass rfl rfl rfl (by decide +kernel) ⟨Nat.le_of_ble_eq_true rfl, Nat.le_of_ble_eq_true rfl⟩) (w_preV (ci := 7) hK hP hN (S_mod ad cI cR).1 (S_mod ad cI cR).2 rfl) rfl rfl hl.1 rfl (lv_room (Nat.le_of_ble_eq_true rfl)) dX7_whyRefused_31 ⟨Nat.zero_le _, Nat.zero_le _⟩) hA hS (fun H locs hP hS => ?_)
      refine lv_aload_n hx hb dX7_whyRefused_34 rfl (lv_at hl 0 rfl) ?_
      refine lv_iconst (v := 1) hx hb dX7_whyRefused_35 (by decide) ?_
      refine lv_iconst (v := 0) hx hb dX7_whyRefused_36 (by decide) ?_
      obtain ⟨r32, m33, hq, hf⟩ := ob_e hf
      refine w_ci (va_runV (As := [.int 1, .int 0]) (rest := [.int r30]) ⟨hx, hb, hml, hown, hts⟩ (c_X7_ofClass l D ad cI cR hi fu 1 0 m31 r32 m33 hq) (cwV 2 hts gX7_whyRefused_X7_ofClass rfl rfl rfl (by decide +kernel) ⟨Nat.le_of_ble_eq_true rfl, Nat.le_of_ble_eq_true rfl⟩) (w_preV (ci := 7) hK hP hN (S_mod ad cI cR).1 (S_mod ad cI cR).2 rfl) rfl rfl hl.1 rfl (lv_room (Nat.le_of_ble_eq_true rfl)) dX7_whyRefused_37 ⟨Nat.zero_le _, Nat.zero_le _⟩) hA hS (fun H locs hP hS => ?_)
      obtain ⟨v34, ev34, hf⟩ := bd_e hf
      refine lv_iadd hx hb dX7_whyRefused_40 ?_
      refine w_top ev34 ?_
      refine lv_aload_n hx hb dX7_whyRefused_41 rfl (lv_at hl 0 rfl) ?_
      refine lv_iconst (v := 2) hx hb dX7_whyRefused_42 (by decide) ?_
      refine lv_iconst (v := 0) hx hb dX7_whyRefused_43 (by decide) ?_
      obtain ⟨r35, m36, hq, hf⟩ := ob_e hf
      refine w_ci (va_runV (As := [.int 2, .int 0]) (rest := [.int v34]) ⟨hx, hb, hml, hown, hts⟩ (c_X7_ofClass l D ad cI cR hi fu 2 0 m33 r35 m36 hq) (cwV 2 hts gX7_whyRefused_X7_ofClass rfl rfl rfl (by decide +kernel) ⟨Nat.le_of_ble_eq_true rfl, Nat.le_of_ble_eq_true rfl⟩) (w_preV (ci := 7) hK hP hN (S_mod ad cI cR).1 (S_mod ad cI cR).2 rfl) rfl rfl hl.1 rfl (lv_room (Nat.le_of_ble_eq_true rfl)) dX7_whyRefused_44 ⟨Nat.zero_le _, Nat.zero_le _⟩) hA hS (fun H locs hP hS => ?_)
      obtain ⟨v37, ev37, hf⟩ := bd_e hf
      refine lv_iadd hx hb dX7_whyRefused_47 ?_
      refine w_top ev37 ?_
      refine lv_istore_n (lv' := [(3, .int v37), (0, .ref (ad 359)), (1, .int a1), (2, .int a2)]) hx hb dX7_whyRefused_48 rfl hl (by decide) rfl (fun ls hl => ?_)
      refine lv_aload_n hx hb dX7_whyRefused_49 rfl (lv_at hl 1 rfl) ?_
      refine lv_iload_n hx hb dX7_whyRefused_50 rfl (lv_at hl 2 rfl) ?_
      obtain ⟨r38, m39, hq, hf⟩ := ob_e hf
      refine w_ci (va_runV (As := [.int a1]) (rest := []) ⟨hx, hb, hml, hown, hts⟩ (c_X7_backlogOf l D ad cI cR hi fu a1 m36 r38 m39 hq) (cwV 1 hts gX7_whyRefused_X7_backlogOf rfl rfl rfl (by decide +kernel) ⟨Nat.le_of_ble_eq_true rfl, Nat.le_of_ble_eq_true rfl⟩) (w_preV (ci := 7) hK hP hN (S_mod ad cI cR).1 (S_mod ad cI cR).2 rfl) rfl rfl hl.1 rfl (lv_room (Nat.le_of_ble_eq_true rfl)) dX7_whyRefused_51 ⟨Nat.zero_le _, Nat.zero_le _⟩) hA hS (fun H locs hP hS => ?_)
      refine lv_iload_n hx hb dX7_whyRefused_54 rfl (lv_at hl 3 rfl) ?_
      obtain ⟨v40, ev40, hf⟩ := bd_e hf
      refine lv_iadd hx hb dX7_whyRefused_55 ?_
      refine w_top ev40 ?_
      refine lv_iload_n hx hb dX7_whyRefused_56 rfl (lv_at hl 0 rfl) ?_
      obtain ⟨v41, ev41, hf⟩ := bd_e hf
      refine lv_imul hx hb dX7_whyRefused_57 ?_
      refine w_top ev41 ?_
      refine lv_aload_n hx hb dX7_whyRefused_58 rfl (lv_at hl 1 rfl) ?_
      refine lv_iload_n hx hb dX7_whyRefused_59 rfl (lv_at hl 2 rfl) ?_
      refine lv_iconst (v := 0) hx hb dX7_whyRefused_60 (by decide) ?_
      obtain ⟨r42, m43, hq, hf⟩ := ob_e hf
      refine w_ci (va_runV (As := [.int a1, .int 0]) (rest := [.int v41]) ⟨hx, hb, hml, hown, hts⟩ (c_X7_ofClass l D ad cI cR hi fu a1 0 m39 r42 m43 hq) (cwV 2 hts gX7_whyRefused_X7_ofClass rfl rfl rfl (by decide +kernel) ⟨Nat.le_of_ble_eq_true rfl, Nat.le_of_ble_eq_true rfl⟩) (w_preV (ci := 7) hK hP hN (S_mod ad cI cR).1 (S_mod ad cI cR).2 rfl) rfl rfl hl.1 rfl (lv_room (Nat.le_of_ble_eq_true rfl)) dX7_whyRefused_61 ⟨Nat.zero_le _, Nat.zero_le _⟩) hA hS (fun H locs hP hS => ?_)
      refine lv_aload_n hx hb dX7_whyRefused_64 rfl (lv_at hl 1 rfl) ?_
      refine w_get (C := RX7) (T := TX7) (N := 9) (ci := 7) (v := .ref (ad 360)) hx hb hts hinX7 hown hK hP (S_mod ad cI cR).1 (S_mod ad cI cR).2 rfl 0 (by decide) (hts (.fieldLink RX7 7 "AdmissionControlModel" "z" "[I") (List.mem_of_getElem? (i := 1) rfl)) (fun _ h9 => h9) rfl dX7_whyRefused_65 ?_
      refine lv_iconst (v := 0) hx hb dX7_whyRefused_68 (by decide) ?_
      obtain ⟨hnb, hf⟩ := gd_e hf
      refine w_ald hx hb hK hP (S_z ad cI cR) hnb dX7_whyRefused_69 ?_
      obtain ⟨v44, ev44, hf⟩ := bd_e hf
      refine lv_imul hx hb dX7_whyRefused_70 ?_
      refine w_top ev44 ?_
      obtain ⟨hnz, hf⟩ := gd_e hf
      obtain ⟨v45, ev45, hf⟩ := bd_e hf
      refine lv_idiv hx hb dX7_whyRefused_71 (nz_ne hnz) ?_
      refine w_top ev45 ?_
      refine lv_istore (lv' := [(4, .int v45), (3, .int v37), (0, .ref (ad 359)), (1, .int a1), (2, .int a2)]) hx hb dX7_whyRefused_72 hl (by decide) rfl (fun ls hl => ?_)
      refine lv_iload hx hb dX7_whyRefused_74 (lv_at hl 0 rfl) ?_
      refine lv_aload_n hx hb dX7_whyRefused_76 rfl (lv_at hl 2 rfl) ?_
      refine w_get (C := RX7) (T := TX7) (N := 9) (ci := 7) (v := .ref (ad 360)) hx hb hts hinX7 hown hK hP (S_mod ad cI cR).1 (S_mod ad cI cR).2 rfl 0 (by decide) (hts (.fieldLink RX7 7 "AdmissionControlModel" "z" "[I") (List.mem_of_getElem? (i := 1) rfl)) (fun _ h9 => h9) rfl dX7_whyRefused_77 ?_
      refine lv_iconst (v := 1) hx hb dX7_whyRefused_80 (by decide) ?_
      obtain ⟨hnb, hf⟩ := gd_e hf
      refine w_ald hx hb hK hP (S_z ad cI cR) hnb dX7_whyRefused_81 ?_
      refine lv_icmp_le (tgt := 87) hx hb dX7_whyRefused_82 (by decide) (fun c46 => ?_) (fun c46 => ?_)
      · rw [if_pos c46] at hf
        refine lv_aload_n hx hb dX7_whyRefused_87 rfl (lv_at hl 2 rfl) ?_
        refine w_get (C := RX7) (T := TX7) (N := 9) (ci := 7) (v := .ref (ad 360)) hx hb hts hinX7 hown hK hP (S_mod ad cI cR).1 (S_mod ad cI cR).2 rfl 0 (by decide) (hts (.fieldLink RX7 7 "AdmissionControlModel" "z" "[I") (List.mem_of_getElem? (i := 1) rfl)) (fun _ h9 => h9) rfl dX7_whyRefused_88 ?_
        refine lv_bipush (v := 16) hx hb dX7_whyRefused_91 (by decide) ?_
        refine lv_iload_n hx hb dX7_whyRefused_93 rfl (lv_at hl 3 rfl) ?_
        obtain ⟨v47, ev47, hf⟩ := bd_e hf
        refine lv_iadd hx hb dX7_whyRefused_94 ?_
        refine w_top ev47 ?_
        obtain ⟨hnb, hf⟩ := gd_e hf
        refine w_ald hx hb hK hP (S_z ad cI cR) hnb dX7_whyRefused_95 ?_
        refine lv_iload_n hx hb dX7_whyRefused_96 rfl (lv_at hl 4 rfl) ?_
        refine lv_icmp_ge (tgt := 104) hx hb dX7_whyRefused_97 (by decide) (fun c48 => ?_) (fun c48 => ?_)
        · rw [if_pos c48] at hf
          refine lv_iconst (v := 0) hx hb dX7_whyRefused_104 (by decide) ?_
          cases hf
          exact w_iret hx hb hr hlocks hP hS dX7_whyRefused_105
        · rw [if_neg c48] at hf
          refine lv_iconst (v := 4) hx hb dX7_whyRefused_100 (by decide) ?_
          refine lv_goto (tgt := 105) hx hb dX7_whyRefused_101 (by decide) ?_
          cases hf
          exact w_iret hx hb hr hlocks hP hS dX7_whyRefused_105
      · rw [if_neg c46] at hf
        refine lv_iconst (v := 3) hx hb dX7_whyRefused_85 (by decide) ?_
        cases hf
        exact w_iret hx hb hr hlocks hP hS dX7_whyRefused_86
    · rw [if_pos c29] at hf
      refine lv_iconst (v := 2) hx hb dX7_whyRefused_26 (by decide) ?_
      cases hf
      exact w_iret hx hb hr hlocks hP hS dX7_whyRefused_27
  · rw [if_neg c27] at hf
    refine lv_iconst (v := 1) hx hb dX7_whyRefused_10 (by decide) ?_
    cases hf
    exact w_iret hx hb hr hlocks hP hS dX7_whyRefused_11
def F_X7_addTokens_L34 (fu : Nat) (a1 : Int32) (a2 : Int32)  (x3 : Int32) (x4 : Int32) (p0 : Int32) (mm : Mem) : Option (Mem) := bd (16 + a1) fun v11 => if x3 ≤ x4 then (gd (inb v11 395) (bd (mput mm 360 v11.toNatClampNeg p0) fun m13 => some m13)) else (gd (inb v11 395) (bd (mput mm 360 v11.toNatClampNeg x3) fun m14 => some m14))
def F_X7_addTokens (fu : Nat) (a1 : Int32) (a2 : Int32) (mm : Mem) : Option (Mem) := bd (16 + a1) fun v15 => gd (inb v15 395) (ob (F_X7_ofClass fu a1 2 mm) fun r16 m17 => bd ((mm 360 v15.toNatClampNeg) + a2) fun v18 => if r16 ≤ v18 then (F_X7_addTokens_L34 fu a1 a2 (mm 360 v15.toNatClampNeg) r16 r16 m17) else (bd ((mm 360 v15.toNatClampNeg) + a2) fun v20 => F_X7_addTokens_L34 fu a1 a2 (mm 360 v15.toNatClampNeg) r16 v20 m17))
set_option maxHeartbeats 4000000 in
set_option maxRecDepth 100000 in
theorem c_X7_addTokens (l : Launch) (D : va_G) (ad : Nat → Nat) (cI cR : ClassId) (hi : inj ad) (fu : Nat) (a1 : Int32) (a2 : Int32)  (mm : Mem) (m9 : Mem) (hf : F_X7_addTokens fu a1 a2 mm = some m9) : MV l yX7_addTokens wsX7_addTokens { frames := 1, cells := 0, slots := 0, locals := 22 } D ad cI cR [.ref (ad 359), .int a1, .int a2] mm m9 := by
  refine Met.ofW (cc := cX7_addTokens) (maxL := 6) (ret := none) (by decide) rfl ?_
  intro p e s m args below meth c s₁ B hml hv
  obtain ⟨rfl, hP, hK, hN⟩ := hv
  have hx := B.exec
  have hb := B.bytes
  have hr := B.returns
  have hts := atoms_spec (ws := wsX7_addTokens) B.pre
  have hown : s.vm.findClass RX7 = some m.cls := findClass_of_methodNamed B.named
  have hlocks := B.notSynchronized
  have hA : ∀ q, AA ad q → AA ad q := fun _ h => h
  have hS : va_S (AA ad) s.heap s.heap [] := va_S.rf
  have hinX7 : ∀ w ∈ wsX70, w ∈ wsX7_addTokens := (fun _ h => List.mem_cons_of_mem _ (List.mem_append_right _ h))
  have hL34 : ∀ (x3 : Int32) (x4 : Int32) (p0 : Int32)  (mm : Mem) (H : Heap) (locs : List Loc) (ls : Array Slot), F_X7_addTokens_L34 fu a1 a2  x3 x4 p0 mm = some m9 → va_P D vwCl (cw ad cI cR mm) H → va_S (AA ad) s.heap H locs → lv_has ls 6 [(0, .ref (ad 359)), (1, .int a1), (3, .int x3), (4, .int x4)] → W p l e (headSpec wsX7_addTokens { frames := 1, cells := 0, slots := 0, locals := 22 }).room s m ([.ref (ad 359), .int a1, .int a2] : List Value).toArray below meth c H locs 0 0 (MQ below (va_Qv (fun (u : Mem) => u = m9) (KB D ad cI cR) (AA ad)) ([.ref (ad 359), .int a1, .int a2] : List Value).toArray s 0 0 (AA ad)) (F0 m 34 ls [.int p0]) := by
    intro x3 x4 p0 mm H locs ls hf hP hS hl
    unfold F_X7_addTokens_L34 at hf
    refine lv_istore (lv' := [(5, .int p0), (0, .ref (ad 359)), (1, .int a1), (3, .int x3), (4, .int x4)]) hx hb dX7_addTokens_34 hl (by decide) rfl (fun ls hl => ?_)
    refine lv_aload_n hx hb dX7_addTokens_36 rfl (lv_at hl 1 rfl) ?_
    refine w_get (C := RX7) (T := TX7) (N := 9) (ci := 7) (v := .ref (ad 360)) hx hb hts hinX7 hown hK hP (S_mod ad cI cR).1 (S_mod ad cI cR).2 rfl 0 (by decide) (hts (.fieldLink RX7 7 "AdmissionControlModel" "z" "[I") (List.mem_of_getElem? (i := 1) rfl)) (fun _ h9 => h9) rfl dX7_addTokens_37 ?_
    refine lv_bipush (v := 16) hx hb dX7_addTokens_40 (by decide) ?_
    refine lv_iload_n hx hb dX7_addTokens_42 rfl (lv_at hl 2 rfl) ?_
    obtain ⟨v11, ev11, hf⟩ := bd_e hf
    refine lv_iadd hx hb dX7_addTokens_43 ?_
    refine w_top ev11 ?_
    refine lv_iload_n hx hb dX7_addTokens_44 rfl (lv_at hl 3 rfl) ?_
    refine lv_iload hx hb dX7_addTokens_45 (lv_at hl 4 rfl) ?_
    refine lv_icmp_le (tgt := 54) hx hb dX7_addTokens_47 (by decide) (fun c12 => ?_) (fun c12 => ?_)
    · rw [if_pos c12] at hf
      refine lv_iload hx hb dX7_addTokens_54 (lv_at hl 0 rfl) ?_
      obtain ⟨hnb, hf⟩ := gd_e hf
      obtain ⟨m13, em13, hf⟩ := bd_e hf
      refine w_ast hx hb hi hA hK hP hS (S_z ad cI cR) hnb dX7_addTokens_56 (fun H locs hP hS => ?_)
      rw [← em13] at hP
      cases hf
      exact w_vret hx hb hr hlocks hP hS dX7_addTokens_57
    · rw [if_neg c12] at hf
      refine lv_iload_n hx hb dX7_addTokens_50 rfl (lv_at hl 3 rfl) ?_
      refine lv_goto (tgt := 56) hx hb dX7_addTokens_51 (by decide) ?_
      obtain ⟨hnb, hf⟩ := gd_e hf
      obtain ⟨m14, em14, hf⟩ := bd_e hf
      refine w_ast hx hb hi hA hK hP hS (S_z ad cI cR) hnb dX7_addTokens_56 (fun H locs hP hS => ?_)
      rw [← em14] at hP
      cases hf
      exact w_vret hx hb hr hlocks hP hS dX7_addTokens_57
  have hl := lv_entry ([.ref (ad 359), .int a1, .int a2]) (n := 6) (Nat.le_of_ble_eq_true rfl)
  rw [lg_entry_eq]
  generalize (lg_sl ([.ref (ad 359), .int a1, .int a2]) ++ List.replicate (6 - (lg_sl ([.ref (ad 359), .int a1, .int a2])).length) Slot.unset).toArray = ls at hl ⊢
  have hl : lv_has ls 6 [(0, .ref (ad 359)), (1, .int a1), (2, .int a2)] := hl
  unfold F_X7_addTokens at hf
  refine lv_aload_n hx hb dX7_addTokens_0 rfl (lv_at hl 0 rfl) ?_
  refine w_get (C := RX7) (T := TX7) (N := 9) (ci := 7) (v := .ref (ad 360)) hx hb hts hinX7 hown hK hP (S_mod ad cI cR).1 (S_mod ad cI cR).2 rfl 0 (by decide) (hts (.fieldLink RX7 7 "AdmissionControlModel" "z" "[I") (List.mem_of_getElem? (i := 1) rfl)) (fun _ h9 => h9) rfl dX7_addTokens_1 ?_
  refine lv_bipush (v := 16) hx hb dX7_addTokens_4 (by decide) ?_
  refine lv_iload_n hx hb dX7_addTokens_6 rfl (lv_at hl 1 rfl) ?_
  obtain ⟨v15, ev15, hf⟩ := bd_e hf
  refine lv_iadd hx hb dX7_addTokens_7 ?_
  refine w_top ev15 ?_
  obtain ⟨hnb, hf⟩ := gd_e hf
  refine w_ald hx hb hK hP (S_z ad cI cR) hnb dX7_addTokens_8 ?_
  refine lv_istore_n (lv' := [(3, .int (mm 360 v15.toNatClampNeg)), (0, .ref (ad 359)), (1, .int a1), (2, .int a2)]) hx hb dX7_addTokens_9 rfl hl (by decide) rfl (fun ls hl => ?_)
  refine lv_aload_n hx hb dX7_addTokens_10 rfl (lv_at hl 1 rfl) ?_
  refine lv_iload_n hx hb dX7_addTokens_11 rfl (lv_at hl 2 rfl) ?_
  refine lv_iconst (v := 2) hx hb dX7_addTokens_12 (by decide) ?_
  obtain ⟨r16, m17, hq, hf⟩ := ob_e hf
  refine w_ci (va_runV (As := [.int a1, .int 2]) (rest := []) ⟨hx, hb, hml, hown, hts⟩ (c_X7_ofClass l D ad cI cR hi fu a1 2 mm r16 m17 hq) (cwV 2 hts gX7_addTokens_X7_ofClass rfl rfl rfl (by decide +kernel) ⟨Nat.le_of_ble_eq_true rfl, Nat.le_of_ble_eq_true rfl⟩) (w_preV (ci := 7) hK hP hN (S_mod ad cI cR).1 (S_mod ad cI cR).2 rfl) rfl rfl hl.1 rfl (lv_room (Nat.le_of_ble_eq_true rfl)) dX7_addTokens_13 ⟨Nat.zero_le _, Nat.zero_le _⟩) hA hS (fun H locs hP hS => ?_)
  refine lv_istore (lv' := [(4, .int r16), (3, .int (mm 360 v15.toNatClampNeg)), (0, .ref (ad 359)), (1, .int a1), (2, .int a2)]) hx hb dX7_addTokens_16 hl (by decide) rfl (fun ls hl => ?_)
  refine lv_iload_n hx hb dX7_addTokens_18 rfl (lv_at hl 1 rfl) ?_
  refine lv_iload_n hx hb dX7_addTokens_19 rfl (lv_at hl 4 rfl) ?_
  obtain ⟨v18, ev18, hf⟩ := bd_e hf
  refine lv_iadd hx hb dX7_addTokens_20 ?_
  refine w_top ev18 ?_
  refine lv_iload hx hb dX7_addTokens_21 (lv_at hl 0 rfl) ?_
  refine lv_icmp_ge (tgt := 32) hx hb dX7_addTokens_23 (by decide) (fun c19 => ?_) (fun c19 => ?_)
  · rw [if_pos c19] at hf
    refine lv_iload hx hb dX7_addTokens_32 (lv_at hl 0 rfl) ?_
    exact hL34 (mm 360 v15.toNatClampNeg) r16 r16 m17 _ _ _ hf hP hS (lv_sub hl [2, 3, 1, 0] rfl)
  · rw [if_neg c19] at hf
    refine lv_iload_n hx hb dX7_addTokens_26 rfl (lv_at hl 1 rfl) ?_
    refine lv_iload_n hx hb dX7_addTokens_27 rfl (lv_at hl 4 rfl) ?_
    obtain ⟨v20, ev20, hf⟩ := bd_e hf
    refine lv_iadd hx hb dX7_addTokens_28 ?_
    refine w_top ev20 ?_
    refine lv_goto (tgt := 34) hx hb dX7_addTokens_29 (by decide) ?_
    exact hL34 (mm 360 v15.toNatClampNeg) r16 v20 m17 _ _ _ hf hP hS (lv_sub hl [2, 3, 1, 0] rfl)
def F_X7_refuse_L105 (fu : Nat) (a1 : Int32) (a2 : Int32)  (p0 : Int32) (mm : Mem) : Option (Mem) := ov (F_X7_put fu a1 8 p0 mm) fun m27 => some m27
def F_X7_refuse_L70 (fu : Nat) (a1 : Int32) (a2 : Int32)  (x3 : Int32) (x4 : Int32) (p0 : Int32) (mm : Mem) : Option (Mem) := ov (F_X7_put fu a1 3 p0 mm) fun m28 => if x4 = 0 then (F_X7_refuse_L105 fu a1 a2 (-100005) m28) else (gd (inb 67 395) (gd (inb 2 395) (bd (x3 - 1) fun v30 => bd ((m28 360 (2 : Int32).toNatClampNeg) <<< (v30 &&& 31)) fun v31 => bd ((m28 360 (67 : Int32).toNatClampNeg) + v31) fun v32 => F_X7_refuse_L105 fu a1 a2 v32 m28)))
def F_X7_refuse_L55 (fu : Nat) (a1 : Int32) (a2 : Int32)  (x3 : Int32) (p0 : Int32) (mm : Mem) : Option (Mem) := if p0 = 0 then (F_X7_refuse_L70 fu a1 a2 x3 p0 4 mm) else (F_X7_refuse_L70 fu a1 a2 x3 p0 3 mm)
def F_X7_refuse (fu : Nat) (a1 : Int32) (a2 : Int32) (mm : Mem) : Option (Mem) := ob (F_X7_of fu a1 6 mm) fun r34 m35 => ob (F_X7_of fu a1 0 m35) fun r36 m37 => bd (5 * r36) fun v38 => bd (52 + v38) fun v39 => bd (v39 + a2) fun v40 => bd (v40 - 1) fun v41 => gd (inb v41 395) (bd ((m37 360 v41.toNatClampNeg) + 1) fun v42 => gd (inb v41 395) (bd (mput m37 360 v41.toNatClampNeg v42) fun m43 => ov (F_X7_put fu a1 7 a2 m43) fun m44 => gd (inb 3 395) (if (m44 360 (3 : Int32).toNatClampNeg) < r34 then (F_X7_refuse_L55 fu a1 a2 r34 0 m44) else (F_X7_refuse_L55 fu a1 a2 r34 1 m44))))
set_option maxHeartbeats 4000000 in
set_option maxRecDepth 100000 in
theorem c_X7_refuse (l : Launch) (D : va_G) (ad : Nat → Nat) (cI cR : ClassId) (hi : inj ad) (fu : Nat) (a1 : Int32) (a2 : Int32)  (mm : Mem) (m9 : Mem) (hf : F_X7_refuse fu a1 a2 mm = some m9) : MV l yX7_refuse wsX7_refuse { frames := 1, cells := 0, slots := 0, locals := 23 } D ad cI cR [.ref (ad 359), .int a1, .int a2] mm m9 := by
  refine Met.ofW (cc := cX7_refuse) (maxL := 5) (ret := none) (by decide) rfl ?_
  intro p e s m args below meth c s₁ B hml hv
  obtain ⟨rfl, hP, hK, hN⟩ := hv
  have hx := B.exec
  have hb := B.bytes
  have hr := B.returns
  have hts := atoms_spec (ws := wsX7_refuse) B.pre
  have hown : s.vm.findClass RX7 = some m.cls := findClass_of_methodNamed B.named
  have hlocks := B.notSynchronized
  have hA : ∀ q, AA ad q → AA ad q := fun _ h => h
  have hS : va_S (AA ad) s.heap s.heap [] := va_S.rf
  have hinX7 : ∀ w ∈ wsX70, w ∈ wsX7_refuse := (fun _ h => List.mem_cons_of_mem _ (List.mem_append_right _ h))
  have hL105 : ∀ (p0 : Int32)  (mm : Mem) (H : Heap) (locs : List Loc) (ls : Array Slot), F_X7_refuse_L105 fu a1 a2  p0 mm = some m9 → va_P D vwCl (cw ad cI cR mm) H → va_S (AA ad) s.heap H locs → lv_has ls 5 [] → W p l e (headSpec wsX7_refuse { frames := 1, cells := 0, slots := 0, locals := 23 }).room s m ([.ref (ad 359), .int a1, .int a2] : List Value).toArray below meth c H locs 0 0 (MQ below (va_Qv (fun (u : Mem) => u = m9) (KB D ad cI cR) (AA ad)) ([.ref (ad 359), .int a1, .int a2] : List Value).toArray s 0 0 (AA ad)) (F0 m 105 ls [.int p0, .int 8, .int a1, .ref (ad 359)]) := by
    intro p0 mm H locs ls hf hP hS hl
    unfold F_X7_refuse_L105 at hf
    obtain ⟨m27, hq, hf⟩ := ov_e hf
    refine w_cv (va_runV (As := [.int a1, .int 8, .int p0]) (rest := []) ⟨hx, hb, hml, hown, hts⟩ (c_X7_put l D ad cI cR hi fu a1 8 p0 mm m27 hq) (cwV 3 hts gX7_refuse_X7_put rfl rfl rfl (by decide +kernel) ⟨Nat.le_of_ble_eq_true rfl, Nat.le_of_ble_eq_true rfl⟩) (w_preV (ci := 7) hK hP hN (S_mod ad cI cR).1 (S_mod ad cI cR).2 rfl) rfl rfl hl.1 rfl (lv_room (Nat.le_of_ble_eq_true rfl)) dX7_refuse_105 ⟨Nat.zero_le _, Nat.zero_le _⟩) hA hS (fun H locs hP hS => ?_)
    cases hf
    exact w_vret hx hb hr hlocks hP hS dX7_refuse_108
  have hL70 : ∀ (x3 : Int32) (x4 : Int32) (p0 : Int32)  (mm : Mem) (H : Heap) (locs : List Loc) (ls : Array Slot), F_X7_refuse_L70 fu a1 a2  x3 x4 p0 mm = some m9 → va_P D vwCl (cw ad cI cR mm) H → va_S (AA ad) s.heap H locs → lv_has ls 5 [(0, .ref (ad 359)), (1, .int a1), (3, .int x3), (4, .int x4)] → W p l e (headSpec wsX7_refuse { frames := 1, cells := 0, slots := 0, locals := 23 }).room s m ([.ref (ad 359), .int a1, .int a2] : List Value).toArray below meth c H locs 0 0 (MQ below (va_Qv (fun (u : Mem) => u = m9) (KB D ad cI cR) (AA ad)) ([.ref (ad 359), .int a1, .int a2] : List Value).toArray s 0 0 (AA ad)) (F0 m 70 ls [.int p0, .int 3, .int a1, .ref (ad 359)]) := by
    intro x3 x4 p0 mm H locs ls hf hP hS hl
    unfold F_X7_refuse_L70 at hf
    obtain ⟨m28, hq, hf⟩ := ov_e hf
    refine w_cv (va_runV (As := [.int a1, .int 3, .int p0]) (rest := []) ⟨hx, hb, hml, hown, hts⟩ (c_X7_put l D ad cI cR hi fu a1 3 p0 mm m28 hq) (cwV 3 hts gX7_refuse_X7_put rfl rfl rfl (by decide +kernel) ⟨Nat.le_of_ble_eq_true rfl, Nat.le_of_ble_eq_true rfl⟩) (w_preV (ci := 7) hK hP hN (S_mod ad cI cR).1 (S_mod ad cI cR).2 rfl) rfl rfl hl.1 rfl (lv_room (Nat.le_of_ble_eq_true rfl)) dX7_refuse_70 ⟨Nat.zero_le _, Nat.zero_le _⟩) hA hS (fun H locs hP hS => ?_)
    refine lv_aload_n hx hb dX7_refuse_73 rfl (lv_at hl 0 rfl) ?_
    refine lv_iload_n hx hb dX7_refuse_74 rfl (lv_at hl 1 rfl) ?_
    refine lv_bipush (v := 8) hx hb dX7_refuse_75 (by decide) ?_
    refine lv_iload hx hb dX7_refuse_77 (lv_at hl 3 rfl) ?_
    refine lv_if_eq (tgt := 103) hx hb dX7_refuse_79 (by decide) (fun c29 => ?_) (fun c29 => ?_)
    · rw [if_pos c29] at hf
      refine lv_ldc (v := (-100005)) hx hb hown (hts (.constant RX7 30 (-100005)) (List.mem_of_getElem? (i := 2) rfl)) dX7_refuse_103 ?_
      exact hL105 (-100005) m28 _ _ _ hf hP hS (lv_sub hl [] rfl)
    · rw [if_neg c29] at hf
      refine lv_aload_n hx hb dX7_refuse_82 rfl (lv_at hl 0 rfl) ?_
      refine w_get (C := RX7) (T := TX7) (N := 9) (ci := 7) (v := .ref (ad 360)) hx hb hts hinX7 hown hK hP (S_mod ad cI cR).1 (S_mod ad cI cR).2 rfl 0 (by decide) (hts (.fieldLink RX7 7 "AdmissionControlModel" "z" "[I") (List.mem_of_getElem? (i := 1) rfl)) (fun _ h9 => h9) rfl dX7_refuse_83 ?_
      refine lv_bipush (v := 67) hx hb dX7_refuse_86 (by decide) ?_
      obtain ⟨hnb, hf⟩ := gd_e hf
      refine w_ald hx hb hK hP (S_z ad cI cR) hnb dX7_refuse_88 ?_
      refine lv_aload_n hx hb dX7_refuse_89 rfl (lv_at hl 0 rfl) ?_
      refine w_get (C := RX7) (T := TX7) (N := 9) (ci := 7) (v := .ref (ad 360)) hx hb hts hinX7 hown hK hP (S_mod ad cI cR).1 (S_mod ad cI cR).2 rfl 0 (by decide) (hts (.fieldLink RX7 7 "AdmissionControlModel" "z" "[I") (List.mem_of_getElem? (i := 1) rfl)) (fun _ h9 => h9) rfl dX7_refuse_90 ?_
      refine lv_iconst (v := 2) hx hb dX7_refuse_93 (by decide) ?_
      obtain ⟨hnb, hf⟩ := gd_e hf
      refine w_ald hx hb hK hP (S_z ad cI cR) hnb dX7_refuse_94 ?_
      refine lv_iload_n hx hb dX7_refuse_95 rfl (lv_at hl 2 rfl) ?_
      refine lv_iconst (v := 1) hx hb dX7_refuse_96 (by decide) ?_
      obtain ⟨v30, ev30, hf⟩ := bd_e hf
      refine lv_isub hx hb dX7_refuse_97 ?_
      refine w_top ev30 ?_
      obtain ⟨v31, ev31, hf⟩ := bd_e hf
      refine lv_ishl hx hb dX7_refuse_98 ?_
      refine w_top ev31 ?_
      obtain ⟨v32, ev32, hf⟩ := bd_e hf
      refine lv_iadd hx hb dX7_refuse_99 ?_
      refine w_top ev32 ?_
      refine lv_goto (tgt := 105) hx hb dX7_refuse_100 (by decide) ?_
      exact hL105 v32 m28 _ _ _ hf hP hS (lv_sub hl [] rfl)
  have hL55 : ∀ (x3 : Int32) (p0 : Int32)  (mm : Mem) (H : Heap) (locs : List Loc) (ls : Array Slot), F_X7_refuse_L55 fu a1 a2  x3 p0 mm = some m9 → va_P D vwCl (cw ad cI cR mm) H → va_S (AA ad) s.heap H locs → lv_has ls 5 [(0, .ref (ad 359)), (1, .int a1), (3, .int x3)] → W p l e (headSpec wsX7_refuse { frames := 1, cells := 0, slots := 0, locals := 23 }).room s m ([.ref (ad 359), .int a1, .int a2] : List Value).toArray below meth c H locs 0 0 (MQ below (va_Qv (fun (u : Mem) => u = m9) (KB D ad cI cR) (AA ad)) ([.ref (ad 359), .int a1, .int a2] : List Value).toArray s 0 0 (AA ad)) (F0 m 55 ls [.int p0]) := by
    intro x3 p0 mm H locs ls hf hP hS hl
    unfold F_X7_refuse_L55 at hf
    refine lv_istore (lv' := [(4, .int p0), (0, .ref (ad 359)), (1, .int a1), (3, .int x3)]) hx hb dX7_refuse_55 hl (by decide) rfl (fun ls hl => ?_)
    refine lv_aload_n hx hb dX7_refuse_57 rfl (lv_at hl 1 rfl) ?_
    refine lv_iload_n hx hb dX7_refuse_58 rfl (lv_at hl 2 rfl) ?_
    refine lv_iconst (v := 3) hx hb dX7_refuse_59 (by decide) ?_
    refine lv_iload hx hb dX7_refuse_60 (lv_at hl 0 rfl) ?_
    refine lv_if_eq (tgt := 69) hx hb dX7_refuse_62 (by decide) (fun c33 => ?_) (fun c33 => ?_)
    · rw [if_pos c33] at hf
      refine lv_iconst (v := 4) hx hb dX7_refuse_69 (by decide) ?_
      exact hL70 x3 p0 4 mm _ _ _ hf hP hS (lv_sub hl [1, 2, 3, 0] rfl)
    · rw [if_neg c33] at hf
      refine lv_iconst (v := 3) hx hb dX7_refuse_65 (by decide) ?_
      refine lv_goto (tgt := 70) hx hb dX7_refuse_66 (by decide) ?_
      exact hL70 x3 p0 3 mm _ _ _ hf hP hS (lv_sub hl [1, 2, 3, 0] rfl)
  have hl := lv_entry ([.ref (ad 359), .int a1, .int a2]) (n := 5) (Nat.le_of_ble_eq_true rfl)
  rw [lg_entry_eq]
  generalize (lg_sl ([.ref (ad 359), .int a1, .int a2]) ++ List.replicate (5 - (lg_sl ([.ref (ad 359), .int a1, .int a2])).length) Slot.unset).toArray = ls at hl ⊢
  have hl : lv_has ls 5 [(0, .ref (ad 359)), (1, .int a1), (2, .int a2)] := hl
  unfold F_X7_refuse at hf
  refine lv_aload_n hx hb dX7_refuse_0 rfl (lv_at hl 0 rfl) ?_
  refine lv_iload_n hx hb dX7_refuse_1 rfl (lv_at hl 1 rfl) ?_
  refine lv_bipush (v := 6) hx hb dX7_refuse_2 (by decide) ?_
  obtain ⟨r34, m35, hq, hf⟩ := ob_e hf
  refine w_ci (va_runV (As := [.int a1, .int 6]) (rest := []) ⟨hx, hb, hml, hown, hts⟩ (c_X7_of l D ad cI cR hi fu a1 6 mm r34 m35 hq) (cwV 2 hts gX7_refuse_X7_of rfl rfl rfl (by decide +kernel) ⟨Nat.le_of_ble_eq_true rfl, Nat.le_of_ble_eq_true rfl⟩) (w_preV (ci := 7) hK hP hN (S_mod ad cI cR).1 (S_mod ad cI cR).2 rfl) rfl rfl hl.1 rfl (lv_room (Nat.le_of_ble_eq_true rfl)) dX7_refuse_4 ⟨Nat.zero_le _, Nat.zero_le _⟩) hA hS (fun H locs hP hS => ?_)
  refine lv_istore_n (lv' := [(3, .int r34), (0, .ref (ad 359)), (1, .int a1), (2, .int a2)]) hx hb dX7_refuse_7 rfl hl (by decide) rfl (fun ls hl => ?_)
  refine lv_aload_n hx hb dX7_refuse_8 rfl (lv_at hl 1 rfl) ?_
  refine w_get (C := RX7) (T := TX7) (N := 9) (ci := 7) (v := .ref (ad 360)) hx hb hts hinX7 hown hK hP (S_mod ad cI cR).1 (S_mod ad cI cR).2 rfl 0 (by decide) (hts (.fieldLink RX7 7 "AdmissionControlModel" "z" "[I") (List.mem_of_getElem? (i := 1) rfl)) (fun _ h9 => h9) rfl dX7_refuse_9 ?_
  refine lv_bipush (v := 52) hx hb dX7_refuse_12 (by decide) ?_
  refine lv_iconst (v := 5) hx hb dX7_refuse_14 (by decide) ?_
  refine lv_aload_n hx hb dX7_refuse_15 rfl (lv_at hl 1 rfl) ?_
  refine lv_iload_n hx hb dX7_refuse_16 rfl (lv_at hl 2 rfl) ?_
  refine lv_iconst (v := 0) hx hb dX7_refuse_17 (by decide) ?_
  obtain ⟨r36, m37, hq, hf⟩ := ob_e hf
  refine w_ci (va_runV (As := [.int a1, .int 0]) (rest := [.int 5, .int 52, .ref (ad 360)]) ⟨hx, hb, hml, hown, hts⟩ (c_X7_of l D ad cI cR hi fu a1 0 m35 r36 m37 hq) (cwV 2 hts gX7_refuse_X7_of rfl rfl rfl (by decide +kernel) ⟨Nat.le_of_ble_eq_true rfl, Nat.le_of_ble_eq_true rfl⟩) (w_preV (ci := 7) hK hP hN (S_mod ad cI cR).1 (S_mod ad cI cR).2 rfl) rfl rfl hl.1 rfl (lv_room (Nat.le_of_ble_eq_true rfl)) dX7_refuse_18 ⟨Nat.zero_le _, Nat.zero_le _⟩) hA hS (fun H locs hP hS => ?_)
  obtain ⟨v38, ev38, hf⟩ := bd_e hf
  refine lv_imul hx hb dX7_refuse_21 ?_
  refine w_top ev38 ?_
  obtain ⟨v39, ev39, hf⟩ := bd_e hf
  refine lv_iadd hx hb dX7_refuse_22 ?_
  refine w_top ev39 ?_
  refine lv_iload_n hx hb dX7_refuse_23 rfl (lv_at hl 3 rfl) ?_
  obtain ⟨v40, ev40, hf⟩ := bd_e hf
  refine lv_iadd hx hb dX7_refuse_24 ?_
  refine w_top ev40 ?_
  refine lv_iconst (v := 1) hx hb dX7_refuse_25 (by decide) ?_
  obtain ⟨v41, ev41, hf⟩ := bd_e hf
  refine lv_isub hx hb dX7_refuse_26 ?_
  refine w_top ev41 ?_
  refine lv_dup2_11 hx hb dX7_refuse_27 rfl rfl ?_
  obtain ⟨hnb, hf⟩ := gd_e hf
  refine w_ald hx hb hK hP (S_z ad cI cR) hnb dX7_refuse_28 ?_
  refine lv_iconst (v := 1) hx hb dX7_refuse_29 (by decide) ?_
  obtain ⟨v42, ev42, hf⟩ := bd_e hf
  refine lv_iadd hx hb dX7_refuse_30 ?_
  refine w_top ev42 ?_
  obtain ⟨hnb, hf⟩ := gd_e hf
  obtain ⟨m43, em43, hf⟩ := bd_e hf
  refine w_ast hx hb hi hA hK hP hS (S_z ad cI cR) hnb dX7_refuse_31 (fun H locs hP hS => ?_)
  rw [← em43] at hP
  refine lv_aload_n hx hb dX7_refuse_32 rfl (lv_at hl 1 rfl) ?_
  refine lv_iload_n hx hb dX7_refuse_33 rfl (lv_at hl 2 rfl) ?_
  refine lv_bipush (v := 7) hx hb dX7_refuse_34 (by decide) ?_
  refine lv_iload_n hx hb dX7_refuse_36 rfl (lv_at hl 3 rfl) ?_
  obtain ⟨m44, hq, hf⟩ := ov_e hf
  refine w_cv (va_runV (As := [.int a1, .int 7, .int a2]) (rest := []) ⟨hx, hb, hml, hown, hts⟩ (c_X7_put l D ad cI cR hi fu a1 7 a2 m43 m44 hq) (cwV 3 hts gX7_refuse_X7_put rfl rfl rfl (by decide +kernel) ⟨Nat.le_of_ble_eq_true rfl, Nat.le_of_ble_eq_true rfl⟩) (w_preV (ci := 7) hK hP hN (S_mod ad cI cR).1 (S_mod ad cI cR).2 rfl) rfl rfl hl.1 rfl (lv_room (Nat.le_of_ble_eq_true rfl)) dX7_refuse_37 ⟨Nat.zero_le _, Nat.zero_le _⟩) hA hS (fun H locs hP hS => ?_)
  refine lv_iload_n hx hb dX7_refuse_40 rfl (lv_at hl 0 rfl) ?_
  refine lv_aload_n hx hb dX7_refuse_41 rfl (lv_at hl 1 rfl) ?_
  refine w_get (C := RX7) (T := TX7) (N := 9) (ci := 7) (v := .ref (ad 360)) hx hb hts hinX7 hown hK hP (S_mod ad cI cR).1 (S_mod ad cI cR).2 rfl 0 (by decide) (hts (.fieldLink RX7 7 "AdmissionControlModel" "z" "[I") (List.mem_of_getElem? (i := 1) rfl)) (fun _ h9 => h9) rfl dX7_refuse_42 ?_
  refine lv_iconst (v := 3) hx hb dX7_refuse_45 (by decide) ?_
  obtain ⟨hnb, hf⟩ := gd_e hf
  refine w_ald hx hb hK hP (S_z ad cI cR) hnb dX7_refuse_46 ?_
  refine lv_icmp_gt (tgt := 54) hx hb dX7_refuse_47 (by decide) (fun c45 => ?_) (fun c45 => ?_)
  · rw [if_pos c45] at hf
    refine lv_iconst (v := 0) hx hb dX7_refuse_54 (by decide) ?_
    exact hL55 r34 0 m44 _ _ _ hf hP hS (lv_sub hl [1, 2, 0] rfl)
  · rw [if_neg c45] at hf
    refine lv_iconst (v := 1) hx hb dX7_refuse_50 (by decide) ?_
    refine lv_goto (tgt := 55) hx hb dX7_refuse_51 (by decide) ?_
    exact hL55 r34 1 m44 _ _ _ hf hP hS (lv_sub hl [1, 2, 0] rfl)
def F_X7_admit_L142 (fu : Nat) (a1 : Int32)  (x2 : Int32) (mm : Mem) : Option (Mem) := bd (8 * x2) fun v79 => bd (28 + v79) fun v80 => bd (25 + x2) fun v81 => gd (inb v81 395) (bd (v80 + (mm 360 v81.toNatClampNeg)) fun v82 => gd (inb v82 395) (bd (mput mm 360 v82.toNatClampNeg a1) fun m83 => bd (25 + x2) fun v84 => gd (inb v84 395) (bd ((m83 360 v84.toNatClampNeg) + 1) fun v85 => gd (inb v84 395) (bd (mput m83 360 v84.toNatClampNeg v85) fun m86 => ov (F_X7_put fu a1 3 0 m86) fun m87 => gd (inb 67 395) (ov (F_X7_put fu a1 9 (m87 360 (67 : Int32).toNatClampNeg) m87) fun m88 => ov (F_X7_put fu a1 8 (-100005) m88) fun m89 => some m89)))))
def F_X7_admit_L61 (fu : Nat) (a1 : Int32) (k31 : Int32 → Int32 → Int32 → Mem → Option (Mem)) (x2 : Int32) (x3 : Int32) (x4 : Int32) (p0 : Int32) (mm : Mem) : Option (Mem) := if p0 = 0 then (bd (x4 + 1) fun v91 => k31 x2 x3 v91 mm) else (if x3 < 0 then (bd (19 + x4) fun v93 => gd (inb v93 395) (bd (x4 + 1) fun v94 => k31 x2 (mm 360 v93.toNatClampNeg) v94 mm)) else (bd (19 + x4) fun v95 => gd (inb v95 395) (if x3 ≤ (mm 360 v95.toNatClampNeg) then (bd (x4 + 1) fun v97 => k31 x2 x3 v97 mm) else (bd (19 + x4) fun v98 => gd (inb v98 395) (bd (x4 + 1) fun v99 => k31 x2 (mm 360 v98.toNatClampNeg) v99 mm)))))
def F_X7_admit_L31 (fu : Nat) (a1 : Int32)  : Nat → Int32 → Int32 → Int32 → Mem → Option (Mem)
  | 0, _, _, _, _ => none
  | n + 1, x2, x3, x4, mm => if 3 ≤ x4 then (bd (25 + x2) fun v101 => gd (inb v101 395) (if (mm 360 v101.toNatClampNeg) = 0 then (bd (19 + x2) fun v103 => gd (inb v103 395) (if x3 ≤ (mm 360 v103.toNatClampNeg) then (F_X7_admit_L142 fu a1 x2 mm) else (bd (19 + x2) fun v105 => gd (inb v105 395) (bd (mput mm 360 v105.toNatClampNeg x3) fun m106 => F_X7_admit_L142 fu a1 x2 m106)))) else (F_X7_admit_L142 fu a1 x2 mm))) else (if x4 = x2 then (F_X7_admit_L61 fu a1 (F_X7_admit_L31 fu a1 n) x2 x3 x4 0 mm) else (bd (25 + x4) fun v108 => gd (inb v108 395) (if (mm 360 v108.toNatClampNeg) ≤ 0 then (F_X7_admit_L61 fu a1 (F_X7_admit_L31 fu a1 n) x2 x3 x4 0 mm) else (F_X7_admit_L61 fu a1 (F_X7_admit_L31 fu a1 n) x2 x3 x4 1 mm))))
def F_X7_admit (fu : Nat) (a1 : Int32) (mm : Mem) : Option (Mem) := ob (F_X7_of fu a1 0 mm) fun r110 m111 => bd (16 + r110) fun v112 => gd (inb v112 395) (ob (F_X7_of fu a1 4 m111) fun r113 m114 => bd ((m111 360 v112.toNatClampNeg) - r113) fun v115 => gd (inb v112 395) (bd (mput m114 360 v112.toNatClampNeg v115) fun m116 => F_X7_admit_L31 fu a1 fu r110 (-100005) 0 m116))
set_option maxHeartbeats 4000000 in
set_option maxRecDepth 100000 in
theorem c_X7_admit (l : Launch) (D : va_G) (ad : Nat → Nat) (cI cR : ClassId) (hi : inj ad) (fu : Nat) (a1 : Int32)  (mm : Mem) (m9 : Mem) (hf : F_X7_admit fu a1 mm = some m9) : MV l yX7_admit wsX7_admit { frames := 1, cells := 0, slots := 0, locals := 23 } D ad cI cR [.ref (ad 359), .int a1] mm m9 := by
  refine Met.ofW (cc := cX7_admit) (maxL := 6) (ret := none) (by decide) rfl ?_
  intro p e s m args below meth c s₁ B hml hv
  obtain ⟨rfl, hP, hK, hN⟩ := hv
  have hx := B.exec
  have hb := B.bytes
  have hr := B.returns
  have hts := atoms_spec (ws := wsX7_admit) B.pre
  have hown : s.vm.findClass RX7 = some m.cls := findClass_of_methodNamed B.named
  have hlocks := B.notSynchronized
  have hA : ∀ q, AA ad q → AA ad q := fun _ h => h
  have hS : va_S (AA ad) s.heap s.heap [] := va_S.rf
  have hinX7 : ∀ w ∈ wsX70, w ∈ wsX7_admit := (fun _ h => List.mem_cons_of_mem _ (List.mem_append_right _ h))
  have hL142 : ∀ (x2 : Int32)  (mm : Mem) (H : Heap) (locs : List Loc) (ls : Array Slot), F_X7_admit_L142 fu a1  x2 mm = some m9 → va_P D vwCl (cw ad cI cR mm) H → va_S (AA ad) s.heap H locs → lv_has ls 6 [(0, .ref (ad 359)), (1, .int a1), (2, .int x2)] → W p l e (headSpec wsX7_admit { frames := 1, cells := 0, slots := 0, locals := 23 }).room s m ([.ref (ad 359), .int a1] : List Value).toArray below meth c H locs 0 0 (MQ below (va_Qv (fun (u : Mem) => u = m9) (KB D ad cI cR) (AA ad)) ([.ref (ad 359), .int a1] : List Value).toArray s 0 0 (AA ad)) (F0 m 142 ls []) := by
    intro x2 mm H locs ls hf hP hS hl
    unfold F_X7_admit_L142 at hf
    refine lv_aload_n hx hb dX7_admit_142 rfl (lv_at hl 0 rfl) ?_
    refine w_get (C := RX7) (T := TX7) (N := 9) (ci := 7) (v := .ref (ad 360)) hx hb hts hinX7 hown hK hP (S_mod ad cI cR).1 (S_mod ad cI cR).2 rfl 0 (by decide) (hts (.fieldLink RX7 7 "AdmissionControlModel" "z" "[I") (List.mem_of_getElem? (i := 1) rfl)) (fun _ h9 => h9) rfl dX7_admit_143 ?_
    refine lv_bipush (v := 28) hx hb dX7_admit_146 (by decide) ?_
    refine lv_bipush (v := 8) hx hb dX7_admit_148 (by decide) ?_
    refine lv_iload_n hx hb dX7_admit_150 rfl (lv_at hl 2 rfl) ?_
    obtain ⟨v79, ev79, hf⟩ := bd_e hf
    refine lv_imul hx hb dX7_admit_151 ?_
    refine w_top ev79 ?_
    obtain ⟨v80, ev80, hf⟩ := bd_e hf
    refine lv_iadd hx hb dX7_admit_152 ?_
    refine w_top ev80 ?_
    refine lv_aload_n hx hb dX7_admit_153 rfl (lv_at hl 0 rfl) ?_
    refine w_get (C := RX7) (T := TX7) (N := 9) (ci := 7) (v := .ref (ad 360)) hx hb hts hinX7 hown hK hP (S_mod ad cI cR).1 (S_mod ad cI cR).2 rfl 0 (by decide) (hts (.fieldLink RX7 7 "AdmissionControlModel" "z" "[I") (List.mem_of_getElem? (i := 1) rfl)) (fun _ h9 => h9) rfl dX7_admit_154 ?_
    refine lv_bipush (v := 25) hx hb dX7_admit_157 (by decide) ?_
    refine lv_iload_n hx hb dX7_admit_159 rfl (lv_at hl 2 rfl) ?_
    obtain ⟨v81, ev81, hf⟩ := bd_e hf
    refine lv_iadd hx hb dX7_admit_160 ?_
    refine w_top ev81 ?_
    obtain ⟨hnb, hf⟩ := gd_e hf
    refine w_ald hx hb hK hP (S_z ad cI cR) hnb dX7_admit_161 ?_
    obtain ⟨v82, ev82, hf⟩ := bd_e hf
    refine lv_iadd hx hb dX7_admit_162 ?_
    refine w_top ev82 ?_
    refine lv_iload_n hx hb dX7_admit_163 rfl (lv_at hl 1 rfl) ?_
    obtain ⟨hnb, hf⟩ := gd_e hf
    obtain ⟨m83, em83, hf⟩ := bd_e hf
    refine w_ast hx hb hi hA hK hP hS (S_z ad cI cR) hnb dX7_admit_164 (fun H locs hP hS => ?_)
    rw [← em83] at hP
    refine lv_aload_n hx hb dX7_admit_165 rfl (lv_at hl 0 rfl) ?_
    refine w_get (C := RX7) (T := TX7) (N := 9) (ci := 7) (v := .ref (ad 360)) hx hb hts hinX7 hown hK hP (S_mod ad cI cR).1 (S_mod ad cI cR).2 rfl 0 (by decide) (hts (.fieldLink RX7 7 "AdmissionControlModel" "z" "[I") (List.mem_of_getElem? (i := 1) rfl)) (fun _ h9 => h9) rfl dX7_admit_166 ?_
    refine lv_bipush (v := 25) hx hb dX7_admit_169 (by decide) ?_
    refine lv_iload_n hx hb dX7_admit_171 rfl (lv_at hl 2 rfl) ?_
    obtain ⟨v84, ev84, hf⟩ := bd_e hf
    refine lv_iadd hx hb dX7_admit_172 ?_
    refine w_top ev84 ?_
    refine lv_dup2_11 hx hb dX7_admit_173 rfl rfl ?_
    obtain ⟨hnb, hf⟩ := gd_e hf
    refine w_ald hx hb hK hP (S_z ad cI cR) hnb dX7_admit_174 ?_
    refine lv_iconst (v := 1) hx hb dX7_admit_175 (by decide) ?_
    obtain ⟨v85, ev85, hf⟩ := bd_e hf
    refine lv_iadd hx hb dX7_admit_176 ?_
    refine w_top ev85 ?_
    obtain ⟨hnb, hf⟩ := gd_e hf
    obtain ⟨m86, em86, hf⟩ := bd_e hf
    refine w_ast hx hb hi hA hK hP hS (S_z ad cI cR) hnb dX7_admit_177 (fun H locs hP hS => ?_)
    rw [← em86] at hP
    refine lv_aload_n hx hb dX7_admit_178 rfl (lv_at hl 0 rfl) ?_
    refine lv_iload_n hx hb dX7_admit_179 rfl (lv_at hl 1 rfl) ?_
    refine lv_iconst (v := 3) hx hb dX7_admit_180 (by decide) ?_
    refine lv_iconst (v := 0) hx hb dX7_admit_181 (by decide) ?_
    obtain ⟨m87, hq, hf⟩ := ov_e hf
    refine w_cv (va_runV (As := [.int a1, .int 3, .int 0]) (rest := []) ⟨hx, hb, hml, hown, hts⟩ (c_X7_put l D ad cI cR hi fu a1 3 0 m86 m87 hq) (cwV 3 hts gX7_admit_X7_put rfl rfl rfl (by decide +kernel) ⟨Nat.le_of_ble_eq_true rfl, Nat.le_of_ble_eq_true rfl⟩) (w_preV (ci := 7) hK hP hN (S_mod ad cI cR).1 (S_mod ad cI cR).2 rfl) rfl rfl hl.1 rfl (lv_room (Nat.le_of_ble_eq_true rfl)) dX7_admit_182 ⟨Nat.zero_le _, Nat.zero_le _⟩) hA hS (fun H locs hP hS => ?_)
    refine lv_aload_n hx hb dX7_admit_185 rfl (lv_at hl 0 rfl) ?_
    refine lv_iload_n hx hb dX7_admit_186 rfl (lv_at hl 1 rfl) ?_
    refine lv_bipush (v := 9) hx hb dX7_admit_187 (by decide) ?_
    refine lv_aload_n hx hb dX7_admit_189 rfl (lv_at hl 0 rfl) ?_
    refine w_get (C := RX7) (T := TX7) (N := 9) (ci := 7) (v := .ref (ad 360)) hx hb hts hinX7 hown hK hP (S_mod ad cI cR).1 (S_mod ad cI cR).2 rfl 0 (by decide) (hts (.fieldLink RX7 7 "AdmissionControlModel" "z" "[I") (List.mem_of_getElem? (i := 1) rfl)) (fun _ h9 => h9) rfl dX7_admit_190 ?_
    refine lv_bipush (v := 67) hx hb dX7_admit_193 (by decide) ?_
    obtain ⟨hnb, hf⟩ := gd_e hf
    refine w_ald hx hb hK hP (S_z ad cI cR) hnb dX7_admit_195 ?_
    obtain ⟨m88, hq, hf⟩ := ov_e hf
    refine w_cv (va_runV (As := [.int a1, .int 9, .int (m87 360 (67 : Int32).toNatClampNeg)]) (rest := []) ⟨hx, hb, hml, hown, hts⟩ (c_X7_put l D ad cI cR hi fu a1 9 (m87 360 (67 : Int32).toNatClampNeg) m87 m88 hq) (cwV 3 hts gX7_admit_X7_put rfl rfl rfl (by decide +kernel) ⟨Nat.le_of_ble_eq_true rfl, Nat.le_of_ble_eq_true rfl⟩) (w_preV (ci := 7) hK hP hN (S_mod ad cI cR).1 (S_mod ad cI cR).2 rfl) rfl rfl hl.1 rfl (lv_room (Nat.le_of_ble_eq_true rfl)) dX7_admit_196 ⟨Nat.zero_le _, Nat.zero_le _⟩) hA hS (fun H locs hP hS => ?_)
    refine lv_aload_n hx hb dX7_admit_199 rfl (lv_at hl 0 rfl) ?_
    refine lv_iload_n hx hb dX7_admit_200 rfl (lv_at hl 1 rfl) ?_
    refine lv_bipush (v := 8) hx hb dX7_admit_201 (by decide) ?_
    refine lv_ldc (v := (-100005)) hx hb hown (hts (.constant RX7 30 (-100005)) (List.mem_of_getElem? (i := 2) rfl)) dX7_admit_203 ?_
    obtain ⟨m89, hq, hf⟩ := ov_e hf
    refine w_cv (va_runV (As := [.int a1, .int 8, .int (-100005)]) (rest := []) ⟨hx, hb, hml, hown, hts⟩ (c_X7_put l D ad cI cR hi fu a1 8 (-100005) m88 m89 hq) (cwV 3 hts gX7_admit_X7_put rfl rfl rfl (by decide +kernel) ⟨Nat.le_of_ble_eq_true rfl, Nat.le_of_ble_eq_true rfl⟩) (w_preV (ci := 7) hK hP hN (S_mod ad cI cR).1 (S_mod ad cI cR).2 rfl) rfl rfl hl.1 rfl (lv_room (Nat.le_of_ble_eq_true rfl)) dX7_admit_205 ⟨Nat.zero_le _, Nat.zero_le _⟩) hA hS (fun H locs hP hS => ?_)
    cases hf
    exact w_vret hx hb hr hlocks hP hS dX7_admit_208
  have hL31 : ∀ (n : Nat) (x2 : Int32) (x3 : Int32) (x4 : Int32)  (mm : Mem) (H : Heap) (locs : List Loc) (ls : Array Slot), F_X7_admit_L31 fu a1  n x2 x3 x4 mm = some m9 → va_P D vwCl (cw ad cI cR mm) H → va_S (AA ad) s.heap H locs → lv_has ls 6 [(0, .ref (ad 359)), (1, .int a1), (2, .int x2), (3, .int x3), (4, .int x4)] → W p l e (headSpec wsX7_admit { frames := 1, cells := 0, slots := 0, locals := 23 }).room s m ([.ref (ad 359), .int a1] : List Value).toArray below meth c H locs 0 0 (MQ below (va_Qv (fun (u : Mem) => u = m9) (KB D ad cI cR) (AA ad)) ([.ref (ad 359), .int a1] : List Value).toArray s 0 0 (AA ad)) (F0 m 31 ls []) := by
    intro n
    induction n with
    | zero =>
      intro x2 x3 x4 mm H locs ls hf hP hS hl
      rw [F_X7_admit_L31] at hf
      cases hf
    | succ n31 ih31 =>
      have hL61 : ∀ (x2 : Int32) (x3 : Int32) (x4 : Int32) (p0 : Int32)  (mm : Mem) (H : Heap) (locs : List Loc) (ls : Array Slot), F_X7_admit_L61 fu a1 (F_X7_admit_L31 fu a1 n31) x2 x3 x4 p0 mm = some m9 → va_P D vwCl (cw ad cI cR mm) H → va_S (AA ad) s.heap H locs → lv_has ls 6 [(0, .ref (ad 359)), (1, .int a1), (2, .int x2), (3, .int x3), (4, .int x4)] → W p l e (headSpec wsX7_admit { frames := 1, cells := 0, slots := 0, locals := 23 }).room s m ([.ref (ad 359), .int a1] : List Value).toArray below meth c H locs 0 0 (MQ below (va_Qv (fun (u : Mem) => u = m9) (KB D ad cI cR) (AA ad)) ([.ref (ad 359), .int a1] : List Value).toArray s 0 0 (AA ad)) (F0 m 61 ls [.int p0]) := by
        intro x2 x3 x4 p0 mm H locs ls hf hP hS hl
        unfold F_X7_admit_L61 at hf
        refine lv_istore (lv' := [(5, .int p0), (0, .ref (ad 359)), (1, .int a1), (2, .int x2), (3, .int x3), (4, .int x4)]) hx hb dX7_admit_61 hl (by decide) rfl (fun ls hl => ?_)
        refine lv_iload hx hb dX7_admit_63 (lv_at hl 0 rfl) ?_
        refine lv_if_eq (tgt := 99) hx hb dX7_admit_65 (by decide) (fun c90 => ?_) (fun c90 => ?_)
        · rw [if_pos c90] at hf
          refine lv_iload_n hx hb dX7_admit_99 rfl (lv_at hl 4 rfl) ?_
          refine lv_istore_n (lv' := [(3, .int x3), (5, .int p0), (0, .ref (ad 359)), (1, .int a1), (2, .int x2), (4, .int x4)]) hx hb dX7_admit_100 rfl hl (by decide) rfl (fun ls hl => ?_)
          obtain ⟨v91, ev91, hf⟩ := bd_e hf
          refine lv_iinc (v := v91) (lv' := [(4, .int v91), (3, .int x3), (5, .int p0), (0, .ref (ad 359)), (1, .int a1), (2, .int x2)]) hx hb dX7_admit_101 hl (k := 5) rfl (by rw [ev91]; rfl) (by decide) rfl (fun ls hl => ?_)
          refine lv_goto (tgt := 31) hx hb dX7_admit_104 (by decide) ?_
          exact ih31 x2 x3 v91 mm _ _ _ hf hP hS (lv_sub hl [3, 4, 5, 1, 0] rfl)
        · rw [if_neg c90] at hf
          refine lv_iload_n hx hb dX7_admit_68 rfl (lv_at hl 4 rfl) ?_
          refine lv_if_lt (tgt := 86) hx hb dX7_admit_69 (by decide) (fun c92 => ?_) (fun c92 => ?_)
          · rw [if_pos c92] at hf
            refine lv_aload_n hx hb dX7_admit_86 rfl (lv_at hl 1 rfl) ?_
            refine w_get (C := RX7) (T := TX7) (N := 9) (ci := 7) (v := .ref (ad 360)) hx hb hts hinX7 hown hK hP (S_mod ad cI cR).1 (S_mod ad cI cR).2 rfl 0 (by decide) (hts (.fieldLink RX7 7 "AdmissionControlModel" "z" "[I") (List.mem_of_getElem? (i := 1) rfl)) (fun _ h9 => h9) rfl dX7_admit_87 ?_
            refine lv_bipush (v := 19) hx hb dX7_admit_90 (by decide) ?_
            refine lv_iload hx hb dX7_admit_92 (lv_at hl 5 rfl) ?_
            obtain ⟨v93, ev93, hf⟩ := bd_e hf
            refine lv_iadd hx hb dX7_admit_94 ?_
            refine w_top ev93 ?_
            obtain ⟨hnb, hf⟩ := gd_e hf
            refine w_ald hx hb hK hP (S_z ad cI cR) hnb dX7_admit_95 ?_
            refine lv_goto (tgt := 100) hx hb dX7_admit_96 (by decide) ?_
            refine lv_istore_n (lv' := [(3, .int (mm 360 v93.toNatClampNeg)), (5, .int p0), (0, .ref (ad 359)), (1, .int a1), (2, .int x2), (4, .int x4)]) hx hb dX7_admit_100 rfl hl (by decide) rfl (fun ls hl => ?_)
            obtain ⟨v94, ev94, hf⟩ := bd_e hf
            refine lv_iinc (v := v94) (lv' := [(4, .int v94), (3, .int (mm 360 v93.toNatClampNeg)), (5, .int p0), (0, .ref (ad 359)), (1, .int a1), (2, .int x2)]) hx hb dX7_admit_101 hl (k := 5) rfl (by rw [ev94]; rfl) (by decide) rfl (fun ls hl => ?_)
            refine lv_goto (tgt := 31) hx hb dX7_admit_104 (by decide) ?_
            exact ih31 x2 (mm 360 v93.toNatClampNeg) v94 mm _ _ _ hf hP hS (lv_sub hl [3, 4, 5, 1, 0] rfl)
          · rw [if_neg c92] at hf
            refine lv_aload_n hx hb dX7_admit_72 rfl (lv_at hl 1 rfl) ?_
            refine w_get (C := RX7) (T := TX7) (N := 9) (ci := 7) (v := .ref (ad 360)) hx hb hts hinX7 hown hK hP (S_mod ad cI cR).1 (S_mod ad cI cR).2 rfl 0 (by decide) (hts (.fieldLink RX7 7 "AdmissionControlModel" "z" "[I") (List.mem_of_getElem? (i := 1) rfl)) (fun _ h9 => h9) rfl dX7_admit_73 ?_
            refine lv_bipush (v := 19) hx hb dX7_admit_76 (by decide) ?_
            refine lv_iload hx hb dX7_admit_78 (lv_at hl 5 rfl) ?_
            obtain ⟨v95, ev95, hf⟩ := bd_e hf
            refine lv_iadd hx hb dX7_admit_80 ?_
            refine w_top ev95 ?_
            obtain ⟨hnb, hf⟩ := gd_e hf
            refine w_ald hx hb hK hP (S_z ad cI cR) hnb dX7_admit_81 ?_
            refine lv_iload_n hx hb dX7_admit_82 rfl (lv_at hl 4 rfl) ?_
            refine lv_icmp_ge (tgt := 99) hx hb dX7_admit_83 (by decide) (fun c96 => ?_) (fun c96 => ?_)
            · rw [if_pos c96] at hf
              refine lv_iload_n hx hb dX7_admit_99 rfl (lv_at hl 4 rfl) ?_
              refine lv_istore_n (lv' := [(3, .int x3), (5, .int p0), (0, .ref (ad 359)), (1, .int a1), (2, .int x2), (4, .int x4)]) hx hb dX7_admit_100 rfl hl (by decide) rfl (fun ls hl => ?_)
              obtain ⟨v97, ev97, hf⟩ := bd_e hf
              refine lv_iinc (v := v97) (lv' := [(4, .int v97), (3, .int x3), (5, .int p0), (0, .ref (ad 359)), (1, .int a1), (2, .int x2)]) hx hb dX7_admit_101 hl (k := 5) rfl (by rw [ev97]; rfl) (by decide) rfl (fun ls hl => ?_)
              refine lv_goto (tgt := 31) hx hb dX7_admit_104 (by decide) ?_
              exact ih31 x2 x3 v97 mm _ _ _ hf hP hS (lv_sub hl [3, 4, 5, 1, 0] rfl)
            · rw [if_neg c96] at hf
              refine lv_aload_n hx hb dX7_admit_86 rfl (lv_at hl 1 rfl) ?_
              refine w_get (C := RX7) (T := TX7) (N := 9) (ci := 7) (v := .ref (ad 360)) hx hb hts hinX7 hown hK hP (S_mod ad cI cR).1 (S_mod ad cI cR).2 rfl 0 (by decide) (hts (.fieldLink RX7 7 "AdmissionControlModel" "z" "[I") (List.mem_of_getElem? (i := 1) rfl)) (fun _ h9 => h9) rfl dX7_admit_87 ?_
              refine lv_bipush (v := 19) hx hb dX7_admit_90 (by decide) ?_
              refine lv_iload hx hb dX7_admit_92 (lv_at hl 5 rfl) ?_
              obtain ⟨v98, ev98, hf⟩ := bd_e hf
              refine lv_iadd hx hb dX7_admit_94 ?_
              refine w_top ev98 ?_
              obtain ⟨hnb, hf⟩ := gd_e hf
              refine w_ald hx hb hK hP (S_z ad cI cR) hnb dX7_admit_95 ?_
              refine lv_goto (tgt := 100) hx hb dX7_admit_96 (by decide) ?_
              refine lv_istore_n (lv' := [(3, .int (mm 360 v98.toNatClampNeg)), (5, .int p0), (0, .ref (ad 359)), (1, .int a1), (2, .int x2), (4, .int x4)]) hx hb dX7_admit_100 rfl hl (by decide) rfl (fun ls hl => ?_)
              obtain ⟨v99, ev99, hf⟩ := bd_e hf
              refine lv_iinc (v := v99) (lv' := [(4, .int v99), (3, .int (mm 360 v98.toNatClampNeg)), (5, .int p0), (0, .ref (ad 359)), (1, .int a1), (2, .int x2)]) hx hb dX7_admit_101 hl (k := 5) rfl (by rw [ev99]; rfl) (by decide) rfl (fun ls hl => ?_)
              refine lv_goto (tgt := 31) hx hb dX7_admit_104 (by decide) ?_
              exact ih31 x2 (mm 360 v98.toNatClampNeg) v99 mm _ _ _ hf hP hS (lv_sub hl [3, 4, 5, 1, 0] rfl)
      intro x2 x3 x4 mm H locs ls hf hP hS hl
      rw [F_X7_admit_L31] at hf
      refine lv_iload hx hb dX7_admit_31 (lv_at hl 4 rfl) ?_
      refine lv_iconst (v := 3) hx hb dX7_admit_33 (by decide) ?_
      refine lv_icmp_ge (tgt := 107) hx hb dX7_admit_34 (by decide) (fun c100 => ?_) (fun c100 => ?_)
      · rw [if_pos c100] at hf
        refine lv_aload_n hx hb dX7_admit_107 rfl (lv_at hl 0 rfl) ?_
        refine w_get (C := RX7) (T := TX7) (N := 9) (ci := 7) (v := .ref (ad 360)) hx hb hts hinX7 hown hK hP (S_mod ad cI cR).1 (S_mod ad cI cR).2 rfl 0 (by decide) (hts (.fieldLink RX7 7 "AdmissionControlModel" "z" "[I") (List.mem_of_getElem? (i := 1) rfl)) (fun _ h9 => h9) rfl dX7_admit_108 ?_
        refine lv_bipush (v := 25) hx hb dX7_admit_111 (by decide) ?_
        refine lv_iload_n hx hb dX7_admit_113 rfl (lv_at hl 2 rfl) ?_
        obtain ⟨v101, ev101, hf⟩ := bd_e hf
        refine lv_iadd hx hb dX7_admit_114 ?_
        refine w_top ev101 ?_
        obtain ⟨hnb, hf⟩ := gd_e hf
        refine w_ald hx hb hK hP (S_z ad cI cR) hnb dX7_admit_115 ?_
        refine lv_if_ne (tgt := 142) hx hb dX7_admit_116 (by decide) (fun c102 => ?_) (fun c102 => ?_)
        · rw [if_neg c102] at hf
          exact hL142 x2 mm _ _ _ hf hP hS (lv_sub hl [0, 1, 2] rfl)
        · rw [if_pos c102] at hf
          refine lv_iload_n hx hb dX7_admit_119 rfl (lv_at hl 3 rfl) ?_
          refine lv_aload_n hx hb dX7_admit_120 rfl (lv_at hl 0 rfl) ?_
          refine w_get (C := RX7) (T := TX7) (N := 9) (ci := 7) (v := .ref (ad 360)) hx hb hts hinX7 hown hK hP (S_mod ad cI cR).1 (S_mod ad cI cR).2 rfl 0 (by decide) (hts (.fieldLink RX7 7 "AdmissionControlModel" "z" "[I") (List.mem_of_getElem? (i := 1) rfl)) (fun _ h9 => h9) rfl dX7_admit_121 ?_
          refine lv_bipush (v := 19) hx hb dX7_admit_124 (by decide) ?_
          refine lv_iload_n hx hb dX7_admit_126 rfl (lv_at hl 2 rfl) ?_
          obtain ⟨v103, ev103, hf⟩ := bd_e hf
          refine lv_iadd hx hb dX7_admit_127 ?_
          refine w_top ev103 ?_
          obtain ⟨hnb, hf⟩ := gd_e hf
          refine w_ald hx hb hK hP (S_z ad cI cR) hnb dX7_admit_128 ?_
          refine lv_icmp_le (tgt := 142) hx hb dX7_admit_129 (by decide) (fun c104 => ?_) (fun c104 => ?_)
          · rw [if_pos c104] at hf
            exact hL142 x2 mm _ _ _ hf hP hS (lv_sub hl [0, 1, 2] rfl)
          · rw [if_neg c104] at hf
            refine lv_aload_n hx hb dX7_admit_132 rfl (lv_at hl 0 rfl) ?_
            refine w_get (C := RX7) (T := TX7) (N := 9) (ci := 7) (v := .ref (ad 360)) hx hb hts hinX7 hown hK hP (S_mod ad cI cR).1 (S_mod ad cI cR).2 rfl 0 (by decide) (hts (.fieldLink RX7 7 "AdmissionControlModel" "z" "[I") (List.mem_of_getElem? (i := 1) rfl)) (fun _ h9 => h9) rfl dX7_admit_133 ?_
            refine lv_bipush (v := 19) hx hb dX7_admit_136 (by decide) ?_
            refine lv_iload_n hx hb dX7_admit_138 rfl (lv_at hl 2 rfl) ?_
            obtain ⟨v105, ev105, hf⟩ := bd_e hf
            refine lv_iadd hx hb dX7_admit_139 ?_
            refine w_top ev105 ?_
            refine lv_iload_n hx hb dX7_admit_140 rfl (lv_at hl 3 rfl) ?_
            obtain ⟨hnb, hf⟩ := gd_e hf
            obtain ⟨m106, em106, hf⟩ := bd_e hf
            refine w_ast hx hb hi hA hK hP hS (S_z ad cI cR) hnb dX7_admit_141 (fun H locs hP hS => ?_)
            rw [← em106] at hP
            exact hL142 x2 m106 _ _ _ hf hP hS (lv_sub hl [0, 1, 2] rfl)
      · rw [if_neg c100] at hf
        refine lv_iload hx hb dX7_admit_37 (lv_at hl 4 rfl) ?_
        refine lv_iload_n hx hb dX7_admit_39 rfl (lv_at hl 2 rfl) ?_
        refine lv_icmp_eq (tgt := 60) hx hb dX7_admit_40 (by decide) (fun c107 => ?_) (fun c107 => ?_)
        · rw [if_pos c107] at hf
          refine lv_iconst (v := 0) hx hb dX7_admit_60 (by decide) ?_
          exact hL61 x2 x3 x4 0 mm _ _ _ hf hP hS (lv_sub hl [0, 1, 2, 3, 4] rfl)
        · rw [if_neg c107] at hf
          refine lv_aload_n hx hb dX7_admit_43 rfl (lv_at hl 0 rfl) ?_
          refine w_get (C := RX7) (T := TX7) (N := 9) (ci := 7) (v := .ref (ad 360)) hx hb hts hinX7 hown hK hP (S_mod ad cI cR).1 (S_mod ad cI cR).2 rfl 0 (by decide) (hts (.fieldLink RX7 7 "AdmissionControlModel" "z" "[I") (List.mem_of_getElem? (i := 1) rfl)) (fun _ h9 => h9) rfl dX7_admit_44 ?_
          refine lv_bipush (v := 25) hx hb dX7_admit_47 (by decide) ?_
          refine lv_iload hx hb dX7_admit_49 (lv_at hl 4 rfl) ?_
          obtain ⟨v108, ev108, hf⟩ := bd_e hf
          refine lv_iadd hx hb dX7_admit_51 ?_
          refine w_top ev108 ?_
          obtain ⟨hnb, hf⟩ := gd_e hf
          refine w_ald hx hb hK hP (S_z ad cI cR) hnb dX7_admit_52 ?_
          refine lv_if_le (tgt := 60) hx hb dX7_admit_53 (by decide) (fun c109 => ?_) (fun c109 => ?_)
          · rw [if_pos c109] at hf
            refine lv_iconst (v := 0) hx hb dX7_admit_60 (by decide) ?_
            exact hL61 x2 x3 x4 0 mm _ _ _ hf hP hS (lv_sub hl [0, 1, 2, 3, 4] rfl)
          · rw [if_neg c109] at hf
            refine lv_iconst (v := 1) hx hb dX7_admit_56 (by decide) ?_
            refine lv_goto (tgt := 61) hx hb dX7_admit_57 (by decide) ?_
            exact hL61 x2 x3 x4 1 mm _ _ _ hf hP hS (lv_sub hl [0, 1, 2, 3, 4] rfl)
  have hl := lv_entry ([.ref (ad 359), .int a1]) (n := 6) (Nat.le_of_ble_eq_true rfl)
  rw [lg_entry_eq]
  generalize (lg_sl ([.ref (ad 359), .int a1]) ++ List.replicate (6 - (lg_sl ([.ref (ad 359), .int a1])).length) Slot.unset).toArray = ls at hl ⊢
  have hl : lv_has ls 6 [(0, .ref (ad 359)), (1, .int a1)] := hl
  unfold F_X7_admit at hf
  refine lv_aload_n hx hb dX7_admit_0 rfl (lv_at hl 0 rfl) ?_
  refine lv_iload_n hx hb dX7_admit_1 rfl (lv_at hl 1 rfl) ?_
  refine lv_iconst (v := 0) hx hb dX7_admit_2 (by decide) ?_
  obtain ⟨r110, m111, hq, hf⟩ := ob_e hf
  refine w_ci (va_runV (As := [.int a1, .int 0]) (rest := []) ⟨hx, hb, hml, hown, hts⟩ (c_X7_of l D ad cI cR hi fu a1 0 mm r110 m111 hq) (cwV 2 hts gX7_admit_X7_of rfl rfl rfl (by decide +kernel) ⟨Nat.le_of_ble_eq_true rfl, Nat.le_of_ble_eq_true rfl⟩) (w_preV (ci := 7) hK hP hN (S_mod ad cI cR).1 (S_mod ad cI cR).2 rfl) rfl rfl hl.1 rfl (lv_room (Nat.le_of_ble_eq_true rfl)) dX7_admit_3 ⟨Nat.zero_le _, Nat.zero_le _⟩) hA hS (fun H locs hP hS => ?_)
  refine lv_istore_n (lv' := [(2, .int r110), (0, .ref (ad 359)), (1, .int a1)]) hx hb dX7_admit_6 rfl hl (by decide) rfl (fun ls hl => ?_)
  refine lv_aload_n hx hb dX7_admit_7 rfl (lv_at hl 1 rfl) ?_
  refine w_get (C := RX7) (T := TX7) (N := 9) (ci := 7) (v := .ref (ad 360)) hx hb hts hinX7 hown hK hP (S_mod ad cI cR).1 (S_mod ad cI cR).2 rfl 0 (by decide) (hts (.fieldLink RX7 7 "AdmissionControlModel" "z" "[I") (List.mem_of_getElem? (i := 1) rfl)) (fun _ h9 => h9) rfl dX7_admit_8 ?_
  refine lv_bipush (v := 16) hx hb dX7_admit_11 (by decide) ?_
  refine lv_iload_n hx hb dX7_admit_13 rfl (lv_at hl 0 rfl) ?_
  obtain ⟨v112, ev112, hf⟩ := bd_e hf
  refine lv_iadd hx hb dX7_admit_14 ?_
  refine w_top ev112 ?_
  refine lv_dup2_11 hx hb dX7_admit_15 rfl rfl ?_
  obtain ⟨hnb, hf⟩ := gd_e hf
  refine w_ald hx hb hK hP (S_z ad cI cR) hnb dX7_admit_16 ?_
  refine lv_aload_n hx hb dX7_admit_17 rfl (lv_at hl 1 rfl) ?_
  refine lv_iload_n hx hb dX7_admit_18 rfl (lv_at hl 2 rfl) ?_
  refine lv_iconst (v := 4) hx hb dX7_admit_19 (by decide) ?_
  obtain ⟨r113, m114, hq, hf⟩ := ob_e hf
  refine w_ci (va_runV (As := [.int a1, .int 4]) (rest := [.int (m111 360 v112.toNatClampNeg), .int v112, .ref (ad 360)]) ⟨hx, hb, hml, hown, hts⟩ (c_X7_of l D ad cI cR hi fu a1 4 m111 r113 m114 hq) (cwV 2 hts gX7_admit_X7_of rfl rfl rfl (by decide +kernel) ⟨Nat.le_of_ble_eq_true rfl, Nat.le_of_ble_eq_true rfl⟩) (w_preV (ci := 7) hK hP hN (S_mod ad cI cR).1 (S_mod ad cI cR).2 rfl) rfl rfl hl.1 rfl (lv_room (Nat.le_of_ble_eq_true rfl)) dX7_admit_20 ⟨Nat.zero_le _, Nat.zero_le _⟩) hA hS (fun H locs hP hS => ?_)
  obtain ⟨v115, ev115, hf⟩ := bd_e hf
  refine lv_isub hx hb dX7_admit_23 ?_
  refine w_top ev115 ?_
  obtain ⟨hnb, hf⟩ := gd_e hf
  obtain ⟨m116, em116, hf⟩ := bd_e hf
  refine w_ast hx hb hi hA hK hP hS (S_z ad cI cR) hnb dX7_admit_24 (fun H locs hP hS => ?_)
  rw [← em116] at hP
  refine lv_ldc (v := (-100005)) hx hb hown (hts (.constant RX7 30 (-100005)) (List.mem_of_getElem? (i := 2) rfl)) dX7_admit_25 ?_
  refine lv_istore_n (lv' := [(3, .int (-100005)), (2, .int r110), (0, .ref (ad 359)), (1, .int a1)]) hx hb dX7_admit_27 rfl hl (by decide) rfl (fun ls hl => ?_)
  refine lv_iconst (v := 0) hx hb dX7_admit_28 (by decide) ?_
  refine lv_istore (lv' := [(4, .int 0), (3, .int (-100005)), (2, .int r110), (0, .ref (ad 359)), (1, .int a1)]) hx hb dX7_admit_29 hl (by decide) rfl (fun ls hl => ?_)
  exact hL31 fu r110 (-100005) 0 m116 _ _ _ hf hP hS (lv_sub hl [3, 4, 2, 1, 0] rfl)
def F_X7_offerNow (fu : Nat) (a1 : Int32) (mm : Mem) : Option (Int32 × Mem) := ob (F_X7_of fu a1 6 mm) fun r19 m20 => bd (r19 + 1) fun v21 => ov (F_X7_put fu a1 6 v21 m20) fun m22 => ob (F_X7_of fu a1 1 m22) fun r23 m24 => ob (F_X7_expectedCost fu r23 m24) fun r25 m26 => ov (F_X7_put fu a1 4 r25 m26) fun m27 => ob (F_X7_of fu a1 0 m27) fun r28 m29 => ob (F_X7_of fu a1 4 m29) fun r30 m31 => ob (F_X7_whyRefused fu r28 r30 m31) fun r32 m33 => if r32 ≤ 0 then (ov (F_X7_admit fu a1 m33) fun m35 => some (r32, m35)) else (ov (F_X7_refuse fu a1 r32 m33) fun m36 => some (r32, m36))
set_option maxHeartbeats 4000000 in
set_option maxRecDepth 100000 in
theorem c_X7_offerNow (l : Launch) (D : va_G) (ad : Nat → Nat) (cI cR : ClassId) (hi : inj ad) (fu : Nat) (a1 : Int32)  (mm : Mem) (r0 : Int32) (m9 : Mem) (hf : F_X7_offerNow fu a1 mm = some (r0, m9)) : MI l yX7_offerNow wsX7_offerNow { frames := 3, cells := 0, slots := 0, locals := 70 } D ad cI cR [.ref (ad 359), .int a1] mm r0 m9 := by
  refine Met.ofW (cc := cX7_offerNow) (maxL := 3) (ret := (some .int)) (by decide) rfl ?_
  intro p e s m args below meth c s₁ B hml hv
  obtain ⟨rfl, hP, hK, hN⟩ := hv
  have hx := B.exec
  have hb := B.bytes
  have hr := B.returns
  have hts := atoms_spec (ws := wsX7_offerNow) B.pre
  have hown : s.vm.findClass RX7 = some m.cls := findClass_of_methodNamed B.named
  have hlocks := B.notSynchronized
  have hA : ∀ q, AA ad q → AA ad q := fun _ h => h
  have hS : va_S (AA ad) s.heap s.heap [] := va_S.rf
  have hl := lv_entry ([.ref (ad 359), .int a1]) (n := 3) (Nat.le_of_ble_eq_true rfl)
  rw [lg_entry_eq]
  generalize (lg_sl ([.ref (ad 359), .int a1]) ++ List.replicate (3 - (lg_sl ([.ref (ad 359), .int a1])).length) Slot.unset).toArray = ls at hl ⊢
  have hl : lv_has ls 3 [(0, .ref (ad 359)), (1, .int a1)] := hl
  unfold F_X7_offerNow at hf
  refine lv_aload_n hx hb dX7_offerNow_0 rfl (lv_at hl 0 rfl) ?_
  refine lv_iload_n hx hb dX7_offerNow_1 rfl (lv_at hl 1 rfl) ?_
  refine lv_bipush (v := 6) hx hb dX7_offerNow_2 (by decide) ?_
  refine lv_aload_n hx hb dX7_offerNow_4 rfl (lv_at hl 0 rfl) ?_
  refine lv_iload_n hx hb dX7_offerNow_5 rfl (lv_at hl 1 rfl) ?_
  refine lv_bipush (v := 6) hx hb dX7_offerNow_6 (by decide) ?_
  obtain ⟨r19, m20, hq, hf⟩ := ob_e hf
  refine w_ci (va_runV (As := [.int a1, .int 6]) (rest := [.int 6, .int a1, .ref (ad 359)]) ⟨hx, hb, hml, hown, hts⟩ (c_X7_of l D ad cI cR hi fu a1 6 mm r19 m20 hq) (cwV 2 hts gX7_offerNow_X7_of rfl rfl rfl (by decide +kernel) ⟨Nat.le_of_ble_eq_true rfl, Nat.le_of_ble_eq_true rfl⟩) (w_preV (ci := 7) hK hP hN (S_mod ad cI cR).1 (S_mod ad cI cR).2 rfl) rfl rfl hl.1 rfl (lv_room (Nat.le_of_ble_eq_true rfl)) dX7_offerNow_8 ⟨Nat.zero_le _, Nat.zero_le _⟩) hA hS (fun H locs hP hS => ?_)
  refine lv_iconst (v := 1) hx hb dX7_offerNow_11 (by decide) ?_
  obtain ⟨v21, ev21, hf⟩ := bd_e hf
  refine lv_iadd hx hb dX7_offerNow_12 ?_
  refine w_top ev21 ?_
  obtain ⟨m22, hq, hf⟩ := ov_e hf
  refine w_cv (va_runV (As := [.int a1, .int 6, .int v21]) (rest := []) ⟨hx, hb, hml, hown, hts⟩ (c_X7_put l D ad cI cR hi fu a1 6 v21 m20 m22 hq) (cwV 3 hts gX7_offerNow_X7_put rfl rfl rfl (by decide +kernel) ⟨Nat.le_of_ble_eq_true rfl, Nat.le_of_ble_eq_true rfl⟩) (w_preV (ci := 7) hK hP hN (S_mod ad cI cR).1 (S_mod ad cI cR).2 rfl) rfl rfl hl.1 rfl (lv_room (Nat.le_of_ble_eq_true rfl)) dX7_offerNow_13 ⟨Nat.zero_le _, Nat.zero_le _⟩) hA hS (fun H locs hP hS => ?_)
  refine lv_aload_n hx hb dX7_offerNow_16 rfl (lv_at hl 0 rfl) ?_
  refine lv_iload_n hx hb dX7_offerNow_17 rfl (lv_at hl 1 rfl) ?_
  refine lv_iconst (v := 4) hx hb dX7_offerNow_18 (by decide) ?_
  refine lv_aload_n hx hb dX7_offerNow_19 rfl (lv_at hl 0 rfl) ?_
  refine lv_aload_n hx hb dX7_offerNow_20 rfl (lv_at hl 0 rfl) ?_
  refine lv_iload_n hx hb dX7_offerNow_21 rfl (lv_at hl 1 rfl) ?_
  refine lv_iconst (v := 1) hx hb dX7_offerNow_22 (by decide) ?_
  obtain ⟨r23, m24, hq, hf⟩ := ob_e hf
  refine w_ci (va_runV (As := [.int a1, .int 1]) (rest := [.ref (ad 359), .int 4, .int a1, .ref (ad 359)]) ⟨hx, hb, hml, hown, hts⟩ (c_X7_of l D ad cI cR hi fu a1 1 m22 r23 m24 hq) (cwV 2 hts gX7_offerNow_X7_of rfl rfl rfl (by decide +kernel) ⟨Nat.le_of_ble_eq_true rfl, Nat.le_of_ble_eq_true rfl⟩) (w_preV (ci := 7) hK hP hN (S_mod ad cI cR).1 (S_mod ad cI cR).2 rfl) rfl rfl hl.1 rfl (lv_room (Nat.le_of_ble_eq_true rfl)) dX7_offerNow_23 ⟨Nat.zero_le _, Nat.zero_le _⟩) hA hS (fun H locs hP hS => ?_)
  obtain ⟨r25, m26, hq, hf⟩ := ob_e hf
  refine w_ci (va_runV (As := [.int r23]) (rest := [.int 4, .int a1, .ref (ad 359)]) ⟨hx, hb, hml, hown, hts⟩ (c_X7_expectedCost l D ad cI cR hi fu r23 m24 r25 m26 hq) (cwV 1 hts gX7_offerNow_X7_expectedCost rfl rfl rfl (by decide +kernel) ⟨Nat.le_of_ble_eq_true rfl, Nat.le_of_ble_eq_true rfl⟩) (w_preV (ci := 7) hK hP hN (S_mod ad cI cR).1 (S_mod ad cI cR).2 rfl) rfl rfl hl.1 rfl (lv_room (Nat.le_of_ble_eq_true rfl)) dX7_offerNow_26 ⟨Nat.zero_le _, Nat.zero_le _⟩) hA hS (fun H locs hP hS => ?_)
  obtain ⟨m27, hq, hf⟩ := ov_e hf
  refine w_cv (va_runV (As := [.int a1, .int 4, .int r25]) (rest := []) ⟨hx, hb, hml, hown, hts⟩ (c_X7_put l D ad cI cR hi fu a1 4 r25 m26 m27 hq) (cwV 3 hts gX7_offerNow_X7_put rfl rfl rfl (by decide +kernel) ⟨Nat.le_of_ble_eq_true rfl, Nat.le_of_ble_eq_true rfl⟩) (w_preV (ci := 7) hK hP hN (S_mod ad cI cR).1 (S_mod ad cI cR).2 rfl) rfl rfl hl.1 rfl (lv_room (Nat.le_of_ble_eq_true rfl)) dX7_offerNow_29 ⟨Nat.zero_le _, Nat.zero_le _⟩) hA hS (fun H locs hP hS => ?_)
  refine lv_aload_n hx hb dX7_offerNow_32 rfl (lv_at hl 0 rfl) ?_
  refine lv_aload_n hx hb dX7_offerNow_33 rfl (lv_at hl 0 rfl) ?_
  refine lv_iload_n hx hb dX7_offerNow_34 rfl (lv_at hl 1 rfl) ?_
  refine lv_iconst (v := 0) hx hb dX7_offerNow_35 (by decide) ?_
  obtain ⟨r28, m29, hq, hf⟩ := ob_e hf
  refine w_ci (va_runV (As := [.int a1, .int 0]) (rest := [.ref (ad 359)]) ⟨hx, hb, hml, hown, hts⟩ (c_X7_of l D ad cI cR hi fu a1 0 m27 r28 m29 hq) (cwV 2 hts gX7_offerNow_X7_of rfl rfl rfl (by decide +kernel) ⟨Nat.le_of_ble_eq_true rfl, Nat.le_of_ble_eq_true rfl⟩) (w_preV (ci := 7) hK hP hN (S_mod ad cI cR).1 (S_mod ad cI cR).2 rfl) rfl rfl hl.1 rfl (lv_room (Nat.le_of_ble_eq_true rfl)) dX7_offerNow_36 ⟨Nat.zero_le _, Nat.zero_le _⟩) hA hS (fun H locs hP hS => ?_)
  refine lv_aload_n hx hb dX7_offerNow_39 rfl (lv_at hl 0 rfl) ?_
  refine lv_iload_n hx hb dX7_offerNow_40 rfl (lv_at hl 1 rfl) ?_
  refine lv_iconst (v := 4) hx hb dX7_offerNow_41 (by decide) ?_
  obtain ⟨r30, m31, hq, hf⟩ := ob_e hf
  refine w_ci (va_runV (As := [.int a1, .int 4]) (rest := [.int r28, .ref (ad 359)]) ⟨hx, hb, hml, hown, hts⟩ (c_X7_of l D ad cI cR hi fu a1 4 m29 r30 m31 hq) (cwV 2 hts gX7_offerNow_X7_of rfl rfl rfl (by decide +kernel) ⟨Nat.le_of_ble_eq_true rfl, Nat.le_of_ble_eq_true rfl⟩) (w_preV (ci := 7) hK hP hN (S_mod ad cI cR).1 (S_mod ad cI cR).2 rfl) rfl rfl hl.1 rfl (lv_room (Nat.le_of_ble_eq_true rfl)) dX7_offerNow_42 ⟨Nat.zero_le _, Nat.zero_le _⟩) hA hS (fun H locs hP hS => ?_)
  obtain ⟨r32, m33, hq, hf⟩ := ob_e hf
  refine w_ci (va_runV (As := [.int r28, .int r30]) (rest := []) ⟨hx, hb, hml, hown, hts⟩ (c_X7_whyRefused l D ad cI cR hi fu r28 r30 m31 r32 m33 hq) (cwV 2 hts gX7_offerNow_X7_whyRefused rfl rfl rfl (by decide +kernel) ⟨Nat.le_of_ble_eq_true rfl, Nat.le_of_ble_eq_true rfl⟩) (w_preV (ci := 7) hK hP hN (S_mod ad cI cR).1 (S_mod ad cI cR).2 rfl) rfl rfl hl.1 rfl (lv_room (Nat.le_of_ble_eq_true rfl)) dX7_offerNow_45 ⟨Nat.zero_le _, Nat.zero_le _⟩) hA hS (fun H locs hP hS => ?_)
  refine lv_istore_n (lv' := [(2, .int r32), (0, .ref (ad 359)), (1, .int a1)]) hx hb dX7_offerNow_48 rfl hl (by decide) rfl (fun ls hl => ?_)
  refine lv_iload_n hx hb dX7_offerNow_49 rfl (lv_at hl 0 rfl) ?_
  refine lv_if_le (tgt := 62) hx hb dX7_offerNow_50 (by decide) (fun c34 => ?_) (fun c34 => ?_)
  · rw [if_pos c34] at hf
    refine lv_aload_n hx hb dX7_offerNow_62 rfl (lv_at hl 1 rfl) ?_
    refine lv_iload_n hx hb dX7_offerNow_63 rfl (lv_at hl 2 rfl) ?_
    obtain ⟨m35, hq, hf⟩ := ov_e hf
    refine w_cv (va_runV (As := [.int a1]) (rest := []) ⟨hx, hb, hml, hown, hts⟩ (c_X7_admit l D ad cI cR hi fu a1 m33 m35 hq) (cwV 1 hts gX7_offerNow_X7_admit rfl rfl rfl (by decide +kernel) ⟨Nat.le_of_ble_eq_true rfl, Nat.le_of_ble_eq_true rfl⟩) (w_preV (ci := 7) hK hP hN (S_mod ad cI cR).1 (S_mod ad cI cR).2 rfl) rfl rfl hl.1 rfl (lv_room (Nat.le_of_ble_eq_true rfl)) dX7_offerNow_64 ⟨Nat.zero_le _, Nat.zero_le _⟩) hA hS (fun H locs hP hS => ?_)
    refine lv_iload_n hx hb dX7_offerNow_67 rfl (lv_at hl 0 rfl) ?_
    cases hf
    exact w_iret hx hb hr hlocks hP hS dX7_offerNow_68
  · rw [if_neg c34] at hf
    refine lv_aload_n hx hb dX7_offerNow_53 rfl (lv_at hl 1 rfl) ?_
    refine lv_iload_n hx hb dX7_offerNow_54 rfl (lv_at hl 2 rfl) ?_
    refine lv_iload_n hx hb dX7_offerNow_55 rfl (lv_at hl 0 rfl) ?_
    obtain ⟨m36, hq, hf⟩ := ov_e hf
    refine w_cv (va_runV (As := [.int a1, .int r32]) (rest := []) ⟨hx, hb, hml, hown, hts⟩ (c_X7_refuse l D ad cI cR hi fu a1 r32 m33 m36 hq) (cwV 2 hts gX7_offerNow_X7_refuse rfl rfl rfl (by decide +kernel) ⟨Nat.le_of_ble_eq_true rfl, Nat.le_of_ble_eq_true rfl⟩) (w_preV (ci := 7) hK hP hN (S_mod ad cI cR).1 (S_mod ad cI cR).2 rfl) rfl rfl hl.1 rfl (lv_room (Nat.le_of_ble_eq_true rfl)) dX7_offerNow_56 ⟨Nat.zero_le _, Nat.zero_le _⟩) hA hS (fun H locs hP hS => ?_)
    refine lv_goto (tgt := 67) hx hb dX7_offerNow_59 (by decide) ?_
    refine lv_iload_n hx hb dX7_offerNow_67 rfl (lv_at hl 0 rfl) ?_
    cases hf
    exact w_iret hx hb hr hlocks hP hS dX7_offerNow_68
