def F_X5_add (fu : Nat) (a1 : Int32) (mm : Mem) : Option (Mem) := if 80 ≤ (mm 356 1) then (some mm) else (ov (F_X3_put fu (356 + 1) 80 (mm 356 1) a1 mm) fun m6 => bd ((m6 356 1) + 1) fun v7 => bd (mput m6 356 1 v7) fun m8 => some m8)
set_option maxHeartbeats 4000000 in
set_option maxRecDepth 100000 in
theorem c_X5_add (l : Launch) (D : va_G) (ad : Nat → Nat) (cI cR : ClassId) (hi : inj ad) (fu : Nat) (a1 : Int32)  (mm : Mem) (m9 : Mem) (hf : F_X5_add fu a1 mm = some m9) : MV l yX5_add wsX5_add { frames := 1, cells := 0, slots := 0, locals := 22 } D ad cI cR [.ref (ad 356), .int a1] mm m9 := by
  refine Met.ofW (cc := cX5_add) (maxL := 2) (ret := none) (by decide) rfl ?_
  intro p e s m args below meth c s₁ B hml hv
  obtain ⟨rfl, hP, hK, hN⟩ := hv
  have hx := B.exec
  have hb := B.bytes
  have hr := B.returns
  have hts := atoms_spec (ws := wsX5_add) B.pre
  have hown : s.vm.findClass RX5 = some m.cls := findClass_of_methodNamed B.named
  have hlocks := B.notSynchronized
  have hA : ∀ q, AA ad q → AA ad q := fun _ h => h
  have hS : va_S (AA ad) s.heap s.heap [] := va_S.rf
  have hinX5 : ∀ w ∈ wsX50, w ∈ wsX5_add := (fun _ h => List.mem_cons_of_mem _ (List.mem_append_left _ (List.mem_append_right _ h)))
  have hl := lv_entry ([.ref (ad 356), .int a1]) (n := 2) (Nat.le_of_ble_eq_true rfl)
  rw [lg_entry_eq]
  generalize (lg_sl ([.ref (ad 356), .int a1]) ++ List.replicate (2 - (lg_sl ([.ref (ad 356), .int a1])).length) Slot.unset).toArray = ls at hl ⊢
  have hl : lv_has ls 2 [(0, .ref (ad 356)), (1, .int a1)] := hl
  unfold F_X5_add at hf
  refine lv_aload_n hx hb dX5_add_0 rfl (lv_at hl 0 rfl) ?_
  refine w_get (C := RX5) (T := TX5) (N := 2) (ci := 5) (v := .int (mm 356 1)) hx hb hts hinX5 hown hK hP (S_text ad cI cR).1 (S_text ad cI cR).2.1 rfl 1 (by decide) (hts (.fieldLink RX5 20 "AdmissionControl$Text" "length" "I") (List.mem_of_getElem? (i := 1) rfl)) (fun _ h9 => h9) rfl dX5_add_1 ?_
  refine lv_bipush (v := 80) hx hb dX5_add_4 (by decide) ?_
  refine lv_icmp_ge (tgt := 31) hx hb dX5_add_6 (by decide) (fun c5 => ?_) (fun c5 => ?_)
  · rw [if_pos c5] at hf
    cases hf
    exact w_vret hx hb hr hlocks hP hS dX5_add_31
  · rw [if_neg c5] at hf
    refine lv_aload_n hx hb dX5_add_9 rfl (lv_at hl 0 rfl) ?_
    refine w_get (C := RX5) (T := TX5) (N := 2) (ci := 5) (v := .ref (ad (356 + 1))) hx hb hts hinX5 hown hK hP (S_text ad cI cR).1 (S_text ad cI cR).2.1 rfl 0 (by decide) (hts (.fieldLink RX5 14 "AdmissionControl$Text" "characters" "LAdmissionControl$Row;") (List.mem_of_getElem? (i := 2) rfl)) (fun _ h9 => h9) rfl dX5_add_10 ?_
    refine lv_aload_n hx hb dX5_add_13 rfl (lv_at hl 0 rfl) ?_
    refine w_get (C := RX5) (T := TX5) (N := 2) (ci := 5) (v := .int (mm 356 1)) hx hb hts hinX5 hown hK hP (S_text ad cI cR).1 (S_text ad cI cR).2.1 rfl 1 (by decide) (hts (.fieldLink RX5 20 "AdmissionControl$Text" "length" "I") (List.mem_of_getElem? (i := 1) rfl)) (fun _ h9 => h9) rfl dX5_add_14 ?_
    refine lv_iload_n hx hb dX5_add_17 rfl (lv_at hl 1 rfl) ?_
    obtain ⟨m6, hq, hf⟩ := ov_e hf
    refine w_cv (va_runV (As := [.int (mm 356 1), .int a1]) (rest := []) ⟨hx, hb, hml, hown, hts⟩ (c_X3_put l D ad cI cR hi fu (356 + 1) 80 (mm 356 1) a1 (S_text ad cI cR).2.2 mm m6 hq) (cwV 2 hts gX5_add_X3_put rfl rfl rfl (by decide +kernel) ⟨Nat.le_of_ble_eq_true rfl, Nat.le_of_ble_eq_true rfl⟩) (w_preV (ci := 3) hK hP hN (S_text ad cI cR).2.2.1 (S_text ad cI cR).2.2.2.1 rfl) rfl rfl hl.1 rfl (lv_room (Nat.le_of_ble_eq_true rfl)) dX5_add_18 ⟨Nat.zero_le _, Nat.zero_le _⟩) hA hS (fun H locs hP hS => ?_)
    refine lv_aload_n hx hb dX5_add_21 rfl (lv_at hl 0 rfl) ?_
    refine lv_dup hx hb dX5_add_22 rfl ?_
    refine w_get (C := RX5) (T := TX5) (N := 2) (ci := 5) (v := .int (m6 356 1)) hx hb hts hinX5 hown hK hP (S_text ad cI cR).1 (S_text ad cI cR).2.1 rfl 1 (by decide) (hts (.fieldLink RX5 20 "AdmissionControl$Text" "length" "I") (List.mem_of_getElem? (i := 1) rfl)) (fun _ h9 => h9) rfl dX5_add_23 ?_
    refine lv_iconst (v := 1) hx hb dX5_add_26 (by decide) ?_
    obtain ⟨v7, ev7, hf⟩ := bd_e hf
    refine lv_iadd hx hb dX5_add_27 ?_
    refine w_top ev7 ?_
    obtain ⟨m8, em8, hf⟩ := bd_e hf
    refine w_put (C := RX5) (T := TX5) (N := 2) (ci := 5) (x := v7) hx hb hts hinX5 tyX5 tyX5_ok nmX5 hown hi hA hK hP hS (S_text ad cI cR).1 (S_text ad cI cR).2.1 rfl 1 (by decide) (hts (.fieldLink RX5 20 "AdmissionControl$Text" "length" "I") (List.mem_of_getElem? (i := 1) rfl)) (fun _ h9 => h9) rfl rfl rfl (Nat.le_of_ble_eq_true rfl) rfl dX5_add_28 (fun H locs hP hS => ?_)
    rw [← em8] at hP
    cases hf
    exact w_vret hx hb hr hlocks hP hS dX5_add_31
def F_X5_expectedAfterNumber_L27 (fu : Nat) (a1 : Int32) (a2 : Int32)   (mm : Mem) : Option (Int32 × Mem) := if a1 = 5 then (if a2 = 48 then (some (6, mm)) else (some (7, mm))) else (some (7, mm))
def F_X5_expectedAfterNumber (fu : Nat) (a1 : Int32) (a2 : Int32) (mm : Mem) : Option (Int32 × Mem) := if a2 = 59 then (some (0, mm)) else (if a1 = 4 then (ob (F_X6_isBetween fu 48 a2 57 mm) fun r12 m13 => if r12 = 0 then (F_X5_expectedAfterNumber_L27 fu a1 a2 m13) else (some (6, m13))) else (F_X5_expectedAfterNumber_L27 fu a1 a2 mm))
set_option maxHeartbeats 4000000 in
set_option maxRecDepth 100000 in
theorem c_X5_expectedAfterNumber (l : Launch) (D : va_G) (ad : Nat → Nat) (cI cR : ClassId) (hi : inj ad) (fu : Nat) (a1 : Int32) (a2 : Int32)  (mm : Mem) (r0 : Int32) (m9 : Mem) (hf : F_X5_expectedAfterNumber fu a1 a2 mm = some (r0, m9)) : MI l yX5_expectedAfterNumber wsX5_expectedAfterNumber { frames := 1, cells := 0, slots := 0, locals := 22 } D ad cI cR [.int a1, .int a2] mm r0 m9 := by
  refine Met.ofW (cc := cX5_expectedAfterNumber) (maxL := 2) (ret := (some .int)) (by decide) rfl ?_
  intro p e s m args below meth c s₁ B hml hv
  obtain ⟨rfl, hP, hK, hN⟩ := hv
  have hx := B.exec
  have hb := B.bytes
  have hr := B.returns
  have hts := atoms_spec (ws := wsX5_expectedAfterNumber) B.pre
  have hown : s.vm.findClass RX5 = some m.cls := findClass_of_methodNamed B.named
  have hlocks := B.notSynchronized
  have hA : ∀ q, AA ad q → AA ad q := fun _ h => h
  have hS : va_S (AA ad) s.heap s.heap [] := va_S.rf
  have hL27 : ∀   (mm : Mem) (H : Heap) (locs : List Loc) (ls : Array Slot), F_X5_expectedAfterNumber_L27 fu a1 a2   mm = some (r0, m9) → va_P D vwCl (cw ad cI cR mm) H → va_S (AA ad) s.heap H locs → lv_has ls 2 [(0, .int a1), (1, .int a2)] → W p l e (headSpec wsX5_expectedAfterNumber { frames := 1, cells := 0, slots := 0, locals := 22 }).room s m ([.int a1, .int a2] : List Value).toArray below meth c H locs 0 0 (MQ below (va_Qi (fun (r' : Int32) (u : Mem) => r' = r0 ∧ u = m9) (KB D ad cI cR) (AA ad)) ([.int a1, .int a2] : List Value).toArray s 0 0 (AA ad)) (F0 m 27 ls []) := by
    intro  mm H locs ls hf hP hS hl
    unfold F_X5_expectedAfterNumber_L27 at hf
    refine lv_iload_n hx hb dX5_expectedAfterNumber_27 rfl (lv_at hl 0 rfl) ?_
    refine lv_iconst (v := 5) hx hb dX5_expectedAfterNumber_28 (by decide) ?_
    refine lv_icmp_ne (tgt := 43) hx hb dX5_expectedAfterNumber_29 (by decide) (fun c8 => ?_) (fun c8 => ?_)
    · rw [if_neg c8] at hf
      refine lv_bipush (v := 7) hx hb dX5_expectedAfterNumber_43 (by decide) ?_
      cases hf
      exact w_iret hx hb hr hlocks hP hS dX5_expectedAfterNumber_45
    · rw [if_pos c8] at hf
      refine lv_iload_n hx hb dX5_expectedAfterNumber_32 rfl (lv_at hl 1 rfl) ?_
      refine lv_bipush (v := 48) hx hb dX5_expectedAfterNumber_33 (by decide) ?_
      refine lv_icmp_ne (tgt := 43) hx hb dX5_expectedAfterNumber_35 (by decide) (fun c9 => ?_) (fun c9 => ?_)
      · rw [if_neg c9] at hf
        refine lv_bipush (v := 7) hx hb dX5_expectedAfterNumber_43 (by decide) ?_
        cases hf
        exact w_iret hx hb hr hlocks hP hS dX5_expectedAfterNumber_45
      · rw [if_pos c9] at hf
        refine lv_bipush (v := 6) hx hb dX5_expectedAfterNumber_38 (by decide) ?_
        refine lv_goto (tgt := 45) hx hb dX5_expectedAfterNumber_40 (by decide) ?_
        cases hf
        exact w_iret hx hb hr hlocks hP hS dX5_expectedAfterNumber_45
  have hl := lv_entry ([.int a1, .int a2]) (n := 2) (Nat.le_of_ble_eq_true rfl)
  rw [lg_entry_eq]
  generalize (lg_sl ([.int a1, .int a2]) ++ List.replicate (2 - (lg_sl ([.int a1, .int a2])).length) Slot.unset).toArray = ls at hl ⊢
  have hl : lv_has ls 2 [(0, .int a1), (1, .int a2)] := hl
  unfold F_X5_expectedAfterNumber at hf
  refine lv_iload_n hx hb dX5_expectedAfterNumber_0 rfl (lv_at hl 1 rfl) ?_
  refine lv_bipush (v := 59) hx hb dX5_expectedAfterNumber_1 (by decide) ?_
  refine lv_icmp_ne (tgt := 8) hx hb dX5_expectedAfterNumber_3 (by decide) (fun c10 => ?_) (fun c10 => ?_)
  · rw [if_neg c10] at hf
    refine lv_iload_n hx hb dX5_expectedAfterNumber_8 rfl (lv_at hl 0 rfl) ?_
    refine lv_iconst (v := 4) hx hb dX5_expectedAfterNumber_9 (by decide) ?_
    refine lv_icmp_ne (tgt := 27) hx hb dX5_expectedAfterNumber_10 (by decide) (fun c11 => ?_) (fun c11 => ?_)
    · rw [if_neg c11] at hf
      exact hL27  mm _ _ _ hf hP hS (lv_sub hl [0, 1] rfl)
    · rw [if_pos c11] at hf
      refine lv_bipush (v := 48) hx hb dX5_expectedAfterNumber_13 (by decide) ?_
      refine lv_iload_n hx hb dX5_expectedAfterNumber_15 rfl (lv_at hl 1 rfl) ?_
      refine lv_bipush (v := 57) hx hb dX5_expectedAfterNumber_16 (by decide) ?_
      obtain ⟨r12, m13, hq, hf⟩ := ob_e hf
      refine w_ci (va_runSN (As := [.int 48, .int a2, .int 57]) (rest := []) ⟨hx, hb, hml, hown, hts⟩ (c_X6_isBetween l D ad cI cR hi fu 48 a2 57 mm r12 m13 hq) ⟨va_cnB 3 hts gX5_expectedAfterNumber_X6_isBetween_n37 rfl rfl rfl hN.2.2.2.2 (hts (.initialized RX6) (List.mem_of_getElem? (i := 2) rfl)) (by decide +kernel) ⟨Nat.le_of_ble_eq_true rfl, Nat.le_of_ble_eq_true rfl⟩, (hts (.static yX6_isBetween) (List.mem_of_getElem? (i := 1) rfl)), trivial⟩ (w_preS hK hP hN) rfl rfl hl.1 rfl (lv_room (Nat.le_of_ble_eq_true rfl)) dX5_expectedAfterNumber_18 ⟨Nat.zero_le _, Nat.zero_le _⟩) hA hS (fun H locs hP hS => ?_)
      refine lv_if_eq (tgt := 27) hx hb dX5_expectedAfterNumber_21 (by decide) (fun c14 => ?_) (fun c14 => ?_)
      · rw [if_pos c14] at hf
        exact hL27  m13 _ _ _ hf hP hS (lv_sub hl [0, 1] rfl)
      · rw [if_neg c14] at hf
        refine lv_bipush (v := 6) hx hb dX5_expectedAfterNumber_24 (by decide) ?_
        cases hf
        exact w_iret hx hb hr hlocks hP hS dX5_expectedAfterNumber_26
  · rw [if_pos c10] at hf
    refine lv_iconst (v := 0) hx hb dX5_expectedAfterNumber_6 (by decide) ?_
    cases hf
    exact w_iret hx hb hr hlocks hP hS dX5_expectedAfterNumber_7
def F_X5_expectedAfterFirstOfCost (fu : Nat) (a1 : Int32) (mm : Mem) : Option (Int32 × Mem) := ob (F_X6_isBetween fu 49 a1 53 mm) fun r8 m9 => if r8 = 0 then (if a1 = 54 then (some (5, m9)) else (ob (F_X6_isBetween fu 55 a1 57 m9) fun r12 m13 => if r12 = 0 then (some (7, m13)) else (some (6, m13)))) else (some (4, m9))
set_option maxHeartbeats 4000000 in
set_option maxRecDepth 100000 in
theorem c_X5_expectedAfterFirstOfCost (l : Launch) (D : va_G) (ad : Nat → Nat) (cI cR : ClassId) (hi : inj ad) (fu : Nat) (a1 : Int32)  (mm : Mem) (r0 : Int32) (m9 : Mem) (hf : F_X5_expectedAfterFirstOfCost fu a1 mm = some (r0, m9)) : MI l yX5_expectedAfterFirstOfCost wsX5_expectedAfterFirstOfCost { frames := 1, cells := 0, slots := 0, locals := 22 } D ad cI cR [.int a1] mm r0 m9 := by
  refine Met.ofW (cc := cX5_expectedAfterFirstOfCost) (maxL := 1) (ret := (some .int)) (by decide) rfl ?_
  intro p e s m args below meth c s₁ B hml hv
  obtain ⟨rfl, hP, hK, hN⟩ := hv
  have hx := B.exec
  have hb := B.bytes
  have hr := B.returns
  have hts := atoms_spec (ws := wsX5_expectedAfterFirstOfCost) B.pre
  have hown : s.vm.findClass RX5 = some m.cls := findClass_of_methodNamed B.named
  have hlocks := B.notSynchronized
  have hA : ∀ q, AA ad q → AA ad q := fun _ h => h
  have hS : va_S (AA ad) s.heap s.heap [] := va_S.rf
  have hl := lv_entry ([.int a1]) (n := 1) (Nat.le_of_ble_eq_true rfl)
  rw [lg_entry_eq]
  generalize (lg_sl ([.int a1]) ++ List.replicate (1 - (lg_sl ([.int a1])).length) Slot.unset).toArray = ls at hl ⊢
  have hl : lv_has ls 1 [(0, .int a1)] := hl
  unfold F_X5_expectedAfterFirstOfCost at hf
  refine lv_bipush (v := 49) hx hb dX5_expectedAfterFirstOfCost_0 (by decide) ?_
  refine lv_iload_n hx hb dX5_expectedAfterFirstOfCost_2 rfl (lv_at hl 0 rfl) ?_
  refine lv_bipush (v := 53) hx hb dX5_expectedAfterFirstOfCost_3 (by decide) ?_
  obtain ⟨r8, m9, hq, hf⟩ := ob_e hf
  refine w_ci (va_runSN (As := [.int 49, .int a1, .int 53]) (rest := []) ⟨hx, hb, hml, hown, hts⟩ (c_X6_isBetween l D ad cI cR hi fu 49 a1 53 mm r8 m9 hq) ⟨va_cnB 3 hts gX5_expectedAfterFirstOfCost_X6_isBetween_n37 rfl rfl rfl hN.2.2.2.2 (hts (.initialized RX6) (List.mem_of_getElem? (i := 2) rfl)) (by decide +kernel) ⟨Nat.le_of_ble_eq_true rfl, Nat.le_of_ble_eq_true rfl⟩, (hts (.static yX6_isBetween) (List.mem_of_getElem? (i := 1) rfl)), trivial⟩ (w_preS hK hP hN) rfl rfl hl.1 rfl (lv_room (Nat.le_of_ble_eq_true rfl)) dX5_expectedAfterFirstOfCost_5 ⟨Nat.zero_le _, Nat.zero_le _⟩) hA hS (fun H locs hP hS => ?_)
  refine lv_if_eq (tgt := 13) hx hb dX5_expectedAfterFirstOfCost_8 (by decide) (fun c10 => ?_) (fun c10 => ?_)
  · rw [if_pos c10] at hf
    refine lv_iload_n hx hb dX5_expectedAfterFirstOfCost_13 rfl (lv_at hl 0 rfl) ?_
    refine lv_bipush (v := 54) hx hb dX5_expectedAfterFirstOfCost_14 (by decide) ?_
    refine lv_icmp_ne (tgt := 21) hx hb dX5_expectedAfterFirstOfCost_16 (by decide) (fun c11 => ?_) (fun c11 => ?_)
    · rw [if_neg c11] at hf
      refine lv_bipush (v := 55) hx hb dX5_expectedAfterFirstOfCost_21 (by decide) ?_
      refine lv_iload_n hx hb dX5_expectedAfterFirstOfCost_23 rfl (lv_at hl 0 rfl) ?_
      refine lv_bipush (v := 57) hx hb dX5_expectedAfterFirstOfCost_24 (by decide) ?_
      obtain ⟨r12, m13, hq, hf⟩ := ob_e hf
      refine w_ci (va_runSN (As := [.int 55, .int a1, .int 57]) (rest := []) ⟨hx, hb, hml, hown, hts⟩ (c_X6_isBetween l D ad cI cR hi fu 55 a1 57 m9 r12 m13 hq) ⟨va_cnB 3 hts gX5_expectedAfterFirstOfCost_X6_isBetween_n37 rfl rfl rfl hN.2.2.2.2 (hts (.initialized RX6) (List.mem_of_getElem? (i := 2) rfl)) (by decide +kernel) ⟨Nat.le_of_ble_eq_true rfl, Nat.le_of_ble_eq_true rfl⟩, (hts (.static yX6_isBetween) (List.mem_of_getElem? (i := 1) rfl)), trivial⟩ (w_preS hK hP hN) rfl rfl hl.1 rfl (lv_room (Nat.le_of_ble_eq_true rfl)) dX5_expectedAfterFirstOfCost_26 ⟨Nat.zero_le _, Nat.zero_le _⟩) hA hS (fun H locs hP hS => ?_)
      refine lv_if_eq (tgt := 37) hx hb dX5_expectedAfterFirstOfCost_29 (by decide) (fun c14 => ?_) (fun c14 => ?_)
      · rw [if_pos c14] at hf
        refine lv_bipush (v := 7) hx hb dX5_expectedAfterFirstOfCost_37 (by decide) ?_
        cases hf
        exact w_iret hx hb hr hlocks hP hS dX5_expectedAfterFirstOfCost_39
      · rw [if_neg c14] at hf
        refine lv_bipush (v := 6) hx hb dX5_expectedAfterFirstOfCost_32 (by decide) ?_
        refine lv_goto (tgt := 39) hx hb dX5_expectedAfterFirstOfCost_34 (by decide) ?_
        cases hf
        exact w_iret hx hb hr hlocks hP hS dX5_expectedAfterFirstOfCost_39
    · rw [if_pos c11] at hf
      refine lv_iconst (v := 5) hx hb dX5_expectedAfterFirstOfCost_19 (by decide) ?_
      cases hf
      exact w_iret hx hb hr hlocks hP hS dX5_expectedAfterFirstOfCost_20
  · rw [if_neg c10] at hf
    refine lv_iconst (v := 4) hx hb dX5_expectedAfterFirstOfCost_11 (by decide) ?_
    cases hf
    exact w_iret hx hb hr hlocks hP hS dX5_expectedAfterFirstOfCost_12
def F_X5_expectedAfter (fu : Nat) (a1 : Int32) (a2 : Int32) (mm : Mem) : Option (Int32 × Mem) := if a1 = 0 then (if a2 = 43 then (some (3, mm)) else (ob (F_X6_isBetween fu 48 a2 50 mm) fun r21 m22 => if r21 = 0 then (some (7, m22)) else (some (1, m22)))) else (if a1 = 1 then (ob (F_X6_isBetween fu 97 a2 101 mm) fun r25 m26 => if r25 = 0 then (some (7, m26)) else (some (2, m26))) else (if a1 = 2 then (ob (F_X5_expectedAfterFirstOfCost fu a2 mm) fun r29 m30 => some (r29, m30)) else (if a1 = 3 then (ob (F_X6_isBetween fu 49 a2 57 mm) fun r32 m33 => if r32 = 0 then (some (7, m33)) else (some (4, m33))) else (ob (F_X5_expectedAfterNumber fu a1 a2 mm) fun r35 m36 => some (r35, m36)))))
set_option maxHeartbeats 4000000 in
set_option maxRecDepth 100000 in
theorem c_X5_expectedAfter (l : Launch) (D : va_G) (ad : Nat → Nat) (cI cR : ClassId) (hi : inj ad) (fu : Nat) (a1 : Int32) (a2 : Int32)  (mm : Mem) (r0 : Int32) (m9 : Mem) (hf : F_X5_expectedAfter fu a1 a2 mm = some (r0, m9)) : MI l yX5_expectedAfter wsX5_expectedAfter { frames := 2, cells := 0, slots := 0, locals := 43 } D ad cI cR [.int a1, .int a2] mm r0 m9 := by
  refine Met.ofW (cc := cX5_expectedAfter) (maxL := 2) (ret := (some .int)) (by decide) rfl ?_
  intro p e s m args below meth c s₁ B hml hv
  obtain ⟨rfl, hP, hK, hN⟩ := hv
  have hx := B.exec
  have hb := B.bytes
  have hr := B.returns
  have hts := atoms_spec (ws := wsX5_expectedAfter) B.pre
  have hown : s.vm.findClass RX5 = some m.cls := findClass_of_methodNamed B.named
  have hlocks := B.notSynchronized
  have hA : ∀ q, AA ad q → AA ad q := fun _ h => h
  have hS : va_S (AA ad) s.heap s.heap [] := va_S.rf
  have hl := lv_entry ([.int a1, .int a2]) (n := 2) (Nat.le_of_ble_eq_true rfl)
  rw [lg_entry_eq]
  generalize (lg_sl ([.int a1, .int a2]) ++ List.replicate (2 - (lg_sl ([.int a1, .int a2])).length) Slot.unset).toArray = ls at hl ⊢
  have hl : lv_has ls 2 [(0, .int a1), (1, .int a2)] := hl
  unfold F_X5_expectedAfter at hf
  refine lv_iload_n hx hb dX5_expectedAfter_0 rfl (lv_at hl 0 rfl) ?_
  rcases Decidable.em (a1 = 0) with c19 | c19
  · rw [if_pos c19] at hf
    refine lv_tableIn (tgt := 32) (off := 31) hx hb dX5_expectedAfter_1 (by rw [c19]; decide) (by rw [c19]; decide) (by rw [c19]; rfl) (by decide) ?_
    refine lv_iload_n hx hb dX5_expectedAfter_32 rfl (lv_at hl 1 rfl) ?_
    refine lv_bipush (v := 43) hx hb dX5_expectedAfter_33 (by decide) ?_
    refine lv_icmp_ne (tgt := 40) hx hb dX5_expectedAfter_35 (by decide) (fun c20 => ?_) (fun c20 => ?_)
    · rw [if_neg c20] at hf
      refine lv_bipush (v := 48) hx hb dX5_expectedAfter_40 (by decide) ?_
      refine lv_iload_n hx hb dX5_expectedAfter_42 rfl (lv_at hl 1 rfl) ?_
      refine lv_bipush (v := 50) hx hb dX5_expectedAfter_43 (by decide) ?_
      obtain ⟨r21, m22, hq, hf⟩ := ob_e hf
      refine w_ci (va_runSN (As := [.int 48, .int a2, .int 50]) (rest := []) ⟨hx, hb, hml, hown, hts⟩ (c_X6_isBetween l D ad cI cR hi fu 48 a2 50 mm r21 m22 hq) ⟨va_cnB 3 hts gX5_expectedAfter_X6_isBetween_n37 rfl rfl rfl hN.2.2.2.2 (hts (.initialized RX6) (List.mem_of_getElem? (i := 2) rfl)) (by decide +kernel) ⟨Nat.le_of_ble_eq_true rfl, Nat.le_of_ble_eq_true rfl⟩, (hts (.static yX6_isBetween) (List.mem_of_getElem? (i := 1) rfl)), trivial⟩ (w_preS hK hP hN) rfl rfl hl.1 rfl (lv_room (Nat.le_of_ble_eq_true rfl)) dX5_expectedAfter_45 ⟨Nat.zero_le _, Nat.zero_le _⟩) hA hS (fun H locs hP hS => ?_)
      refine lv_if_eq (tgt := 55) hx hb dX5_expectedAfter_48 (by decide) (fun c23 => ?_) (fun c23 => ?_)
      · rw [if_pos c23] at hf
        refine lv_bipush (v := 7) hx hb dX5_expectedAfter_55 (by decide) ?_
        cases hf
        exact w_iret hx hb hr hlocks hP hS dX5_expectedAfter_57
      · rw [if_neg c23] at hf
        refine lv_iconst (v := 1) hx hb dX5_expectedAfter_51 (by decide) ?_
        refine lv_goto (tgt := 57) hx hb dX5_expectedAfter_52 (by decide) ?_
        cases hf
        exact w_iret hx hb hr hlocks hP hS dX5_expectedAfter_57
    · rw [if_pos c20] at hf
      refine lv_iconst (v := 3) hx hb dX5_expectedAfter_38 (by decide) ?_
      cases hf
      exact w_iret hx hb hr hlocks hP hS dX5_expectedAfter_39
  · rw [if_neg c19] at hf
    rcases Decidable.em (a1 = 1) with c24 | c24
    · rw [if_pos c24] at hf
      refine lv_tableIn (tgt := 58) (off := 57) hx hb dX5_expectedAfter_1 (by rw [c24]; decide) (by rw [c24]; decide) (by rw [c24]; rfl) (by decide) ?_
      refine lv_bipush (v := 97) hx hb dX5_expectedAfter_58 (by decide) ?_
      refine lv_iload_n hx hb dX5_expectedAfter_60 rfl (lv_at hl 1 rfl) ?_
      refine lv_bipush (v := 101) hx hb dX5_expectedAfter_61 (by decide) ?_
      obtain ⟨r25, m26, hq, hf⟩ := ob_e hf
      refine w_ci (va_runSN (As := [.int 97, .int a2, .int 101]) (rest := []) ⟨hx, hb, hml, hown, hts⟩ (c_X6_isBetween l D ad cI cR hi fu 97 a2 101 mm r25 m26 hq) ⟨va_cnB 3 hts gX5_expectedAfter_X6_isBetween_n37 rfl rfl rfl hN.2.2.2.2 (hts (.initialized RX6) (List.mem_of_getElem? (i := 2) rfl)) (by decide +kernel) ⟨Nat.le_of_ble_eq_true rfl, Nat.le_of_ble_eq_true rfl⟩, (hts (.static yX6_isBetween) (List.mem_of_getElem? (i := 1) rfl)), trivial⟩ (w_preS hK hP hN) rfl rfl hl.1 rfl (lv_room (Nat.le_of_ble_eq_true rfl)) dX5_expectedAfter_63 ⟨Nat.zero_le _, Nat.zero_le _⟩) hA hS (fun H locs hP hS => ?_)
      refine lv_if_eq (tgt := 73) hx hb dX5_expectedAfter_66 (by decide) (fun c27 => ?_) (fun c27 => ?_)
      · rw [if_pos c27] at hf
        refine lv_bipush (v := 7) hx hb dX5_expectedAfter_73 (by decide) ?_
        cases hf
        exact w_iret hx hb hr hlocks hP hS dX5_expectedAfter_75
      · rw [if_neg c27] at hf
        refine lv_iconst (v := 2) hx hb dX5_expectedAfter_69 (by decide) ?_
        refine lv_goto (tgt := 75) hx hb dX5_expectedAfter_70 (by decide) ?_
        cases hf
        exact w_iret hx hb hr hlocks hP hS dX5_expectedAfter_75
    · rw [if_neg c24] at hf
      rcases Decidable.em (a1 = 2) with c28 | c28
      · rw [if_pos c28] at hf
        refine lv_tableIn (tgt := 76) (off := 75) hx hb dX5_expectedAfter_1 (by rw [c28]; decide) (by rw [c28]; decide) (by rw [c28]; rfl) (by decide) ?_
        refine lv_iload_n hx hb dX5_expectedAfter_76 rfl (lv_at hl 1 rfl) ?_
        obtain ⟨r29, m30, hq, hf⟩ := ob_e hf
        refine w_ci (va_runS (As := [.int a2]) (rest := []) ⟨hx, hb, hml, hown, hts⟩ (c_X5_expectedAfterFirstOfCost l D ad cI cR hi fu a2 mm r29 m30 hq) (va_cwS 1 hts gX5_expectedAfter_X5_expectedAfterFirstOfCost rfl rfl rfl (by decide +kernel) ⟨Nat.le_of_ble_eq_true rfl, Nat.le_of_ble_eq_true rfl⟩) (w_preS hK hP hN) rfl rfl hl.1 rfl (lv_room (Nat.le_of_ble_eq_true rfl)) dX5_expectedAfter_77 ⟨Nat.zero_le _, Nat.zero_le _⟩) hA hS (fun H locs hP hS => ?_)
        cases hf
        exact w_iret hx hb hr hlocks hP hS dX5_expectedAfter_80
      · rw [if_neg c28] at hf
        rcases Decidable.em (a1 = 3) with c31 | c31
        · rw [if_pos c31] at hf
          refine lv_tableIn (tgt := 81) (off := 80) hx hb dX5_expectedAfter_1 (by rw [c31]; decide) (by rw [c31]; decide) (by rw [c31]; rfl) (by decide) ?_
          refine lv_bipush (v := 49) hx hb dX5_expectedAfter_81 (by decide) ?_
          refine lv_iload_n hx hb dX5_expectedAfter_83 rfl (lv_at hl 1 rfl) ?_
          refine lv_bipush (v := 57) hx hb dX5_expectedAfter_84 (by decide) ?_
          obtain ⟨r32, m33, hq, hf⟩ := ob_e hf
          refine w_ci (va_runSN (As := [.int 49, .int a2, .int 57]) (rest := []) ⟨hx, hb, hml, hown, hts⟩ (c_X6_isBetween l D ad cI cR hi fu 49 a2 57 mm r32 m33 hq) ⟨va_cnB 3 hts gX5_expectedAfter_X6_isBetween_n37 rfl rfl rfl hN.2.2.2.2 (hts (.initialized RX6) (List.mem_of_getElem? (i := 2) rfl)) (by decide +kernel) ⟨Nat.le_of_ble_eq_true rfl, Nat.le_of_ble_eq_true rfl⟩, (hts (.static yX6_isBetween) (List.mem_of_getElem? (i := 1) rfl)), trivial⟩ (w_preS hK hP hN) rfl rfl hl.1 rfl (lv_room (Nat.le_of_ble_eq_true rfl)) dX5_expectedAfter_86 ⟨Nat.zero_le _, Nat.zero_le _⟩) hA hS (fun H locs hP hS => ?_)
          refine lv_if_eq (tgt := 96) hx hb dX5_expectedAfter_89 (by decide) (fun c34 => ?_) (fun c34 => ?_)
          · rw [if_pos c34] at hf
            refine lv_bipush (v := 7) hx hb dX5_expectedAfter_96 (by decide) ?_
            cases hf
            exact w_iret hx hb hr hlocks hP hS dX5_expectedAfter_98
          · rw [if_neg c34] at hf
            refine lv_iconst (v := 4) hx hb dX5_expectedAfter_92 (by decide) ?_
            refine lv_goto (tgt := 98) hx hb dX5_expectedAfter_93 (by decide) ?_
            cases hf
            exact w_iret hx hb hr hlocks hP hS dX5_expectedAfter_98
        · rw [if_neg c31] at hf
          refine lv_tableOut (tgt := 99) hx hb dX5_expectedAfter_1 (sw_out4 c19 c24 c28 c31) (by decide) ?_
          refine lv_iload_n hx hb dX5_expectedAfter_99 rfl (lv_at hl 0 rfl) ?_
          refine lv_iload_n hx hb dX5_expectedAfter_100 rfl (lv_at hl 1 rfl) ?_
          obtain ⟨r35, m36, hq, hf⟩ := ob_e hf
          refine w_ci (va_runS (As := [.int a1, .int a2]) (rest := []) ⟨hx, hb, hml, hown, hts⟩ (c_X5_expectedAfterNumber l D ad cI cR hi fu a1 a2 mm r35 m36 hq) (va_cwS 2 hts gX5_expectedAfter_X5_expectedAfterNumber rfl rfl rfl (by decide +kernel) ⟨Nat.le_of_ble_eq_true rfl, Nat.le_of_ble_eq_true rfl⟩) (w_preS hK hP hN) rfl rfl hl.1 rfl (lv_room (Nat.le_of_ble_eq_true rfl)) dX5_expectedAfter_101 ⟨Nat.zero_le _, Nat.zero_le _⟩) hA hS (fun H locs hP hS => ?_)
          cases hf
          exact w_iret hx hb hr hlocks hP hS dX5_expectedAfter_104
def F_X5_firstFault_L4 (fu : Nat)   : Nat → Int32 → Int32 → Mem → Option (Int32 × Mem)
  | 0, _, _, _ => none
  | n + 1, x1, x2, mm => if (mm 356 1) ≤ x2 then (if x1 = 4 then (some ((-100005), mm)) else (if x1 = 5 then (some ((-100005), mm)) else (if x1 = 6 then (some ((-100005), mm)) else (some ((mm 356 1), mm))))) else (ob (F_X3_at fu (356 + 1) 80 x2 mm) fun r25 m26 => ob (F_X5_expectedAfter fu x1 r25 m26) fun r27 m28 => if r27 = 7 then (some (x2, m28)) else (bd (x2 + 1) fun v30 => F_X5_firstFault_L4 fu  n r27 v30 m28))
def F_X5_firstFault (fu : Nat)  (mm : Mem) : Option (Int32 × Mem) := F_X5_firstFault_L4 fu  fu 0 0 mm
set_option maxHeartbeats 4000000 in
set_option maxRecDepth 100000 in
theorem c_X5_firstFault (l : Launch) (D : va_G) (ad : Nat → Nat) (cI cR : ClassId) (hi : inj ad) (fu : Nat)   (mm : Mem) (r0 : Int32) (m9 : Mem) (hf : F_X5_firstFault fu  mm = some (r0, m9)) : MI l yX5_firstFault wsX5_firstFault { frames := 3, cells := 0, slots := 0, locals := 64 } D ad cI cR [.ref (ad 356)] mm r0 m9 := by
  refine Met.ofW (cc := cX5_firstFault) (maxL := 3) (ret := (some .int)) (by decide) rfl ?_
  intro p e s m args below meth c s₁ B hml hv
  obtain ⟨rfl, hP, hK, hN⟩ := hv
  have hx := B.exec
  have hb := B.bytes
  have hr := B.returns
  have hts := atoms_spec (ws := wsX5_firstFault) B.pre
  have hown : s.vm.findClass RX5 = some m.cls := findClass_of_methodNamed B.named
  have hlocks := B.notSynchronized
  have hA : ∀ q, AA ad q → AA ad q := fun _ h => h
  have hS : va_S (AA ad) s.heap s.heap [] := va_S.rf
  have hinX5 : ∀ w ∈ wsX50, w ∈ wsX5_firstFault := (fun _ h => List.mem_cons_of_mem _ (List.mem_append_left _ (List.mem_append_right _ h)))
  have hL4 : ∀ (n : Nat) (x1 : Int32) (x2 : Int32)  (mm : Mem) (H : Heap) (locs : List Loc) (ls : Array Slot), F_X5_firstFault_L4 fu   n x1 x2 mm = some (r0, m9) → va_P D vwCl (cw ad cI cR mm) H → va_S (AA ad) s.heap H locs → lv_has ls 3 [(0, .ref (ad 356)), (1, .int x1), (2, .int x2)] → W p l e (headSpec wsX5_firstFault { frames := 3, cells := 0, slots := 0, locals := 64 }).room s m ([.ref (ad 356)] : List Value).toArray below meth c H locs 0 0 (MQ below (va_Qi (fun (r' : Int32) (u : Mem) => r' = r0 ∧ u = m9) (KB D ad cI cR) (AA ad)) ([.ref (ad 356)] : List Value).toArray s 0 0 (AA ad)) (F0 m 4 ls []) := by
    intro n
    induction n with
    | zero =>
      intro x1 x2 mm H locs ls hf hP hS hl
      rw [F_X5_firstFault_L4] at hf
      cases hf
    | succ n4 ih4 =>
      intro x1 x2 mm H locs ls hf hP hS hl
      rw [F_X5_firstFault_L4] at hf
      refine lv_iload_n hx hb dX5_firstFault_4 rfl (lv_at hl 2 rfl) ?_
      refine lv_aload_n hx hb dX5_firstFault_5 rfl (lv_at hl 0 rfl) ?_
      refine w_get (C := RX5) (T := TX5) (N := 2) (ci := 5) (v := .int (mm 356 1)) hx hb hts hinX5 hown hK hP (S_text ad cI cR).1 (S_text ad cI cR).2.1 rfl 1 (by decide) (hts (.fieldLink RX5 20 "AdmissionControl$Text" "length" "I") (List.mem_of_getElem? (i := 1) rfl)) (fun _ h9 => h9) rfl dX5_firstFault_6 ?_
      refine lv_icmp_ge (tgt := 39) hx hb dX5_firstFault_9 (by decide) (fun c21 => ?_) (fun c21 => ?_)
      · rw [if_pos c21] at hf
        refine lv_iload_n hx hb dX5_firstFault_39 rfl (lv_at hl 1 rfl) ?_
        refine lv_iconst (v := 4) hx hb dX5_firstFault_40 (by decide) ?_
        refine lv_icmp_eq (tgt := 55) hx hb dX5_firstFault_41 (by decide) (fun c22 => ?_) (fun c22 => ?_)
        · rw [if_pos c22] at hf
          refine lv_ldc (v := (-100005)) hx hb hown (hts (.constant RX5 36 (-100005)) (List.mem_of_getElem? (i := 3) rfl)) dX5_firstFault_55 ?_
          refine lv_goto (tgt := 64) hx hb dX5_firstFault_57 (by decide) ?_
          cases hf
          exact w_iret hx hb hr hlocks hP hS dX5_firstFault_64
        · rw [if_neg c22] at hf
          refine lv_iload_n hx hb dX5_firstFault_44 rfl (lv_at hl 1 rfl) ?_
          refine lv_iconst (v := 5) hx hb dX5_firstFault_45 (by decide) ?_
          refine lv_icmp_eq (tgt := 55) hx hb dX5_firstFault_46 (by decide) (fun c23 => ?_) (fun c23 => ?_)
          · rw [if_pos c23] at hf
            refine lv_ldc (v := (-100005)) hx hb hown (hts (.constant RX5 36 (-100005)) (List.mem_of_getElem? (i := 3) rfl)) dX5_firstFault_55 ?_
            refine lv_goto (tgt := 64) hx hb dX5_firstFault_57 (by decide) ?_
            cases hf
            exact w_iret hx hb hr hlocks hP hS dX5_firstFault_64
          · rw [if_neg c23] at hf
            refine lv_iload_n hx hb dX5_firstFault_49 rfl (lv_at hl 1 rfl) ?_
            refine lv_bipush (v := 6) hx hb dX5_firstFault_50 (by decide) ?_
            refine lv_icmp_ne (tgt := 60) hx hb dX5_firstFault_52 (by decide) (fun c24 => ?_) (fun c24 => ?_)
            · rw [if_neg c24] at hf
              refine lv_aload_n hx hb dX5_firstFault_60 rfl (lv_at hl 0 rfl) ?_
              refine w_get (C := RX5) (T := TX5) (N := 2) (ci := 5) (v := .int (mm 356 1)) hx hb hts hinX5 hown hK hP (S_text ad cI cR).1 (S_text ad cI cR).2.1 rfl 1 (by decide) (hts (.fieldLink RX5 20 "AdmissionControl$Text" "length" "I") (List.mem_of_getElem? (i := 1) rfl)) (fun _ h9 => h9) rfl dX5_firstFault_61 ?_
              cases hf
              exact w_iret hx hb hr hlocks hP hS dX5_firstFault_64
            · rw [if_pos c24] at hf
              refine lv_ldc (v := (-100005)) hx hb hown (hts (.constant RX5 36 (-100005)) (List.mem_of_getElem? (i := 3) rfl)) dX5_firstFault_55 ?_
              refine lv_goto (tgt := 64) hx hb dX5_firstFault_57 (by decide) ?_
              cases hf
              exact w_iret hx hb hr hlocks hP hS dX5_firstFault_64
      · rw [if_neg c21] at hf
        refine lv_iload_n hx hb dX5_firstFault_12 rfl (lv_at hl 1 rfl) ?_
        refine lv_aload_n hx hb dX5_firstFault_13 rfl (lv_at hl 0 rfl) ?_
        refine w_get (C := RX5) (T := TX5) (N := 2) (ci := 5) (v := .ref (ad (356 + 1))) hx hb hts hinX5 hown hK hP (S_text ad cI cR).1 (S_text ad cI cR).2.1 rfl 0 (by decide) (hts (.fieldLink RX5 14 "AdmissionControl$Text" "characters" "LAdmissionControl$Row;") (List.mem_of_getElem? (i := 2) rfl)) (fun _ h9 => h9) rfl dX5_firstFault_14 ?_
        refine lv_iload_n hx hb dX5_firstFault_17 rfl (lv_at hl 2 rfl) ?_
        obtain ⟨r25, m26, hq, hf⟩ := ob_e hf
        refine w_ci (va_runV (As := [.int x2]) (rest := [.int x1]) ⟨hx, hb, hml, hown, hts⟩ (c_X3_at l D ad cI cR hi fu (356 + 1) 80 x2 (S_text ad cI cR).2.2 mm r25 m26 hq) (cwV 1 hts gX5_firstFault_X3_at rfl rfl rfl (by decide +kernel) ⟨Nat.le_of_ble_eq_true rfl, Nat.le_of_ble_eq_true rfl⟩) (w_preV (ci := 3) hK hP hN (S_text ad cI cR).2.2.1 (S_text ad cI cR).2.2.2.1 rfl) rfl rfl hl.1 rfl (lv_room (Nat.le_of_ble_eq_true rfl)) dX5_firstFault_18 ⟨Nat.zero_le _, Nat.zero_le _⟩) hA hS (fun H locs hP hS => ?_)
        obtain ⟨r27, m28, hq, hf⟩ := ob_e hf
        refine w_ci (va_runS (As := [.int x1, .int r25]) (rest := []) ⟨hx, hb, hml, hown, hts⟩ (c_X5_expectedAfter l D ad cI cR hi fu x1 r25 m26 r27 m28 hq) (va_cwS 2 hts gX5_firstFault_X5_expectedAfter rfl rfl rfl (by decide +kernel) ⟨Nat.le_of_ble_eq_true rfl, Nat.le_of_ble_eq_true rfl⟩) (w_preS hK hP hN) rfl rfl hl.1 rfl (lv_room (Nat.le_of_ble_eq_true rfl)) dX5_firstFault_21 ⟨Nat.zero_le _, Nat.zero_le _⟩) hA hS (fun H locs hP hS => ?_)
        refine lv_istore_n (lv' := [(1, .int r27), (0, .ref (ad 356)), (2, .int x2)]) hx hb dX5_firstFault_24 rfl hl (by decide) rfl (fun ls hl => ?_)
        refine lv_iload_n hx hb dX5_firstFault_25 rfl (lv_at hl 0 rfl) ?_
        refine lv_bipush (v := 7) hx hb dX5_firstFault_26 (by decide) ?_
        refine lv_icmp_ne (tgt := 33) hx hb dX5_firstFault_28 (by decide) (fun c29 => ?_) (fun c29 => ?_)
        · rw [if_neg c29] at hf
          obtain ⟨v30, ev30, hf⟩ := bd_e hf
          refine lv_iinc (v := v30) (lv' := [(2, .int v30), (1, .int r27), (0, .ref (ad 356))]) hx hb dX5_firstFault_33 hl (k := 2) rfl (by rw [ev30]; rfl) (by decide) rfl (fun ls hl => ?_)
          refine lv_goto (tgt := 4) hx hb dX5_firstFault_36 (by decide) ?_
          exact ih4 r27 v30 m28 _ _ _ hf hP hS (lv_sub hl [2, 1, 0] rfl)
        · rw [if_pos c29] at hf
          refine lv_iload_n hx hb dX5_firstFault_31 rfl (lv_at hl 2 rfl) ?_
          cases hf
          exact w_iret hx hb hr hlocks hP hS dX5_firstFault_32
  have hl := lv_entry ([.ref (ad 356)]) (n := 3) (Nat.le_of_ble_eq_true rfl)
  rw [lg_entry_eq]
  generalize (lg_sl ([.ref (ad 356)]) ++ List.replicate (3 - (lg_sl ([.ref (ad 356)])).length) Slot.unset).toArray = ls at hl ⊢
  have hl : lv_has ls 3 [(0, .ref (ad 356))] := hl
  unfold F_X5_firstFault at hf
  refine lv_iconst (v := 0) hx hb dX5_firstFault_0 (by decide) ?_
  refine lv_istore_n (lv' := [(1, .int 0), (0, .ref (ad 356))]) hx hb dX5_firstFault_1 rfl hl (by decide) rfl (fun ls hl => ?_)
  refine lv_iconst (v := 0) hx hb dX5_firstFault_2 (by decide) ?_
  refine lv_istore_n (lv' := [(2, .int 0), (1, .int 0), (0, .ref (ad 356))]) hx hb dX5_firstFault_3 rfl hl (by decide) rfl (fun ls hl => ?_)
  exact hL4 fu 0 0 mm _ _ _ hf hP hS (lv_sub hl [2, 1, 0] rfl)
def F_X5_startsStep (fu : Nat) (a1 : Int32) (mm : Mem) : Option (Int32 × Mem) := if a1 = 0 then (some (1, mm)) else (bd (a1 - 1) fun v7 => ob (F_X3_at fu (356 + 1) 80 v7 mm) fun r8 m9 => if r8 = 59 then (some (1, m9)) else (some (0, m9)))
set_option maxHeartbeats 4000000 in
set_option maxRecDepth 100000 in
theorem c_X5_startsStep (l : Launch) (D : va_G) (ad : Nat → Nat) (cI cR : ClassId) (hi : inj ad) (fu : Nat) (a1 : Int32)  (mm : Mem) (r0 : Int32) (m9 : Mem) (hf : F_X5_startsStep fu a1 mm = some (r0, m9)) : MI l yX5_startsStep wsX5_startsStep { frames := 1, cells := 0, slots := 0, locals := 21 } D ad cI cR [.ref (ad 356), .int a1] mm r0 m9 := by
  refine Met.ofW (cc := cX5_startsStep) (maxL := 2) (ret := (some .boolean)) (by decide) rfl ?_
  intro p e s m args below meth c s₁ B hml hv
  obtain ⟨rfl, hP, hK, hN⟩ := hv
  have hx := B.exec
  have hb := B.bytes
  have hr := B.returns
  have hts := atoms_spec (ws := wsX5_startsStep) B.pre
  have hown : s.vm.findClass RX5 = some m.cls := findClass_of_methodNamed B.named
  have hlocks := B.notSynchronized
  have hA : ∀ q, AA ad q → AA ad q := fun _ h => h
  have hS : va_S (AA ad) s.heap s.heap [] := va_S.rf
  have hinX5 : ∀ w ∈ wsX50, w ∈ wsX5_startsStep := (fun _ h => List.mem_cons_of_mem _ (List.mem_append_left _ (List.mem_append_right _ h)))
  have hl := lv_entry ([.ref (ad 356), .int a1]) (n := 2) (Nat.le_of_ble_eq_true rfl)
  rw [lg_entry_eq]
  generalize (lg_sl ([.ref (ad 356), .int a1]) ++ List.replicate (2 - (lg_sl ([.ref (ad 356), .int a1])).length) Slot.unset).toArray = ls at hl ⊢
  have hl : lv_has ls 2 [(0, .ref (ad 356)), (1, .int a1)] := hl
  unfold F_X5_startsStep at hf
  refine lv_iload_n hx hb dX5_startsStep_0 rfl (lv_at hl 1 rfl) ?_
  refine lv_if_eq (tgt := 19) hx hb dX5_startsStep_1 (by decide) (fun c6 => ?_) (fun c6 => ?_)
  · rw [if_pos c6] at hf
    refine lv_iconst (v := 1) hx hb dX5_startsStep_19 (by decide) ?_
    refine lv_goto (tgt := 24) hx hb dX5_startsStep_20 (by decide) ?_
    cases hf
    exact w_zret hx hb hr hlocks rfl hP hS dX5_startsStep_24
  · rw [if_neg c6] at hf
    refine lv_aload_n hx hb dX5_startsStep_4 rfl (lv_at hl 0 rfl) ?_
    refine w_get (C := RX5) (T := TX5) (N := 2) (ci := 5) (v := .ref (ad (356 + 1))) hx hb hts hinX5 hown hK hP (S_text ad cI cR).1 (S_text ad cI cR).2.1 rfl 0 (by decide) (hts (.fieldLink RX5 14 "AdmissionControl$Text" "characters" "LAdmissionControl$Row;") (List.mem_of_getElem? (i := 1) rfl)) (fun _ h9 => h9) rfl dX5_startsStep_5 ?_
    refine lv_iload_n hx hb dX5_startsStep_8 rfl (lv_at hl 1 rfl) ?_
    refine lv_iconst (v := 1) hx hb dX5_startsStep_9 (by decide) ?_
    obtain ⟨v7, ev7, hf⟩ := bd_e hf
    refine lv_isub hx hb dX5_startsStep_10 ?_
    refine w_top ev7 ?_
    obtain ⟨r8, m9, hq, hf⟩ := ob_e hf
    refine w_ci (va_runV (As := [.int v7]) (rest := []) ⟨hx, hb, hml, hown, hts⟩ (c_X3_at l D ad cI cR hi fu (356 + 1) 80 v7 (S_text ad cI cR).2.2 mm r8 m9 hq) (cwV 1 hts gX5_startsStep_X3_at rfl rfl rfl (by decide +kernel) ⟨Nat.le_of_ble_eq_true rfl, Nat.le_of_ble_eq_true rfl⟩) (w_preV (ci := 3) hK hP hN (S_text ad cI cR).2.2.1 (S_text ad cI cR).2.2.2.1 rfl) rfl rfl hl.1 rfl (lv_room (Nat.le_of_ble_eq_true rfl)) dX5_startsStep_11 ⟨Nat.zero_le _, Nat.zero_le _⟩) hA hS (fun H locs hP hS => ?_)
    refine lv_bipush (v := 59) hx hb dX5_startsStep_14 (by decide) ?_
    refine lv_icmp_ne (tgt := 23) hx hb dX5_startsStep_16 (by decide) (fun c10 => ?_) (fun c10 => ?_)
    · rw [if_neg c10] at hf
      refine lv_iconst (v := 0) hx hb dX5_startsStep_23 (by decide) ?_
      cases hf
      exact w_zret hx hb hr hlocks rfl hP hS dX5_startsStep_24
    · rw [if_pos c10] at hf
      refine lv_iconst (v := 1) hx hb dX5_startsStep_19 (by decide) ?_
      refine lv_goto (tgt := 24) hx hb dX5_startsStep_20 (by decide) ?_
      cases hf
      exact w_zret hx hb hr hlocks rfl hP hS dX5_startsStep_24
def F_X5_numberAt (fu : Nat) (a1 : Int32) (mm : Mem) : Option (Int32 × Mem) := ob (F_X3_at fu (356 + 1) 80 a1 mm) fun r16 m17 => bd (r16 - 48) fun v18 => bd (a1 + 1) fun v19 => if (m17 356 1) ≤ v19 then (some (v18, m17)) else (ob (F_X3_at fu (356 + 1) 80 v19 m17) fun r21 m22 => ob (F_X6_isBetween fu 48 r21 57 m22) fun r23 m24 => if r23 = 0 then (some (v18, m24)) else (bd (v18 * 10) fun v26 => ob (F_X3_at fu (356 + 1) 80 v19 m24) fun r27 m28 => bd (v26 + r27) fun v29 => bd (v29 - 48) fun v30 => some (v30, m28)))
set_option maxHeartbeats 4000000 in
set_option maxRecDepth 100000 in
theorem c_X5_numberAt (l : Launch) (D : va_G) (ad : Nat → Nat) (cI cR : ClassId) (hi : inj ad) (fu : Nat) (a1 : Int32)  (mm : Mem) (r0 : Int32) (m9 : Mem) (hf : F_X5_numberAt fu a1 mm = some (r0, m9)) : MI l yX5_numberAt wsX5_numberAt { frames := 1, cells := 0, slots := 0, locals := 22 } D ad cI cR [.ref (ad 356), .int a1] mm r0 m9 := by
  refine Met.ofW (cc := cX5_numberAt) (maxL := 4) (ret := (some .int)) (by decide) rfl ?_
  intro p e s m args below meth c s₁ B hml hv
  obtain ⟨rfl, hP, hK, hN⟩ := hv
  have hx := B.exec
  have hb := B.bytes
  have hr := B.returns
  have hts := atoms_spec (ws := wsX5_numberAt) B.pre
  have hown : s.vm.findClass RX5 = some m.cls := findClass_of_methodNamed B.named
  have hlocks := B.notSynchronized
  have hA : ∀ q, AA ad q → AA ad q := fun _ h => h
  have hS : va_S (AA ad) s.heap s.heap [] := va_S.rf
  have hinX5 : ∀ w ∈ wsX50, w ∈ wsX5_numberAt := (fun _ h => List.mem_cons_of_mem _ (List.mem_append_left _ (List.mem_append_right _ h)))
  have hl := lv_entry ([.ref (ad 356), .int a1]) (n := 4) (Nat.le_of_ble_eq_true rfl)
  rw [lg_entry_eq]
  generalize (lg_sl ([.ref (ad 356), .int a1]) ++ List.replicate (4 - (lg_sl ([.ref (ad 356), .int a1])).length) Slot.unset).toArray = ls at hl ⊢
  have hl : lv_has ls 4 [(0, .ref (ad 356)), (1, .int a1)] := hl
  unfold F_X5_numberAt at hf
  refine lv_aload_n hx hb dX5_numberAt_0 rfl (lv_at hl 0 rfl) ?_
  refine w_get (C := RX5) (T := TX5) (N := 2) (ci := 5) (v := .ref (ad (356 + 1))) hx hb hts hinX5 hown hK hP (S_text ad cI cR).1 (S_text ad cI cR).2.1 rfl 0 (by decide) (hts (.fieldLink RX5 14 "AdmissionControl$Text" "characters" "LAdmissionControl$Row;") (List.mem_of_getElem? (i := 1) rfl)) (fun _ h9 => h9) rfl dX5_numberAt_1 ?_
  refine lv_iload_n hx hb dX5_numberAt_4 rfl (lv_at hl 1 rfl) ?_
  obtain ⟨r16, m17, hq, hf⟩ := ob_e hf
  refine w_ci (va_runV (As := [.int a1]) (rest := []) ⟨hx, hb, hml, hown, hts⟩ (c_X3_at l D ad cI cR hi fu (356 + 1) 80 a1 (S_text ad cI cR).2.2 mm r16 m17 hq) (cwV 1 hts gX5_numberAt_X3_at rfl rfl rfl (by decide +kernel) ⟨Nat.le_of_ble_eq_true rfl, Nat.le_of_ble_eq_true rfl⟩) (w_preV (ci := 3) hK hP hN (S_text ad cI cR).2.2.1 (S_text ad cI cR).2.2.2.1 rfl) rfl rfl hl.1 rfl (lv_room (Nat.le_of_ble_eq_true rfl)) dX5_numberAt_5 ⟨Nat.zero_le _, Nat.zero_le _⟩) hA hS (fun H locs hP hS => ?_)
  refine lv_bipush (v := 48) hx hb dX5_numberAt_8 (by decide) ?_
  obtain ⟨v18, ev18, hf⟩ := bd_e hf
  refine lv_isub hx hb dX5_numberAt_10 ?_
  refine w_top ev18 ?_
  refine lv_istore_n (lv' := [(2, .int v18), (0, .ref (ad 356)), (1, .int a1)]) hx hb dX5_numberAt_11 rfl hl (by decide) rfl (fun ls hl => ?_)
  refine lv_iload_n hx hb dX5_numberAt_12 rfl (lv_at hl 2 rfl) ?_
  refine lv_iconst (v := 1) hx hb dX5_numberAt_13 (by decide) ?_
  obtain ⟨v19, ev19, hf⟩ := bd_e hf
  refine lv_iadd hx hb dX5_numberAt_14 ?_
  refine w_top ev19 ?_
  refine lv_istore_n (lv' := [(3, .int v19), (2, .int v18), (0, .ref (ad 356)), (1, .int a1)]) hx hb dX5_numberAt_15 rfl hl (by decide) rfl (fun ls hl => ?_)
  refine lv_iload_n hx hb dX5_numberAt_16 rfl (lv_at hl 0 rfl) ?_
  refine lv_aload_n hx hb dX5_numberAt_17 rfl (lv_at hl 2 rfl) ?_
  refine w_get (C := RX5) (T := TX5) (N := 2) (ci := 5) (v := .int (m17 356 1)) hx hb hts hinX5 hown hK hP (S_text ad cI cR).1 (S_text ad cI cR).2.1 rfl 1 (by decide) (hts (.fieldLink RX5 20 "AdmissionControl$Text" "length" "I") (List.mem_of_getElem? (i := 2) rfl)) (fun _ h9 => h9) rfl dX5_numberAt_18 ?_
  refine lv_icmp_ge (tgt := 59) hx hb dX5_numberAt_21 (by decide) (fun c20 => ?_) (fun c20 => ?_)
  · rw [if_pos c20] at hf
    refine lv_iload_n hx hb dX5_numberAt_59 rfl (lv_at hl 1 rfl) ?_
    cases hf
    exact w_iret hx hb hr hlocks hP hS dX5_numberAt_60
  · rw [if_neg c20] at hf
    refine lv_bipush (v := 48) hx hb dX5_numberAt_24 (by decide) ?_
    refine lv_aload_n hx hb dX5_numberAt_26 rfl (lv_at hl 2 rfl) ?_
    refine w_get (C := RX5) (T := TX5) (N := 2) (ci := 5) (v := .ref (ad (356 + 1))) hx hb hts hinX5 hown hK hP (S_text ad cI cR).1 (S_text ad cI cR).2.1 rfl 0 (by decide) (hts (.fieldLink RX5 14 "AdmissionControl$Text" "characters" "LAdmissionControl$Row;") (List.mem_of_getElem? (i := 1) rfl)) (fun _ h9 => h9) rfl dX5_numberAt_27 ?_
    refine lv_iload_n hx hb dX5_numberAt_30 rfl (lv_at hl 0 rfl) ?_
    obtain ⟨r21, m22, hq, hf⟩ := ob_e hf
    refine w_ci (va_runV (As := [.int v19]) (rest := [.int 48]) ⟨hx, hb, hml, hown, hts⟩ (c_X3_at l D ad cI cR hi fu (356 + 1) 80 v19 (S_text ad cI cR).2.2 m17 r21 m22 hq) (cwV 1 hts gX5_numberAt_X3_at rfl rfl rfl (by decide +kernel) ⟨Nat.le_of_ble_eq_true rfl, Nat.le_of_ble_eq_true rfl⟩) (w_preV (ci := 3) hK hP hN (S_text ad cI cR).2.2.1 (S_text ad cI cR).2.2.2.1 rfl) rfl rfl hl.1 rfl (lv_room (Nat.le_of_ble_eq_true rfl)) dX5_numberAt_31 ⟨Nat.zero_le _, Nat.zero_le _⟩) hA hS (fun H locs hP hS => ?_)
    refine lv_bipush (v := 57) hx hb dX5_numberAt_34 (by decide) ?_
    obtain ⟨r23, m24, hq, hf⟩ := ob_e hf
    refine w_ci (va_runSN (As := [.int 48, .int r21, .int 57]) (rest := []) ⟨hx, hb, hml, hown, hts⟩ (c_X6_isBetween l D ad cI cR hi fu 48 r21 57 m22 r23 m24 hq) ⟨va_cnB 3 hts gX5_numberAt_X6_isBetween_n37 rfl rfl rfl hN.2.2.2.2 (hts (.initialized RX6) (List.mem_of_getElem? (i := 10) rfl)) (by decide +kernel) ⟨Nat.le_of_ble_eq_true rfl, Nat.le_of_ble_eq_true rfl⟩, (hts (.static yX6_isBetween) (List.mem_of_getElem? (i := 9) rfl)), trivial⟩ (w_preS hK hP hN) rfl rfl hl.1 rfl (lv_room (Nat.le_of_ble_eq_true rfl)) dX5_numberAt_36 ⟨Nat.zero_le _, Nat.zero_le _⟩) hA hS (fun H locs hP hS => ?_)
    refine lv_if_eq (tgt := 59) hx hb dX5_numberAt_39 (by decide) (fun c25 => ?_) (fun c25 => ?_)
    · rw [if_pos c25] at hf
      refine lv_iload_n hx hb dX5_numberAt_59 rfl (lv_at hl 1 rfl) ?_
      cases hf
      exact w_iret hx hb hr hlocks hP hS dX5_numberAt_60
    · rw [if_neg c25] at hf
      refine lv_iload_n hx hb dX5_numberAt_42 rfl (lv_at hl 1 rfl) ?_
      refine lv_bipush (v := 10) hx hb dX5_numberAt_43 (by decide) ?_
      obtain ⟨v26, ev26, hf⟩ := bd_e hf
      refine lv_imul hx hb dX5_numberAt_45 ?_
      refine w_top ev26 ?_
      refine lv_aload_n hx hb dX5_numberAt_46 rfl (lv_at hl 2 rfl) ?_
      refine w_get (C := RX5) (T := TX5) (N := 2) (ci := 5) (v := .ref (ad (356 + 1))) hx hb hts hinX5 hown hK hP (S_text ad cI cR).1 (S_text ad cI cR).2.1 rfl 0 (by decide) (hts (.fieldLink RX5 14 "AdmissionControl$Text" "characters" "LAdmissionControl$Row;") (List.mem_of_getElem? (i := 1) rfl)) (fun _ h9 => h9) rfl dX5_numberAt_47 ?_
      refine lv_iload_n hx hb dX5_numberAt_50 rfl (lv_at hl 0 rfl) ?_
      obtain ⟨r27, m28, hq, hf⟩ := ob_e hf
      refine w_ci (va_runV (As := [.int v19]) (rest := [.int v26]) ⟨hx, hb, hml, hown, hts⟩ (c_X3_at l D ad cI cR hi fu (356 + 1) 80 v19 (S_text ad cI cR).2.2 m24 r27 m28 hq) (cwV 1 hts gX5_numberAt_X3_at rfl rfl rfl (by decide +kernel) ⟨Nat.le_of_ble_eq_true rfl, Nat.le_of_ble_eq_true rfl⟩) (w_preV (ci := 3) hK hP hN (S_text ad cI cR).2.2.1 (S_text ad cI cR).2.2.2.1 rfl) rfl rfl hl.1 rfl (lv_room (Nat.le_of_ble_eq_true rfl)) dX5_numberAt_51 ⟨Nat.zero_le _, Nat.zero_le _⟩) hA hS (fun H locs hP hS => ?_)
      obtain ⟨v29, ev29, hf⟩ := bd_e hf
      refine lv_iadd hx hb dX5_numberAt_54 ?_
      refine w_top ev29 ?_
      refine lv_bipush (v := 48) hx hb dX5_numberAt_55 (by decide) ?_
      obtain ⟨v30, ev30, hf⟩ := bd_e hf
      refine lv_isub hx hb dX5_numberAt_57 ?_
      refine w_top ev30 ?_
      cases hf
      exact w_iret hx hb hr hlocks hP hS dX5_numberAt_58
def F_X0_keep (fu : Nat) (b1 : Nat) (mm : Mem) : Option (Mem) := bd ((mm 119 3).toNatClampNeg) fun c14 => gd (isSb c14) (bd ((mm 119 2).toNatClampNeg) fun c15 => gd (isSb c15) (bd (mput mm 119 3 (nI c15)) fun m16 => bd ((m16 119 1).toNatClampNeg) fun c17 => gd (isSb c17) (bd (mput m16 119 2 (nI c17)) fun m18 => bd ((m18 119 0).toNatClampNeg) fun c19 => gd (isSb c19) (bd (mput m18 119 1 (nI c19)) fun m20 => bd (mput m20 119 0 (nI c14)) fun m21 => bd ((m21 119 0).toNatClampNeg) fun c22 => gd (isSb c22) (ov (F_X4_copyFrom fu c22 b1 m21) fun m23 => bd ((m23 119 4) + 1) fun v24 => bd (if 4 < v24 then 4 else v24) fun v25 => bd (mput m23 119 4 v25) fun m26 => some m26)))))
set_option maxHeartbeats 4000000 in
set_option maxRecDepth 100000 in
theorem c_X0_keep (l : Launch) (D : va_G) (ad : Nat → Nat) (cI cR : ClassId) (hi : inj ad) (fu : Nat) (b1 : Nat) (hb1 : sSrv ad cI cR b1) (mm : Mem) (m9 : Mem) (hf : F_X0_keep fu b1 mm = some m9) : MV l yX0_keep wsX0_keep { frames := 3, cells := 0, slots := 0, locals := 67 } D ad cI cR [.ref (ad 119), .ref (ad b1)] mm m9 := by
  refine Met.ofW (cc := cX0_keep) (maxL := 3) (ret := none) (by decide) rfl ?_
  intro p e s m args below meth c s₁ B hml hv
  obtain ⟨rfl, hP, hK, hN⟩ := hv
  have hx := B.exec
  have hb := B.bytes
  have hr := B.returns
  have hts := atoms_spec (ws := wsX0_keep) B.pre
  have hown : s.vm.findClass RX0 = some m.cls := findClass_of_methodNamed B.named
  have hlocks := B.notSynchronized
  have hA : ∀ q, AA ad q → AA ad q := fun _ h => h
  have hS : va_S (AA ad) s.heap s.heap [] := va_S.rf
  have hinX0 : ∀ w ∈ wsX00, w ∈ wsX0_keep := (fun _ h => List.mem_cons_of_mem _ (List.mem_append_left _ (List.mem_append_left _ (List.mem_append_left _ (List.mem_append_left _ (List.mem_append_right _ h))))))
  have hl := lv_entry ([.ref (ad 119), .ref (ad b1)]) (n := 3) (Nat.le_of_ble_eq_true rfl)
  rw [lg_entry_eq]
  generalize (lg_sl ([.ref (ad 119), .ref (ad b1)]) ++ List.replicate (3 - (lg_sl ([.ref (ad 119), .ref (ad b1)])).length) Slot.unset).toArray = ls at hl ⊢
  have hl : lv_has ls 3 [(0, .ref (ad 119)), (1, .ref (ad b1))] := hl
  unfold F_X0_keep at hf
  refine lv_aload_n hx hb dX0_keep_0 rfl (lv_at hl 0 rfl) ?_
  obtain ⟨c14, ec14, hf⟩ := bd_e hf
  obtain ⟨gc14, hf⟩ := gd_e hf
  refine w_get (C := RX0) (T := TX0) (N := 5) (ci := 0) (v := .ref (ad c14)) hx hb hts hinX0 hown hK hP (S_hist ad cI cR).1 (S_hist ad cI cR).2 rfl 3 (by decide) (hts (.fieldLink RX0 24 "AdmissionControl$History" "oldest" "LAdmissionControl$Server;") (List.mem_of_getElem? (i := 1) rfl)) (fun _ h9 => h9) (by rw [ec14]; rfl) dX0_keep_1 ?_
  refine lv_astore_n (lv' := [(2, .ref (ad c14)), (0, .ref (ad 119)), (1, .ref (ad b1))]) hx hb dX0_keep_4 rfl hl (by decide) rfl (fun ls hl => ?_)
  refine lv_aload_n hx hb dX0_keep_5 rfl (lv_at hl 1 rfl) ?_
  refine lv_aload_n hx hb dX0_keep_6 rfl (lv_at hl 1 rfl) ?_
  obtain ⟨c15, ec15, hf⟩ := bd_e hf
  obtain ⟨gc15, hf⟩ := gd_e hf
  refine w_get (C := RX0) (T := TX0) (N := 5) (ci := 0) (v := .ref (ad c15)) hx hb hts hinX0 hown hK hP (S_hist ad cI cR).1 (S_hist ad cI cR).2 rfl 2 (by decide) (hts (.fieldLink RX0 21 "AdmissionControl$History" "third" "LAdmissionControl$Server;") (List.mem_of_getElem? (i := 2) rfl)) (fun _ h9 => h9) (by rw [ec15]; rfl) dX0_keep_7 ?_
  obtain ⟨m16, em16, hf⟩ := bd_e hf
  refine w_put (C := RX0) (T := TX0) (N := 5) (ci := 0) (x := (nI c15)) hx hb hts hinX0 tyX0 tyX0_ok nmX0 hown hi hA hK hP hS (S_hist ad cI cR).1 (S_hist ad cI cR).2 rfl 3 (by decide) (hts (.fieldLink RX0 24 "AdmissionControl$History" "oldest" "LAdmissionControl$Server;") (List.mem_of_getElem? (i := 1) rfl)) (fun _ h9 => h9) rfl rfl rfl (Nat.le_of_ble_eq_true rfl) (hist_set3 ad gc15 _) dX0_keep_10 (fun H locs hP hS => ?_)
  rw [← em16] at hP
  refine lv_aload_n hx hb dX0_keep_13 rfl (lv_at hl 1 rfl) ?_
  refine lv_aload_n hx hb dX0_keep_14 rfl (lv_at hl 1 rfl) ?_
  obtain ⟨c17, ec17, hf⟩ := bd_e hf
  obtain ⟨gc17, hf⟩ := gd_e hf
  refine w_get (C := RX0) (T := TX0) (N := 5) (ci := 0) (v := .ref (ad c17)) hx hb hts hinX0 hown hK hP (S_hist ad cI cR).1 (S_hist ad cI cR).2 rfl 1 (by decide) (hts (.fieldLink RX0 18 "AdmissionControl$History" "second" "LAdmissionControl$Server;") (List.mem_of_getElem? (i := 3) rfl)) (fun _ h9 => h9) (by rw [ec17]; rfl) dX0_keep_15 ?_
  obtain ⟨m18, em18, hf⟩ := bd_e hf
  refine w_put (C := RX0) (T := TX0) (N := 5) (ci := 0) (x := (nI c17)) hx hb hts hinX0 tyX0 tyX0_ok nmX0 hown hi hA hK hP hS (S_hist ad cI cR).1 (S_hist ad cI cR).2 rfl 2 (by decide) (hts (.fieldLink RX0 21 "AdmissionControl$History" "third" "LAdmissionControl$Server;") (List.mem_of_getElem? (i := 2) rfl)) (fun _ h9 => h9) rfl rfl rfl (Nat.le_of_ble_eq_true rfl) (hist_set2 ad gc17 _) dX0_keep_18 (fun H locs hP hS => ?_)
  rw [← em18] at hP
  refine lv_aload_n hx hb dX0_keep_21 rfl (lv_at hl 1 rfl) ?_
  refine lv_aload_n hx hb dX0_keep_22 rfl (lv_at hl 1 rfl) ?_
  obtain ⟨c19, ec19, hf⟩ := bd_e hf
  obtain ⟨gc19, hf⟩ := gd_e hf
  refine w_get (C := RX0) (T := TX0) (N := 5) (ci := 0) (v := .ref (ad c19)) hx hb hts hinX0 hown hK hP (S_hist ad cI cR).1 (S_hist ad cI cR).2 rfl 0 (by decide) (hts (.fieldLink RX0 12 "AdmissionControl$History" "newest" "LAdmissionControl$Server;") (List.mem_of_getElem? (i := 4) rfl)) (fun _ h9 => h9) (by rw [ec19]; rfl) dX0_keep_23 ?_
  obtain ⟨m20, em20, hf⟩ := bd_e hf
  refine w_put (C := RX0) (T := TX0) (N := 5) (ci := 0) (x := (nI c19)) hx hb hts hinX0 tyX0 tyX0_ok nmX0 hown hi hA hK hP hS (S_hist ad cI cR).1 (S_hist ad cI cR).2 rfl 1 (by decide) (hts (.fieldLink RX0 18 "AdmissionControl$History" "second" "LAdmissionControl$Server;") (List.mem_of_getElem? (i := 3) rfl)) (fun _ h9 => h9) rfl rfl rfl (Nat.le_of_ble_eq_true rfl) (hist_set1 ad gc19 _) dX0_keep_26 (fun H locs hP hS => ?_)
  rw [← em20] at hP
  refine lv_aload_n hx hb dX0_keep_29 rfl (lv_at hl 1 rfl) ?_
  refine lv_aload_n hx hb dX0_keep_30 rfl (lv_at hl 0 rfl) ?_
  obtain ⟨m21, em21, hf⟩ := bd_e hf
  refine w_put (C := RX0) (T := TX0) (N := 5) (ci := 0) (x := (nI c14)) hx hb hts hinX0 tyX0 tyX0_ok nmX0 hown hi hA hK hP hS (S_hist ad cI cR).1 (S_hist ad cI cR).2 rfl 0 (by decide) (hts (.fieldLink RX0 12 "AdmissionControl$History" "newest" "LAdmissionControl$Server;") (List.mem_of_getElem? (i := 4) rfl)) (fun _ h9 => h9) rfl rfl rfl (Nat.le_of_ble_eq_true rfl) (hist_set0 ad gc14 _) dX0_keep_31 (fun H locs hP hS => ?_)
  rw [← em21] at hP
  refine lv_aload_n hx hb dX0_keep_34 rfl (lv_at hl 1 rfl) ?_
  obtain ⟨c22, ec22, hf⟩ := bd_e hf
  obtain ⟨gc22, hf⟩ := gd_e hf
  refine w_get (C := RX0) (T := TX0) (N := 5) (ci := 0) (v := .ref (ad c22)) hx hb hts hinX0 hown hK hP (S_hist ad cI cR).1 (S_hist ad cI cR).2 rfl 0 (by decide) (hts (.fieldLink RX0 12 "AdmissionControl$History" "newest" "LAdmissionControl$Server;") (List.mem_of_getElem? (i := 4) rfl)) (fun _ h9 => h9) (by rw [ec22]; rfl) dX0_keep_35 ?_
  refine lv_aload_n hx hb dX0_keep_38 rfl (lv_at hl 2 rfl) ?_
  obtain ⟨m23, hq, hf⟩ := ov_e hf
  refine w_cv (va_runV (As := [.ref (ad b1)]) (rest := []) ⟨hx, hb, hml, hown, hts⟩ (c_X4_copyFrom l D ad cI cR hi fu c22 b1 (isSb_srv ad cI cR gc22) hb1 m21 m23 hq) (cwV 1 hts gX0_keep_X4_copyFrom rfl rfl rfl (by decide +kernel) ⟨Nat.le_of_ble_eq_true rfl, Nat.le_of_ble_eq_true rfl⟩) (w_preV (ci := 4) hK hP hN (isSb_srv ad cI cR gc22).1 (isSb_srv ad cI cR gc22).2.1 rfl) rfl rfl hl.1 rfl (lv_room (Nat.le_of_ble_eq_true rfl)) dX0_keep_39 ⟨Nat.zero_le _, Nat.zero_le _⟩) hA hS (fun H locs hP hS => ?_)
  refine lv_aload_n hx hb dX0_keep_42 rfl (lv_at hl 1 rfl) ?_
  refine lv_aload_n hx hb dX0_keep_43 rfl (lv_at hl 1 rfl) ?_
  refine w_get (C := RX0) (T := TX0) (N := 5) (ci := 0) (v := .int (m23 119 4)) hx hb hts hinX0 hown hK hP (S_hist ad cI cR).1 (S_hist ad cI cR).2 rfl 4 (by decide) (hts (.fieldLink RX0 27 "AdmissionControl$History" "states" "I") (List.mem_of_getElem? (i := 5) rfl)) (fun _ h9 => h9) rfl dX0_keep_44 ?_
  refine lv_iconst (v := 1) hx hb dX0_keep_47 (by decide) ?_
  obtain ⟨v24, ev24, hf⟩ := bd_e hf
  refine lv_iadd hx hb dX0_keep_48 ?_
  refine w_top ev24 ?_
  refine lv_iconst (v := 4) hx hb dX0_keep_49 (by decide) ?_
  obtain ⟨v25, ev25, hf⟩ := bd_e hf
  refine va_mmin hx hb (hml.trans hl.1.symm) hown (hts (.methodLink RX0 35 Lib.Math.min.name) (List.mem_of_getElem? (i := 6) rfl)) (hts (.static Lib.Math.min.name) (List.mem_of_getElem? (i := 7) rfl)) (hts (.initialized "java/lang/Math") (List.mem_of_getElem? (i := 8) rfl)) (hts (.code Lib.Math.min.name Lib.Math.min.code 2 (some .int)) (List.mem_of_getElem? (i := 9) rfl)) (Nat.le_of_ble_eq_true rfl) (Nat.le_of_ble_eq_true rfl) (Nat.zero_le _) (Nat.zero_le _) dX0_keep_50 ?_
  refine w_top ev25 ?_
  obtain ⟨m26, em26, hf⟩ := bd_e hf
  refine w_put (C := RX0) (T := TX0) (N := 5) (ci := 0) (x := v25) hx hb hts hinX0 tyX0 tyX0_ok nmX0 hown hi hA hK hP hS (S_hist ad cI cR).1 (S_hist ad cI cR).2 rfl 4 (by decide) (hts (.fieldLink RX0 27 "AdmissionControl$History" "states" "I") (List.mem_of_getElem? (i := 5) rfl)) (fun _ h9 => h9) rfl rfl rfl (Nat.le_of_ble_eq_true rfl) rfl dX0_keep_53 (fun H locs hP hS => ?_)
  rw [← em26] at hP
  cases hf
  exact w_vret hx hb hr hlocks hP hS dX0_keep_56
def F_X0_restore (fu : Nat) (b1 : Nat) (mm : Mem) : Option (Mem) := bd ((mm 119 0).toNatClampNeg) fun c14 => gd (isSb c14) (ov (F_X4_copyFrom fu b1 c14 mm) fun m15 => bd ((m15 119 0).toNatClampNeg) fun c16 => gd (isSb c16) (bd ((m15 119 1).toNatClampNeg) fun c17 => gd (isSb c17) (bd (mput m15 119 0 (nI c17)) fun m18 => bd ((m18 119 2).toNatClampNeg) fun c19 => gd (isSb c19) (bd (mput m18 119 1 (nI c19)) fun m20 => bd ((m20 119 3).toNatClampNeg) fun c21 => gd (isSb c21) (bd (mput m20 119 2 (nI c21)) fun m22 => bd (mput m22 119 3 (nI c16)) fun m23 => bd ((m23 119 4) - 1) fun v24 => bd (if v24 < 0 then 0 else v24) fun v25 => bd (mput m23 119 4 v25) fun m26 => some m26)))))
set_option maxHeartbeats 4000000 in
set_option maxRecDepth 100000 in
theorem c_X0_restore (l : Launch) (D : va_G) (ad : Nat → Nat) (cI cR : ClassId) (hi : inj ad) (fu : Nat) (b1 : Nat) (hb1 : sSrv ad cI cR b1) (mm : Mem) (m9 : Mem) (hf : F_X0_restore fu b1 mm = some m9) : MV l yX0_restore wsX0_restore { frames := 3, cells := 0, slots := 0, locals := 67 } D ad cI cR [.ref (ad 119), .ref (ad b1)] mm m9 := by
  refine Met.ofW (cc := cX0_restore) (maxL := 3) (ret := none) (by decide) rfl ?_
  intro p e s m args below meth c s₁ B hml hv
  obtain ⟨rfl, hP, hK, hN⟩ := hv
  have hx := B.exec
  have hb := B.bytes
  have hr := B.returns
  have hts := atoms_spec (ws := wsX0_restore) B.pre
  have hown : s.vm.findClass RX0 = some m.cls := findClass_of_methodNamed B.named
  have hlocks := B.notSynchronized
  have hA : ∀ q, AA ad q → AA ad q := fun _ h => h
  have hS : va_S (AA ad) s.heap s.heap [] := va_S.rf
  have hinX0 : ∀ w ∈ wsX00, w ∈ wsX0_restore := (fun _ h => List.mem_cons_of_mem _ (List.mem_append_left _ (List.mem_append_left _ (List.mem_append_left _ (List.mem_append_left _ (List.mem_append_right _ h))))))
  have hl := lv_entry ([.ref (ad 119), .ref (ad b1)]) (n := 3) (Nat.le_of_ble_eq_true rfl)
  rw [lg_entry_eq]
  generalize (lg_sl ([.ref (ad 119), .ref (ad b1)]) ++ List.replicate (3 - (lg_sl ([.ref (ad 119), .ref (ad b1)])).length) Slot.unset).toArray = ls at hl ⊢
  have hl : lv_has ls 3 [(0, .ref (ad 119)), (1, .ref (ad b1))] := hl
  unfold F_X0_restore at hf
  refine lv_aload_n hx hb dX0_restore_0 rfl (lv_at hl 1 rfl) ?_
  refine lv_aload_n hx hb dX0_restore_1 rfl (lv_at hl 0 rfl) ?_
  obtain ⟨c14, ec14, hf⟩ := bd_e hf
  obtain ⟨gc14, hf⟩ := gd_e hf
  refine w_get (C := RX0) (T := TX0) (N := 5) (ci := 0) (v := .ref (ad c14)) hx hb hts hinX0 hown hK hP (S_hist ad cI cR).1 (S_hist ad cI cR).2 rfl 0 (by decide) (hts (.fieldLink RX0 12 "AdmissionControl$History" "newest" "LAdmissionControl$Server;") (List.mem_of_getElem? (i := 1) rfl)) (fun _ h9 => h9) (by rw [ec14]; rfl) dX0_restore_2 ?_
  obtain ⟨m15, hq, hf⟩ := ov_e hf
  refine w_cv (va_runV (As := [.ref (ad c14)]) (rest := []) ⟨hx, hb, hml, hown, hts⟩ (c_X4_copyFrom l D ad cI cR hi fu b1 c14 hb1 (isSb_srv ad cI cR gc14) mm m15 hq) (cwV 1 hts gX0_restore_X4_copyFrom rfl rfl rfl (by decide +kernel) ⟨Nat.le_of_ble_eq_true rfl, Nat.le_of_ble_eq_true rfl⟩) (w_preV (ci := 4) hK hP hN hb1.1 hb1.2.1 rfl) rfl rfl hl.1 rfl (lv_room (Nat.le_of_ble_eq_true rfl)) dX0_restore_5 ⟨Nat.zero_le _, Nat.zero_le _⟩) hA hS (fun H locs hP hS => ?_)
  refine lv_aload_n hx hb dX0_restore_8 rfl (lv_at hl 0 rfl) ?_
  obtain ⟨c16, ec16, hf⟩ := bd_e hf
  obtain ⟨gc16, hf⟩ := gd_e hf
  refine w_get (C := RX0) (T := TX0) (N := 5) (ci := 0) (v := .ref (ad c16)) hx hb hts hinX0 hown hK hP (S_hist ad cI cR).1 (S_hist ad cI cR).2 rfl 0 (by decide) (hts (.fieldLink RX0 12 "AdmissionControl$History" "newest" "LAdmissionControl$Server;") (List.mem_of_getElem? (i := 1) rfl)) (fun _ h9 => h9) (by rw [ec16]; rfl) dX0_restore_9 ?_
  refine lv_astore_n (lv' := [(2, .ref (ad c16)), (0, .ref (ad 119)), (1, .ref (ad b1))]) hx hb dX0_restore_12 rfl hl (by decide) rfl (fun ls hl => ?_)
  refine lv_aload_n hx hb dX0_restore_13 rfl (lv_at hl 1 rfl) ?_
  refine lv_aload_n hx hb dX0_restore_14 rfl (lv_at hl 1 rfl) ?_
  obtain ⟨c17, ec17, hf⟩ := bd_e hf
  obtain ⟨gc17, hf⟩ := gd_e hf
  refine w_get (C := RX0) (T := TX0) (N := 5) (ci := 0) (v := .ref (ad c17)) hx hb hts hinX0 hown hK hP (S_hist ad cI cR).1 (S_hist ad cI cR).2 rfl 1 (by decide) (hts (.fieldLink RX0 18 "AdmissionControl$History" "second" "LAdmissionControl$Server;") (List.mem_of_getElem? (i := 2) rfl)) (fun _ h9 => h9) (by rw [ec17]; rfl) dX0_restore_15 ?_
  obtain ⟨m18, em18, hf⟩ := bd_e hf
  refine w_put (C := RX0) (T := TX0) (N := 5) (ci := 0) (x := (nI c17)) hx hb hts hinX0 tyX0 tyX0_ok nmX0 hown hi hA hK hP hS (S_hist ad cI cR).1 (S_hist ad cI cR).2 rfl 0 (by decide) (hts (.fieldLink RX0 12 "AdmissionControl$History" "newest" "LAdmissionControl$Server;") (List.mem_of_getElem? (i := 1) rfl)) (fun _ h9 => h9) rfl rfl rfl (Nat.le_of_ble_eq_true rfl) (hist_set0 ad gc17 _) dX0_restore_18 (fun H locs hP hS => ?_)
  rw [← em18] at hP
  refine lv_aload_n hx hb dX0_restore_21 rfl (lv_at hl 1 rfl) ?_
  refine lv_aload_n hx hb dX0_restore_22 rfl (lv_at hl 1 rfl) ?_
  obtain ⟨c19, ec19, hf⟩ := bd_e hf
  obtain ⟨gc19, hf⟩ := gd_e hf
  refine w_get (C := RX0) (T := TX0) (N := 5) (ci := 0) (v := .ref (ad c19)) hx hb hts hinX0 hown hK hP (S_hist ad cI cR).1 (S_hist ad cI cR).2 rfl 2 (by decide) (hts (.fieldLink RX0 21 "AdmissionControl$History" "third" "LAdmissionControl$Server;") (List.mem_of_getElem? (i := 3) rfl)) (fun _ h9 => h9) (by rw [ec19]; rfl) dX0_restore_23 ?_
  obtain ⟨m20, em20, hf⟩ := bd_e hf
  refine w_put (C := RX0) (T := TX0) (N := 5) (ci := 0) (x := (nI c19)) hx hb hts hinX0 tyX0 tyX0_ok nmX0 hown hi hA hK hP hS (S_hist ad cI cR).1 (S_hist ad cI cR).2 rfl 1 (by decide) (hts (.fieldLink RX0 18 "AdmissionControl$History" "second" "LAdmissionControl$Server;") (List.mem_of_getElem? (i := 2) rfl)) (fun _ h9 => h9) rfl rfl rfl (Nat.le_of_ble_eq_true rfl) (hist_set1 ad gc19 _) dX0_restore_26 (fun H locs hP hS => ?_)
  rw [← em20] at hP
  refine lv_aload_n hx hb dX0_restore_29 rfl (lv_at hl 1 rfl) ?_
  refine lv_aload_n hx hb dX0_restore_30 rfl (lv_at hl 1 rfl) ?_
  obtain ⟨c21, ec21, hf⟩ := bd_e hf
  obtain ⟨gc21, hf⟩ := gd_e hf
  refine w_get (C := RX0) (T := TX0) (N := 5) (ci := 0) (v := .ref (ad c21)) hx hb hts hinX0 hown hK hP (S_hist ad cI cR).1 (S_hist ad cI cR).2 rfl 3 (by decide) (hts (.fieldLink RX0 24 "AdmissionControl$History" "oldest" "LAdmissionControl$Server;") (List.mem_of_getElem? (i := 4) rfl)) (fun _ h9 => h9) (by rw [ec21]; rfl) dX0_restore_31 ?_
  obtain ⟨m22, em22, hf⟩ := bd_e hf
  refine w_put (C := RX0) (T := TX0) (N := 5) (ci := 0) (x := (nI c21)) hx hb hts hinX0 tyX0 tyX0_ok nmX0 hown hi hA hK hP hS (S_hist ad cI cR).1 (S_hist ad cI cR).2 rfl 2 (by decide) (hts (.fieldLink RX0 21 "AdmissionControl$History" "third" "LAdmissionControl$Server;") (List.mem_of_getElem? (i := 3) rfl)) (fun _ h9 => h9) rfl rfl rfl (Nat.le_of_ble_eq_true rfl) (hist_set2 ad gc21 _) dX0_restore_34 (fun H locs hP hS => ?_)
  rw [← em22] at hP
  refine lv_aload_n hx hb dX0_restore_37 rfl (lv_at hl 1 rfl) ?_
  refine lv_aload_n hx hb dX0_restore_38 rfl (lv_at hl 0 rfl) ?_
  obtain ⟨m23, em23, hf⟩ := bd_e hf
  refine w_put (C := RX0) (T := TX0) (N := 5) (ci := 0) (x := (nI c16)) hx hb hts hinX0 tyX0 tyX0_ok nmX0 hown hi hA hK hP hS (S_hist ad cI cR).1 (S_hist ad cI cR).2 rfl 3 (by decide) (hts (.fieldLink RX0 24 "AdmissionControl$History" "oldest" "LAdmissionControl$Server;") (List.mem_of_getElem? (i := 4) rfl)) (fun _ h9 => h9) rfl rfl rfl (Nat.le_of_ble_eq_true rfl) (hist_set3 ad gc16 _) dX0_restore_39 (fun H locs hP hS => ?_)
  rw [← em23] at hP
  refine lv_aload_n hx hb dX0_restore_42 rfl (lv_at hl 1 rfl) ?_
  refine lv_aload_n hx hb dX0_restore_43 rfl (lv_at hl 1 rfl) ?_
  refine w_get (C := RX0) (T := TX0) (N := 5) (ci := 0) (v := .int (m23 119 4)) hx hb hts hinX0 hown hK hP (S_hist ad cI cR).1 (S_hist ad cI cR).2 rfl 4 (by decide) (hts (.fieldLink RX0 27 "AdmissionControl$History" "states" "I") (List.mem_of_getElem? (i := 5) rfl)) (fun _ h9 => h9) rfl dX0_restore_44 ?_
  refine lv_iconst (v := 1) hx hb dX0_restore_47 (by decide) ?_
  obtain ⟨v24, ev24, hf⟩ := bd_e hf
  refine lv_isub hx hb dX0_restore_48 ?_
  refine w_top ev24 ?_
  refine lv_iconst (v := 0) hx hb dX0_restore_49 (by decide) ?_
  obtain ⟨v25, ev25, hf⟩ := bd_e hf
  refine va_mmax hx hb (hml.trans hl.1.symm) hown (hts (.methodLink RX0 41 Lib.Math.max.name) (List.mem_of_getElem? (i := 6) rfl)) (hts (.static Lib.Math.max.name) (List.mem_of_getElem? (i := 7) rfl)) (hts (.initialized "java/lang/Math") (List.mem_of_getElem? (i := 8) rfl)) (hts (.code Lib.Math.max.name Lib.Math.max.code 2 (some .int)) (List.mem_of_getElem? (i := 9) rfl)) (Nat.le_of_ble_eq_true rfl) (Nat.le_of_ble_eq_true rfl) (Nat.zero_le _) (Nat.zero_le _) dX0_restore_50 ?_
  refine w_top ev25 ?_
  obtain ⟨m26, em26, hf⟩ := bd_e hf
  refine w_put (C := RX0) (T := TX0) (N := 5) (ci := 0) (x := v25) hx hb hts hinX0 tyX0 tyX0_ok nmX0 hown hi hA hK hP hS (S_hist ad cI cR).1 (S_hist ad cI cR).2 rfl 4 (by decide) (hts (.fieldLink RX0 27 "AdmissionControl$History" "states" "I") (List.mem_of_getElem? (i := 5) rfl)) (fun _ h9 => h9) rfl rfl rfl (Nat.le_of_ble_eq_true rfl) rfl dX0_restore_53 (fun H locs hP hS => ?_)
  rw [← em26] at hP
  cases hf
  exact w_vret hx hb hr hlocks hP hS dX0_restore_56
