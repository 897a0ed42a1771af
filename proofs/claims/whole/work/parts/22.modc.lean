def F_X7_append (fu : Nat) (a1 : Int32) (mm : Mem) : Option (Int32 × Mem) := ob (F_X7_in fu a1 32 126 mm) fun r8 m9 => if r8 = 0 then (some ((-100002), m9)) else (if (m9 359 5) = 80 then (some ((-100004), m9)) else (gd (inb (m9 359 5) 80) (bd (mput m9 363 (m9 359 5).toNatClampNeg a1) fun m12 => bd ((m12 359 5) + 1) fun v13 => bd (mput m12 359 5 v13) fun m14 => some ((m14 359 5), m14))))
set_option maxHeartbeats 4000000 in
set_option maxRecDepth 100000 in
theorem c_X7_append (l : Launch) (D : va_G) (ad : Nat → Nat) (cI cR : ClassId) (hi : inj ad) (fu : Nat) (a1 : Int32)  (mm : Mem) (r0 : Int32) (m9 : Mem) (hf : F_X7_append fu a1 mm = some (r0, m9)) : MI l yX7_append wsX7_append { frames := 1, cells := 0, slots := 0, locals := 22 } D ad cI cR [.ref (ad 359), .int a1] mm r0 m9 := by
  refine Met.ofW (cc := cX7_append) (maxL := 2) (ret := (some .int)) (by decide) rfl ?_
  intro p e s m args below meth c s₁ B hml hv
  obtain ⟨rfl, hP, hK, hN⟩ := hv
  have hx := B.exec
  have hb := B.bytes
  have hr := B.returns
  have hts := atoms_spec (ws := wsX7_append) B.pre
  have hown : s.vm.findClass RX7 = some m.cls := findClass_of_methodNamed B.named
  have hlocks := B.notSynchronized
  have hA : ∀ q, AA ad q → AA ad q := fun _ h => h
  have hS : va_S (AA ad) s.heap s.heap [] := va_S.rf
  have hinX7 : ∀ w ∈ wsX70, w ∈ wsX7_append := (fun _ h => List.mem_cons_of_mem _ (List.mem_append_right _ h))
  have hl := lv_entry ([.ref (ad 359), .int a1]) (n := 2) (Nat.le_of_ble_eq_true rfl)
  rw [lg_entry_eq]
  generalize (lg_sl ([.ref (ad 359), .int a1]) ++ List.replicate (2 - (lg_sl ([.ref (ad 359), .int a1])).length) Slot.unset).toArray = ls at hl ⊢
  have hl : lv_has ls 2 [(0, .ref (ad 359)), (1, .int a1)] := hl
  unfold F_X7_append at hf
  refine lv_iload_n hx hb dX7_append_0 rfl (lv_at hl 1 rfl) ?_
  refine lv_bipush (v := 32) hx hb dX7_append_1 (by decide) ?_
  refine lv_bipush (v := 126) hx hb dX7_append_3 (by decide) ?_
  obtain ⟨r8, m9, hq, hf⟩ := ob_e hf
  refine w_ci (va_runS (As := [.int a1, .int 32, .int 126]) (rest := []) ⟨hx, hb, hml, hown, hts⟩ (c_X7_in l D ad cI cR hi fu a1 32 126 mm r8 m9 hq) (va_cwS 3 hts gX7_append_X7_in rfl rfl rfl (by decide +kernel) ⟨Nat.le_of_ble_eq_true rfl, Nat.le_of_ble_eq_true rfl⟩) (w_preS hK hP hN) rfl rfl hl.1 rfl (lv_room (Nat.le_of_ble_eq_true rfl)) dX7_append_5 ⟨Nat.zero_le _, Nat.zero_le _⟩) hA hS (fun H locs hP hS => ?_)
  refine lv_if_ne (tgt := 14) hx hb dX7_append_8 (by decide) (fun c10 => ?_) (fun c10 => ?_)
  · rw [if_neg c10] at hf
    refine lv_aload_n hx hb dX7_append_14 rfl (lv_at hl 0 rfl) ?_
    refine w_get (C := RX7) (T := TX7) (N := 9) (ci := 7) (v := .int (m9 359 5)) hx hb hts hinX7 hown hK hP (S_mod ad cI cR).1 (S_mod ad cI cR).2 rfl 5 (by decide) (hts (.fieldLink RX7 120 "AdmissionControlModel" "length" "I") (List.mem_of_getElem? (i := 2) rfl)) (fun _ h9 => h9) rfl dX7_append_15 ?_
    refine lv_bipush (v := 80) hx hb dX7_append_18 (by decide) ?_
    refine lv_icmp_ne (tgt := 26) hx hb dX7_append_20 (by decide) (fun c11 => ?_) (fun c11 => ?_)
    · rw [if_neg c11] at hf
      refine lv_aload_n hx hb dX7_append_26 rfl (lv_at hl 0 rfl) ?_
      refine w_get (C := RX7) (T := TX7) (N := 9) (ci := 7) (v := .ref (ad 363)) hx hb hts hinX7 hown hK hP (S_mod ad cI cR).1 (S_mod ad cI cR).2 rfl 4 (by decide) (hts (.fieldLink RX7 19 "AdmissionControlModel" "text" "[I") (List.mem_of_getElem? (i := 4) rfl)) (fun _ h9 => h9) rfl dX7_append_27 ?_
      refine lv_aload_n hx hb dX7_append_30 rfl (lv_at hl 0 rfl) ?_
      refine w_get (C := RX7) (T := TX7) (N := 9) (ci := 7) (v := .int (m9 359 5)) hx hb hts hinX7 hown hK hP (S_mod ad cI cR).1 (S_mod ad cI cR).2 rfl 5 (by decide) (hts (.fieldLink RX7 120 "AdmissionControlModel" "length" "I") (List.mem_of_getElem? (i := 2) rfl)) (fun _ h9 => h9) rfl dX7_append_31 ?_
      refine lv_iload_n hx hb dX7_append_34 rfl (lv_at hl 1 rfl) ?_
      obtain ⟨hnb, hf⟩ := gd_e hf
      obtain ⟨m12, em12, hf⟩ := bd_e hf
      refine w_ast hx hb hi hA hK hP hS (S_mtext ad cI cR) hnb dX7_append_35 (fun H locs hP hS => ?_)
      rw [← em12] at hP
      refine lv_aload_n hx hb dX7_append_36 rfl (lv_at hl 0 rfl) ?_
      refine lv_dup hx hb dX7_append_37 rfl ?_
      refine w_get (C := RX7) (T := TX7) (N := 9) (ci := 7) (v := .int (m12 359 5)) hx hb hts hinX7 hown hK hP (S_mod ad cI cR).1 (S_mod ad cI cR).2 rfl 5 (by decide) (hts (.fieldLink RX7 120 "AdmissionControlModel" "length" "I") (List.mem_of_getElem? (i := 2) rfl)) (fun _ h9 => h9) rfl dX7_append_38 ?_
      refine lv_iconst (v := 1) hx hb dX7_append_41 (by decide) ?_
      obtain ⟨v13, ev13, hf⟩ := bd_e hf
      refine lv_iadd hx hb dX7_append_42 ?_
      refine w_top ev13 ?_
      obtain ⟨m14, em14, hf⟩ := bd_e hf
      refine w_put (C := RX7) (T := TX7) (N := 9) (ci := 7) (x := v13) hx hb hts hinX7 tyX7 tyX7_ok nmX7 hown hi hA hK hP hS (S_mod ad cI cR).1 (S_mod ad cI cR).2 rfl 5 (by decide) (hts (.fieldLink RX7 120 "AdmissionControlModel" "length" "I") (List.mem_of_getElem? (i := 2) rfl)) (fun _ h9 => h9) rfl rfl rfl (Nat.le_of_ble_eq_true rfl) rfl dX7_append_43 (fun H locs hP hS => ?_)
      rw [← em14] at hP
      refine lv_aload_n hx hb dX7_append_46 rfl (lv_at hl 0 rfl) ?_
      refine w_get (C := RX7) (T := TX7) (N := 9) (ci := 7) (v := .int (m14 359 5)) hx hb hts hinX7 hown hK hP (S_mod ad cI cR).1 (S_mod ad cI cR).2 rfl 5 (by decide) (hts (.fieldLink RX7 120 "AdmissionControlModel" "length" "I") (List.mem_of_getElem? (i := 2) rfl)) (fun _ h9 => h9) rfl dX7_append_47 ?_
      cases hf
      exact w_iret hx hb hr hlocks hP hS dX7_append_50
    · rw [if_pos c11] at hf
      refine lv_ldc (v := (-100004)) hx hb hown (hts (.constant RX7 103 (-100004)) (List.mem_of_getElem? (i := 3) rfl)) dX7_append_23 ?_
      cases hf
      exact w_iret hx hb hr hlocks hP hS dX7_append_25
  · rw [if_pos c10] at hf
    refine lv_ldc (v := (-100002)) hx hb hown (hts (.constant RX7 90 (-100002)) (List.mem_of_getElem? (i := 1) rfl)) dX7_append_11 ?_
    cases hf
    exact w_iret hx hb hr hlocks hP hS dX7_append_13
def F_X7_clearText (fu : Nat)  (mm : Mem) : Option (Int32 × Mem) := bd (mput mm 359 5 0) fun m2 => some ((mm 359 5), m2)
set_option maxHeartbeats 4000000 in
set_option maxRecDepth 100000 in
theorem c_X7_clearText (l : Launch) (D : va_G) (ad : Nat → Nat) (cI cR : ClassId) (hi : inj ad) (fu : Nat)   (mm : Mem) (r0 : Int32) (m9 : Mem) (hf : F_X7_clearText fu  mm = some (r0, m9)) : MI l yX7_clearText wsX7_clearText { frames := 0, cells := 0, slots := 0, locals := 0 } D ad cI cR [.ref (ad 359)] mm r0 m9 := by
  refine Met.ofW (cc := cX7_clearText) (maxL := 2) (ret := (some .int)) (by decide) rfl ?_
  intro p e s m args below meth c s₁ B hml hv
  obtain ⟨rfl, hP, hK, hN⟩ := hv
  have hx := B.exec
  have hb := B.bytes
  have hr := B.returns
  have hts := atoms_spec (ws := wsX7_clearText) B.pre
  have hown : s.vm.findClass RX7 = some m.cls := findClass_of_methodNamed B.named
  have hlocks := B.notSynchronized
  have hA : ∀ q, AA ad q → AA ad q := fun _ h => h
  have hS : va_S (AA ad) s.heap s.heap [] := va_S.rf
  have hinX7 : ∀ w ∈ wsX70, w ∈ wsX7_clearText := (fun _ h => List.mem_cons_of_mem _ (List.mem_append_right _ h))
  have hl := lv_entry ([.ref (ad 359)]) (n := 2) (Nat.le_of_ble_eq_true rfl)
  rw [lg_entry_eq]
  generalize (lg_sl ([.ref (ad 359)]) ++ List.replicate (2 - (lg_sl ([.ref (ad 359)])).length) Slot.unset).toArray = ls at hl ⊢
  have hl : lv_has ls 2 [(0, .ref (ad 359))] := hl
  unfold F_X7_clearText at hf
  refine lv_aload_n hx hb dX7_clearText_0 rfl (lv_at hl 0 rfl) ?_
  refine w_get (C := RX7) (T := TX7) (N := 9) (ci := 7) (v := .int (mm 359 5)) hx hb hts hinX7 hown hK hP (S_mod ad cI cR).1 (S_mod ad cI cR).2 rfl 5 (by decide) (hts (.fieldLink RX7 120 "AdmissionControlModel" "length" "I") (List.mem_of_getElem? (i := 1) rfl)) (fun _ h9 => h9) rfl dX7_clearText_1 ?_
  refine lv_istore_n (lv' := [(1, .int (mm 359 5)), (0, .ref (ad 359))]) hx hb dX7_clearText_4 rfl hl (by decide) rfl (fun ls hl => ?_)
  refine lv_aload_n hx hb dX7_clearText_5 rfl (lv_at hl 1 rfl) ?_
  refine lv_iconst (v := 0) hx hb dX7_clearText_6 (by decide) ?_
  obtain ⟨m2, em2, hf⟩ := bd_e hf
  refine w_put (C := RX7) (T := TX7) (N := 9) (ci := 7) (x := 0) hx hb hts hinX7 tyX7 tyX7_ok nmX7 hown hi hA hK hP hS (S_mod ad cI cR).1 (S_mod ad cI cR).2 rfl 5 (by decide) (hts (.fieldLink RX7 120 "AdmissionControlModel" "length" "I") (List.mem_of_getElem? (i := 1) rfl)) (fun _ h9 => h9) rfl rfl rfl (Nat.le_of_ble_eq_true rfl) rfl dX7_clearText_7 (fun H locs hP hS => ?_)
  rw [← em2] at hP
  refine lv_iload_n hx hb dX7_clearText_10 rfl (lv_at hl 0 rfl) ?_
  cases hf
  exact w_iret hx hb hr hlocks hP hS dX7_clearText_11
def F_X7_at (fu : Nat) (a1 : Int32) (mm : Mem) : Option (Int32 × Mem) := if (mm 359 5) ≤ a1 then (some (0, mm)) else (gd (inb a1 80) (some ((mm 363 a1.toNatClampNeg), mm)))
set_option maxHeartbeats 4000000 in
set_option maxRecDepth 100000 in
theorem c_X7_at (l : Launch) (D : va_G) (ad : Nat → Nat) (cI cR : ClassId) (hi : inj ad) (fu : Nat) (a1 : Int32)  (mm : Mem) (r0 : Int32) (m9 : Mem) (hf : F_X7_at fu a1 mm = some (r0, m9)) : MI l yX7_at wsX7_at { frames := 0, cells := 0, slots := 0, locals := 0 } D ad cI cR [.ref (ad 359), .int a1] mm r0 m9 := by
  refine Met.ofW (cc := cX7_at) (maxL := 2) (ret := (some .int)) (by decide) rfl ?_
  intro p e s m args below meth c s₁ B hml hv
  obtain ⟨rfl, hP, hK, hN⟩ := hv
  have hx := B.exec
  have hb := B.bytes
  have hr := B.returns
  have hts := atoms_spec (ws := wsX7_at) B.pre
  have hown : s.vm.findClass RX7 = some m.cls := findClass_of_methodNamed B.named
  have hlocks := B.notSynchronized
  have hA : ∀ q, AA ad q → AA ad q := fun _ h => h
  have hS : va_S (AA ad) s.heap s.heap [] := va_S.rf
  have hinX7 : ∀ w ∈ wsX70, w ∈ wsX7_at := (fun _ h => List.mem_cons_of_mem _ (List.mem_append_right _ h))
  have hl := lv_entry ([.ref (ad 359), .int a1]) (n := 2) (Nat.le_of_ble_eq_true rfl)
  rw [lg_entry_eq]
  generalize (lg_sl ([.ref (ad 359), .int a1]) ++ List.replicate (2 - (lg_sl ([.ref (ad 359), .int a1])).length) Slot.unset).toArray = ls at hl ⊢
  have hl : lv_has ls 2 [(0, .ref (ad 359)), (1, .int a1)] := hl
  unfold F_X7_at at hf
  refine lv_iload_n hx hb dX7_at_0 rfl (lv_at hl 1 rfl) ?_
  refine lv_aload_n hx hb dX7_at_1 rfl (lv_at hl 0 rfl) ?_
  refine w_get (C := RX7) (T := TX7) (N := 9) (ci := 7) (v := .int (mm 359 5)) hx hb hts hinX7 hown hK hP (S_mod ad cI cR).1 (S_mod ad cI cR).2 rfl 5 (by decide) (hts (.fieldLink RX7 120 "AdmissionControlModel" "length" "I") (List.mem_of_getElem? (i := 1) rfl)) (fun _ h9 => h9) rfl dX7_at_2 ?_
  refine lv_icmp_ge (tgt := 17) hx hb dX7_at_5 (by decide) (fun c2 => ?_) (fun c2 => ?_)
  · rw [if_pos c2] at hf
    refine lv_iconst (v := 0) hx hb dX7_at_17 (by decide) ?_
    cases hf
    exact w_iret hx hb hr hlocks hP hS dX7_at_18
  · rw [if_neg c2] at hf
    refine lv_aload_n hx hb dX7_at_8 rfl (lv_at hl 0 rfl) ?_
    refine w_get (C := RX7) (T := TX7) (N := 9) (ci := 7) (v := .ref (ad 363)) hx hb hts hinX7 hown hK hP (S_mod ad cI cR).1 (S_mod ad cI cR).2 rfl 4 (by decide) (hts (.fieldLink RX7 19 "AdmissionControlModel" "text" "[I") (List.mem_of_getElem? (i := 2) rfl)) (fun _ h9 => h9) rfl dX7_at_9 ?_
    refine lv_iload_n hx hb dX7_at_12 rfl (lv_at hl 1 rfl) ?_
    obtain ⟨hnb, hf⟩ := gd_e hf
    refine w_ald hx hb hK hP (S_mtext ad cI cR) hnb dX7_at_13 ?_
    refine lv_goto (tgt := 18) hx hb dX7_at_14 (by decide) ?_
    cases hf
    exact w_iret hx hb hr hlocks hP hS dX7_at_18
def F_X7_readNumber_L80 (fu : Nat) (a1 : Int32) (a2 : Int32)  (x3 : Int32) (mm : Mem) : Option (Int32 × Mem) := if (mm 359 8) = 0 then (bd ((-1) - x3) fun v61 => some (v61, mm)) else (some (x3, mm))
def F_X7_readNumber_L26 (fu : Nat) (a1 : Int32) (a2 : Int32) (k7 : Int32 → Mem → Option (Int32 × Mem)) (x3 : Int32) (p0 : Int32) (p1 : Int32) (mm : Mem) : Option (Int32 × Mem) := ob (F_X7_in fu p1 p0 57 mm) fun r62 m63 => if r62 = 0 then (F_X7_readNumber_L80 fu a1 a2 x3 m63) else (bd (10 * (m63 359 8)) fun v65 => ob (F_X7_at fu x3 m63) fun r66 m67 => bd (v65 + r66) fun v68 => bd (v68 - 48) fun v69 => if a2 < v69 then (F_X7_readNumber_L80 fu a1 a2 x3 m67) else (bd (10 * (m67 359 8)) fun v71 => ob (F_X7_at fu x3 m67) fun r72 m73 => bd (v71 + r72) fun v74 => bd (v74 - 48) fun v75 => bd (mput m73 359 8 v75) fun m76 => bd (x3 + 1) fun v77 => k7 v77 m76))
def F_X7_readNumber_L7 (fu : Nat) (a1 : Int32) (a2 : Int32)  : Nat → Int32 → Mem → Option (Int32 × Mem)
  | 0, _, _ => none
  | n + 1, x3, mm => ob (F_X7_at fu x3 mm) fun r78 m79 => if (m79 359 8) = 0 then (F_X7_readNumber_L26 fu a1 a2 (F_X7_readNumber_L7 fu a1 a2 n) x3 49 r78 m79) else (F_X7_readNumber_L26 fu a1 a2 (F_X7_readNumber_L7 fu a1 a2 n) x3 48 r78 m79)
def F_X7_readNumber (fu : Nat) (a1 : Int32) (a2 : Int32) (mm : Mem) : Option (Int32 × Mem) := bd (mput mm 359 8 0) fun m81 => F_X7_readNumber_L7 fu a1 a2 fu a1 m81
set_option maxHeartbeats 4000000 in
set_option maxRecDepth 100000 in
theorem c_X7_readNumber (l : Launch) (D : va_G) (ad : Nat → Nat) (cI cR : ClassId) (hi : inj ad) (fu : Nat) (a1 : Int32) (a2 : Int32)  (mm : Mem) (r0 : Int32) (m9 : Mem) (hf : F_X7_readNumber fu a1 a2 mm = some (r0, m9)) : MI l yX7_readNumber wsX7_readNumber { frames := 1, cells := 0, slots := 0, locals := 22 } D ad cI cR [.ref (ad 359), .int a1, .int a2] mm r0 m9 := by
  refine Met.ofW (cc := cX7_readNumber) (maxL := 4) (ret := (some .int)) (by decide) rfl ?_
  intro p e s m args below meth c s₁ B hml hv
  obtain ⟨rfl, hP, hK, hN⟩ := hv
  have hx := B.exec
  have hb := B.bytes
  have hr := B.returns
  have hts := atoms_spec (ws := wsX7_readNumber) B.pre
  have hown : s.vm.findClass RX7 = some m.cls := findClass_of_methodNamed B.named
  have hlocks := B.notSynchronized
  have hA : ∀ q, AA ad q → AA ad q := fun _ h => h
  have hS : va_S (AA ad) s.heap s.heap [] := va_S.rf
  have hinX7 : ∀ w ∈ wsX70, w ∈ wsX7_readNumber := (fun _ h => List.mem_cons_of_mem _ (List.mem_append_right _ h))
  have hL80 : ∀ (x3 : Int32)  (mm : Mem) (H : Heap) (locs : List Loc) (ls : Array Slot), F_X7_readNumber_L80 fu a1 a2  x3 mm = some (r0, m9) → va_P D vwCl (cw ad cI cR mm) H → va_S (AA ad) s.heap H locs → lv_has ls 4 [(0, .ref (ad 359)), (3, .int x3)] → W p l e (headSpec wsX7_readNumber { frames := 1, cells := 0, slots := 0, locals := 22 }).room s m ([.ref (ad 359), .int a1, .int a2] : List Value).toArray below meth c H locs 0 0 (MQ below (va_Qi (fun (r' : Int32) (u : Mem) => r' = r0 ∧ u = m9) (KB D ad cI cR) (AA ad)) ([.ref (ad 359), .int a1, .int a2] : List Value).toArray s 0 0 (AA ad)) (F0 m 80 ls []) := by
    intro x3 mm H locs ls hf hP hS hl
    unfold F_X7_readNumber_L80 at hf
    refine lv_aload_n hx hb dX7_readNumber_80 rfl (lv_at hl 0 rfl) ?_
    refine w_get (C := RX7) (T := TX7) (N := 9) (ci := 7) (v := .int (mm 359 8)) hx hb hts hinX7 hown hK hP (S_mod ad cI cR).1 (S_mod ad cI cR).2 rfl 8 (by decide) (hts (.fieldLink RX7 123 "AdmissionControlModel" "numberRead" "I") (List.mem_of_getElem? (i := 1) rfl)) (fun _ h9 => h9) rfl dX7_readNumber_81 ?_
    refine lv_if_ne (tgt := 93) hx hb dX7_readNumber_84 (by decide) (fun c60 => ?_) (fun c60 => ?_)
    · rw [if_neg c60] at hf
      refine lv_iload_n hx hb dX7_readNumber_93 rfl (lv_at hl 1 rfl) ?_
      cases hf
      exact w_iret hx hb hr hlocks hP hS dX7_readNumber_94
    · rw [if_pos c60] at hf
      refine lv_iconst (v := (-1)) hx hb dX7_readNumber_87 (by decide) ?_
      refine lv_iload_n hx hb dX7_readNumber_88 rfl (lv_at hl 1 rfl) ?_
      obtain ⟨v61, ev61, hf⟩ := bd_e hf
      refine lv_isub hx hb dX7_readNumber_89 ?_
      refine w_top ev61 ?_
      refine lv_goto (tgt := 94) hx hb dX7_readNumber_90 (by decide) ?_
      cases hf
      exact w_iret hx hb hr hlocks hP hS dX7_readNumber_94
  have hL7 : ∀ (n : Nat) (x3 : Int32)  (mm : Mem) (H : Heap) (locs : List Loc) (ls : Array Slot), F_X7_readNumber_L7 fu a1 a2  n x3 mm = some (r0, m9) → va_P D vwCl (cw ad cI cR mm) H → va_S (AA ad) s.heap H locs → lv_has ls 4 [(0, .ref (ad 359)), (2, .int a2), (3, .int x3)] → W p l e (headSpec wsX7_readNumber { frames := 1, cells := 0, slots := 0, locals := 22 }).room s m ([.ref (ad 359), .int a1, .int a2] : List Value).toArray below meth c H locs 0 0 (MQ below (va_Qi (fun (r' : Int32) (u : Mem) => r' = r0 ∧ u = m9) (KB D ad cI cR) (AA ad)) ([.ref (ad 359), .int a1, .int a2] : List Value).toArray s 0 0 (AA ad)) (F0 m 7 ls []) := by
    intro n
    induction n with
    | zero =>
      intro x3 mm H locs ls hf hP hS hl
      rw [F_X7_readNumber_L7] at hf
      cases hf
    | succ n7 ih7 =>
      have hL26 : ∀ (x3 : Int32) (p0 : Int32) (p1 : Int32)  (mm : Mem) (H : Heap) (locs : List Loc) (ls : Array Slot), F_X7_readNumber_L26 fu a1 a2 (F_X7_readNumber_L7 fu a1 a2 n7) x3 p0 p1 mm = some (r0, m9) → va_P D vwCl (cw ad cI cR mm) H → va_S (AA ad) s.heap H locs → lv_has ls 4 [(0, .ref (ad 359)), (2, .int a2), (3, .int x3)] → W p l e (headSpec wsX7_readNumber { frames := 1, cells := 0, slots := 0, locals := 22 }).room s m ([.ref (ad 359), .int a1, .int a2] : List Value).toArray below meth c H locs 0 0 (MQ below (va_Qi (fun (r' : Int32) (u : Mem) => r' = r0 ∧ u = m9) (KB D ad cI cR) (AA ad)) ([.ref (ad 359), .int a1, .int a2] : List Value).toArray s 0 0 (AA ad)) (F0 m 26 ls [.int p0, .int p1]) := by
        intro x3 p0 p1 mm H locs ls hf hP hS hl
        unfold F_X7_readNumber_L26 at hf
        refine lv_bipush (v := 57) hx hb dX7_readNumber_26 (by decide) ?_
        obtain ⟨r62, m63, hq, hf⟩ := ob_e hf
        refine w_ci (va_runS (As := [.int p1, .int p0, .int 57]) (rest := []) ⟨hx, hb, hml, hown, hts⟩ (c_X7_in l D ad cI cR hi fu p1 p0 57 mm r62 m63 hq) (va_cwS 3 hts gX7_readNumber_X7_in rfl rfl rfl (by decide +kernel) ⟨Nat.le_of_ble_eq_true rfl, Nat.le_of_ble_eq_true rfl⟩) (w_preS hK hP hN) rfl rfl hl.1 rfl (lv_room (Nat.le_of_ble_eq_true rfl)) dX7_readNumber_28 ⟨Nat.zero_le _, Nat.zero_le _⟩) hA hS (fun H locs hP hS => ?_)
        refine lv_if_eq (tgt := 80) hx hb dX7_readNumber_31 (by decide) (fun c64 => ?_) (fun c64 => ?_)
        · rw [if_pos c64] at hf
          exact hL80 x3 m63 _ _ _ hf hP hS (lv_sub hl [0, 2] rfl)
        · rw [if_neg c64] at hf
          refine lv_bipush (v := 10) hx hb dX7_readNumber_34 (by decide) ?_
          refine lv_aload_n hx hb dX7_readNumber_36 rfl (lv_at hl 0 rfl) ?_
          refine w_get (C := RX7) (T := TX7) (N := 9) (ci := 7) (v := .int (m63 359 8)) hx hb hts hinX7 hown hK hP (S_mod ad cI cR).1 (S_mod ad cI cR).2 rfl 8 (by decide) (hts (.fieldLink RX7 123 "AdmissionControlModel" "numberRead" "I") (List.mem_of_getElem? (i := 1) rfl)) (fun _ h9 => h9) rfl dX7_readNumber_37 ?_
          obtain ⟨v65, ev65, hf⟩ := bd_e hf
          refine lv_imul hx hb dX7_readNumber_40 ?_
          refine w_top ev65 ?_
          refine lv_aload_n hx hb dX7_readNumber_41 rfl (lv_at hl 0 rfl) ?_
          refine lv_iload_n hx hb dX7_readNumber_42 rfl (lv_at hl 2 rfl) ?_
          obtain ⟨r66, m67, hq, hf⟩ := ob_e hf
          refine w_ci (va_runV (As := [.int x3]) (rest := [.int v65]) ⟨hx, hb, hml, hown, hts⟩ (c_X7_at l D ad cI cR hi fu x3 m63 r66 m67 hq) (cwV 1 hts gX7_readNumber_X7_at rfl rfl rfl (by decide +kernel) ⟨Nat.le_of_ble_eq_true rfl, Nat.le_of_ble_eq_true rfl⟩) (w_preV (ci := 7) hK hP hN (S_mod ad cI cR).1 (S_mod ad cI cR).2 rfl) rfl rfl hl.1 rfl (lv_room (Nat.le_of_ble_eq_true rfl)) dX7_readNumber_43 ⟨Nat.zero_le _, Nat.zero_le _⟩) hA hS (fun H locs hP hS => ?_)
          obtain ⟨v68, ev68, hf⟩ := bd_e hf
          refine lv_iadd hx hb dX7_readNumber_46 ?_
          refine w_top ev68 ?_
          refine lv_bipush (v := 48) hx hb dX7_readNumber_47 (by decide) ?_
          obtain ⟨v69, ev69, hf⟩ := bd_e hf
          refine lv_isub hx hb dX7_readNumber_49 ?_
          refine w_top ev69 ?_
          refine lv_iload_n hx hb dX7_readNumber_50 rfl (lv_at hl 1 rfl) ?_
          refine lv_icmp_gt (tgt := 80) hx hb dX7_readNumber_51 (by decide) (fun c70 => ?_) (fun c70 => ?_)
          · rw [if_pos c70] at hf
            exact hL80 x3 m67 _ _ _ hf hP hS (lv_sub hl [0, 2] rfl)
          · rw [if_neg c70] at hf
            refine lv_aload_n hx hb dX7_readNumber_54 rfl (lv_at hl 0 rfl) ?_
            refine lv_bipush (v := 10) hx hb dX7_readNumber_55 (by decide) ?_
            refine lv_aload_n hx hb dX7_readNumber_57 rfl (lv_at hl 0 rfl) ?_
            refine w_get (C := RX7) (T := TX7) (N := 9) (ci := 7) (v := .int (m67 359 8)) hx hb hts hinX7 hown hK hP (S_mod ad cI cR).1 (S_mod ad cI cR).2 rfl 8 (by decide) (hts (.fieldLink RX7 123 "AdmissionControlModel" "numberRead" "I") (List.mem_of_getElem? (i := 1) rfl)) (fun _ h9 => h9) rfl dX7_readNumber_58 ?_
            obtain ⟨v71, ev71, hf⟩ := bd_e hf
            refine lv_imul hx hb dX7_readNumber_61 ?_
            refine w_top ev71 ?_
            refine lv_aload_n hx hb dX7_readNumber_62 rfl (lv_at hl 0 rfl) ?_
            refine lv_iload_n hx hb dX7_readNumber_63 rfl (lv_at hl 2 rfl) ?_
            obtain ⟨r72, m73, hq, hf⟩ := ob_e hf
            refine w_ci (va_runV (As := [.int x3]) (rest := [.int v71, .ref (ad 359)]) ⟨hx, hb, hml, hown, hts⟩ (c_X7_at l D ad cI cR hi fu x3 m67 r72 m73 hq) (cwV 1 hts gX7_readNumber_X7_at rfl rfl rfl (by decide +kernel) ⟨Nat.le_of_ble_eq_true rfl, Nat.le_of_ble_eq_true rfl⟩) (w_preV (ci := 7) hK hP hN (S_mod ad cI cR).1 (S_mod ad cI cR).2 rfl) rfl rfl hl.1 rfl (lv_room (Nat.le_of_ble_eq_true rfl)) dX7_readNumber_64 ⟨Nat.zero_le _, Nat.zero_le _⟩) hA hS (fun H locs hP hS => ?_)
            obtain ⟨v74, ev74, hf⟩ := bd_e hf
            refine lv_iadd hx hb dX7_readNumber_67 ?_
            refine w_top ev74 ?_
            refine lv_bipush (v := 48) hx hb dX7_readNumber_68 (by decide) ?_
            obtain ⟨v75, ev75, hf⟩ := bd_e hf
            refine lv_isub hx hb dX7_readNumber_70 ?_
            refine w_top ev75 ?_
            obtain ⟨m76, em76, hf⟩ := bd_e hf
            refine w_put (C := RX7) (T := TX7) (N := 9) (ci := 7) (x := v75) hx hb hts hinX7 tyX7 tyX7_ok nmX7 hown hi hA hK hP hS (S_mod ad cI cR).1 (S_mod ad cI cR).2 rfl 8 (by decide) (hts (.fieldLink RX7 123 "AdmissionControlModel" "numberRead" "I") (List.mem_of_getElem? (i := 1) rfl)) (fun _ h9 => h9) rfl rfl rfl (Nat.le_of_ble_eq_true rfl) rfl dX7_readNumber_71 (fun H locs hP hS => ?_)
            rw [← em76] at hP
            obtain ⟨v77, ev77, hf⟩ := bd_e hf
            refine lv_iinc (v := v77) (lv' := [(3, .int v77), (0, .ref (ad 359)), (2, .int a2)]) hx hb dX7_readNumber_74 hl (k := 2) rfl (by rw [ev77]; rfl) (by decide) rfl (fun ls hl => ?_)
            refine lv_goto (tgt := 7) hx hb dX7_readNumber_77 (by decide) ?_
            exact ih7 v77 m76 _ _ _ hf hP hS (lv_sub hl [1, 2, 0] rfl)
      intro x3 mm H locs ls hf hP hS hl
      rw [F_X7_readNumber_L7] at hf
      refine lv_aload_n hx hb dX7_readNumber_7 rfl (lv_at hl 0 rfl) ?_
      refine lv_iload_n hx hb dX7_readNumber_8 rfl (lv_at hl 2 rfl) ?_
      obtain ⟨r78, m79, hq, hf⟩ := ob_e hf
      refine w_ci (va_runV (As := [.int x3]) (rest := []) ⟨hx, hb, hml, hown, hts⟩ (c_X7_at l D ad cI cR hi fu x3 mm r78 m79 hq) (cwV 1 hts gX7_readNumber_X7_at rfl rfl rfl (by decide +kernel) ⟨Nat.le_of_ble_eq_true rfl, Nat.le_of_ble_eq_true rfl⟩) (w_preV (ci := 7) hK hP hN (S_mod ad cI cR).1 (S_mod ad cI cR).2 rfl) rfl rfl hl.1 rfl (lv_room (Nat.le_of_ble_eq_true rfl)) dX7_readNumber_9 ⟨Nat.zero_le _, Nat.zero_le _⟩) hA hS (fun H locs hP hS => ?_)
      refine lv_aload_n hx hb dX7_readNumber_12 rfl (lv_at hl 0 rfl) ?_
      refine w_get (C := RX7) (T := TX7) (N := 9) (ci := 7) (v := .int (m79 359 8)) hx hb hts hinX7 hown hK hP (S_mod ad cI cR).1 (S_mod ad cI cR).2 rfl 8 (by decide) (hts (.fieldLink RX7 123 "AdmissionControlModel" "numberRead" "I") (List.mem_of_getElem? (i := 1) rfl)) (fun _ h9 => h9) rfl dX7_readNumber_13 ?_
      refine lv_if_ne (tgt := 24) hx hb dX7_readNumber_16 (by decide) (fun c80 => ?_) (fun c80 => ?_)
      · rw [if_neg c80] at hf
        refine lv_bipush (v := 48) hx hb dX7_readNumber_24 (by decide) ?_
        exact hL26 x3 48 r78 m79 _ _ _ hf hP hS (lv_sub hl [0, 1, 2] rfl)
      · rw [if_pos c80] at hf
        refine lv_bipush (v := 49) hx hb dX7_readNumber_19 (by decide) ?_
        refine lv_goto (tgt := 26) hx hb dX7_readNumber_21 (by decide) ?_
        exact hL26 x3 49 r78 m79 _ _ _ hf hP hS (lv_sub hl [0, 1, 2] rfl)
  have hl := lv_entry ([.ref (ad 359), .int a1, .int a2]) (n := 4) (Nat.le_of_ble_eq_true rfl)
  rw [lg_entry_eq]
  generalize (lg_sl ([.ref (ad 359), .int a1, .int a2]) ++ List.replicate (4 - (lg_sl ([.ref (ad 359), .int a1, .int a2])).length) Slot.unset).toArray = ls at hl ⊢
  have hl : lv_has ls 4 [(0, .ref (ad 359)), (1, .int a1), (2, .int a2)] := hl
  unfold F_X7_readNumber at hf
  refine lv_iload_n hx hb dX7_readNumber_0 rfl (lv_at hl 1 rfl) ?_
  refine lv_istore_n (lv' := [(3, .int a1), (0, .ref (ad 359)), (1, .int a1), (2, .int a2)]) hx hb dX7_readNumber_1 rfl hl (by decide) rfl (fun ls hl => ?_)
  refine lv_aload_n hx hb dX7_readNumber_2 rfl (lv_at hl 1 rfl) ?_
  refine lv_iconst (v := 0) hx hb dX7_readNumber_3 (by decide) ?_
  obtain ⟨m81, em81, hf⟩ := bd_e hf
  refine w_put (C := RX7) (T := TX7) (N := 9) (ci := 7) (x := 0) hx hb hts hinX7 tyX7 tyX7_ok nmX7 hown hi hA hK hP hS (S_mod ad cI cR).1 (S_mod ad cI cR).2 rfl 8 (by decide) (hts (.fieldLink RX7 123 "AdmissionControlModel" "numberRead" "I") (List.mem_of_getElem? (i := 1) rfl)) (fun _ h9 => h9) rfl rfl rfl (Nat.le_of_ble_eq_true rfl) rfl dX7_readNumber_4 (fun H locs hP hS => ?_)
  rw [← em81] at hP
  exact hL7 fu a1 m81 _ _ _ hf hP hS (lv_sub hl [1, 3, 0] rfl)
def F_X7_readStep (fu : Nat) (a1 : Int32) (mm : Mem) : Option (Int32 × Mem) := bd (mput mm 359 6 (-1)) fun m33 => ob (F_X7_at fu a1 m33) fun r34 m35 => if r34 = 43 then (bd (a1 + 1) fun v62 => ob (F_X7_readNumber fu v62 99 m35) fun r63 m64 => some (r63, m64)) else (ob (F_X7_at fu a1 m35) fun r37 m38 => ob (F_X7_in fu r37 48 50 m38) fun r39 m40 => if r39 = 0 then (bd ((-1) - a1) fun v61 => some (v61, m40)) else (bd (a1 + 1) fun v42 => ob (F_X7_at fu v42 m40) fun r43 m44 => ob (F_X7_in fu r43 97 101 m44) fun r45 m46 => if r45 = 0 then (bd ((-2) - a1) fun v60 => some (v60, m46)) else (ob (F_X7_at fu a1 m46) fun r48 m49 => bd (r48 - 48) fun v50 => bd (mput m49 359 6 v50) fun m51 => bd (a1 + 1) fun v52 => ob (F_X7_at fu v52 m51) fun r53 m54 => bd (r53 - 97) fun v55 => bd (mput m54 359 7 v55) fun m56 => bd (a1 + 2) fun v57 => ob (F_X7_readNumber fu v57 60 m56) fun r58 m59 => some (r58, m59))))
set_option maxHeartbeats 4000000 in
set_option maxRecDepth 100000 in
theorem c_X7_readStep (l : Launch) (D : va_G) (ad : Nat → Nat) (cI cR : ClassId) (hi : inj ad) (fu : Nat) (a1 : Int32)  (mm : Mem) (r0 : Int32) (m9 : Mem) (hf : F_X7_readStep fu a1 mm = some (r0, m9)) : MI l yX7_readStep wsX7_readStep { frames := 2, cells := 0, slots := 0, locals := 45 } D ad cI cR [.ref (ad 359), .int a1] mm r0 m9 := by
  refine Met.ofW (cc := cX7_readStep) (maxL := 2) (ret := (some .int)) (by decide) rfl ?_
  intro p e s m args below meth c s₁ B hml hv
  obtain ⟨rfl, hP, hK, hN⟩ := hv
  have hx := B.exec
  have hb := B.bytes
  have hr := B.returns
  have hts := atoms_spec (ws := wsX7_readStep) B.pre
  have hown : s.vm.findClass RX7 = some m.cls := findClass_of_methodNamed B.named
  have hlocks := B.notSynchronized
  have hA : ∀ q, AA ad q → AA ad q := fun _ h => h
  have hS : va_S (AA ad) s.heap s.heap [] := va_S.rf
  have hinX7 : ∀ w ∈ wsX70, w ∈ wsX7_readStep := (fun _ h => List.mem_cons_of_mem _ (List.mem_append_right _ h))
  have hl := lv_entry ([.ref (ad 359), .int a1]) (n := 2) (Nat.le_of_ble_eq_true rfl)
  rw [lg_entry_eq]
  generalize (lg_sl ([.ref (ad 359), .int a1]) ++ List.replicate (2 - (lg_sl ([.ref (ad 359), .int a1])).length) Slot.unset).toArray = ls at hl ⊢
  have hl : lv_has ls 2 [(0, .ref (ad 359)), (1, .int a1)] := hl
  unfold F_X7_readStep at hf
  refine lv_aload_n hx hb dX7_readStep_0 rfl (lv_at hl 0 rfl) ?_
  refine lv_iconst (v := (-1)) hx hb dX7_readStep_1 (by decide) ?_
  obtain ⟨m33, em33, hf⟩ := bd_e hf
  refine w_put (C := RX7) (T := TX7) (N := 9) (ci := 7) (x := (-1)) hx hb hts hinX7 tyX7 tyX7_ok nmX7 hown hi hA hK hP hS (S_mod ad cI cR).1 (S_mod ad cI cR).2 rfl 6 (by decide) (hts (.fieldLink RX7 129 "AdmissionControlModel" "kindRead" "I") (List.mem_of_getElem? (i := 1) rfl)) (fun _ h9 => h9) rfl rfl rfl (Nat.le_of_ble_eq_true rfl) rfl dX7_readStep_2 (fun H locs hP hS => ?_)
  rw [← em33] at hP
  refine lv_aload_n hx hb dX7_readStep_5 rfl (lv_at hl 0 rfl) ?_
  refine lv_iload_n hx hb dX7_readStep_6 rfl (lv_at hl 1 rfl) ?_
  obtain ⟨r34, m35, hq, hf⟩ := ob_e hf
  refine w_ci (va_runV (As := [.int a1]) (rest := []) ⟨hx, hb, hml, hown, hts⟩ (c_X7_at l D ad cI cR hi fu a1 m33 r34 m35 hq) (cwV 1 hts gX7_readStep_X7_at rfl rfl rfl (by decide +kernel) ⟨Nat.le_of_ble_eq_true rfl, Nat.le_of_ble_eq_true rfl⟩) (w_preV (ci := 7) hK hP hN (S_mod ad cI cR).1 (S_mod ad cI cR).2 rfl) rfl rfl hl.1 rfl (lv_room (Nat.le_of_ble_eq_true rfl)) dX7_readStep_7 ⟨Nat.zero_le _, Nat.zero_le _⟩) hA hS (fun H locs hP hS => ?_)
  refine lv_bipush (v := 43) hx hb dX7_readStep_10 (by decide) ?_
  refine lv_icmp_ne (tgt := 25) hx hb dX7_readStep_12 (by decide) (fun c36 => ?_) (fun c36 => ?_)
  · rw [if_neg c36] at hf
    refine lv_aload_n hx hb dX7_readStep_25 rfl (lv_at hl 0 rfl) ?_
    refine lv_iload_n hx hb dX7_readStep_26 rfl (lv_at hl 1 rfl) ?_
    obtain ⟨r37, m38, hq, hf⟩ := ob_e hf
    refine w_ci (va_runV (As := [.int a1]) (rest := []) ⟨hx, hb, hml, hown, hts⟩ (c_X7_at l D ad cI cR hi fu a1 m35 r37 m38 hq) (cwV 1 hts gX7_readStep_X7_at rfl rfl rfl (by decide +kernel) ⟨Nat.le_of_ble_eq_true rfl, Nat.le_of_ble_eq_true rfl⟩) (w_preV (ci := 7) hK hP hN (S_mod ad cI cR).1 (S_mod ad cI cR).2 rfl) rfl rfl hl.1 rfl (lv_room (Nat.le_of_ble_eq_true rfl)) dX7_readStep_27 ⟨Nat.zero_le _, Nat.zero_le _⟩) hA hS (fun H locs hP hS => ?_)
    refine lv_bipush (v := 48) hx hb dX7_readStep_30 (by decide) ?_
    refine lv_bipush (v := 50) hx hb dX7_readStep_32 (by decide) ?_
    obtain ⟨r39, m40, hq, hf⟩ := ob_e hf
    refine w_ci (va_runS (As := [.int r37, .int 48, .int 50]) (rest := []) ⟨hx, hb, hml, hown, hts⟩ (c_X7_in l D ad cI cR hi fu r37 48 50 m38 r39 m40 hq) (va_cwS 3 hts gX7_readStep_X7_in rfl rfl rfl (by decide +kernel) ⟨Nat.le_of_ble_eq_true rfl, Nat.le_of_ble_eq_true rfl⟩) (w_preS hK hP hN) rfl rfl hl.1 rfl (lv_room (Nat.le_of_ble_eq_true rfl)) dX7_readStep_34 ⟨Nat.zero_le _, Nat.zero_le _⟩) hA hS (fun H locs hP hS => ?_)
    refine lv_if_ne (tgt := 44) hx hb dX7_readStep_37 (by decide) (fun c41 => ?_) (fun c41 => ?_)
    · rw [if_neg c41] at hf
      refine lv_aload_n hx hb dX7_readStep_44 rfl (lv_at hl 0 rfl) ?_
      refine lv_iload_n hx hb dX7_readStep_45 rfl (lv_at hl 1 rfl) ?_
      refine lv_iconst (v := 1) hx hb dX7_readStep_46 (by decide) ?_
      obtain ⟨v42, ev42, hf⟩ := bd_e hf
      refine lv_iadd hx hb dX7_readStep_47 ?_
      refine w_top ev42 ?_
      obtain ⟨r43, m44, hq, hf⟩ := ob_e hf
      refine w_ci (va_runV (As := [.int v42]) (rest := []) ⟨hx, hb, hml, hown, hts⟩ (c_X7_at l D ad cI cR hi fu v42 m40 r43 m44 hq) (cwV 1 hts gX7_readStep_X7_at rfl rfl rfl (by decide +kernel) ⟨Nat.le_of_ble_eq_true rfl, Nat.le_of_ble_eq_true rfl⟩) (w_preV (ci := 7) hK hP hN (S_mod ad cI cR).1 (S_mod ad cI cR).2 rfl) rfl rfl hl.1 rfl (lv_room (Nat.le_of_ble_eq_true rfl)) dX7_readStep_48 ⟨Nat.zero_le _, Nat.zero_le _⟩) hA hS (fun H locs hP hS => ?_)
      refine lv_bipush (v := 97) hx hb dX7_readStep_51 (by decide) ?_
      refine lv_bipush (v := 101) hx hb dX7_readStep_53 (by decide) ?_
      obtain ⟨r45, m46, hq, hf⟩ := ob_e hf
      refine w_ci (va_runS (As := [.int r43, .int 97, .int 101]) (rest := []) ⟨hx, hb, hml, hown, hts⟩ (c_X7_in l D ad cI cR hi fu r43 97 101 m44 r45 m46 hq) (va_cwS 3 hts gX7_readStep_X7_in rfl rfl rfl (by decide +kernel) ⟨Nat.le_of_ble_eq_true rfl, Nat.le_of_ble_eq_true rfl⟩) (w_preS hK hP hN) rfl rfl hl.1 rfl (lv_room (Nat.le_of_ble_eq_true rfl)) dX7_readStep_55 ⟨Nat.zero_le _, Nat.zero_le _⟩) hA hS (fun H locs hP hS => ?_)
      refine lv_if_ne (tgt := 66) hx hb dX7_readStep_58 (by decide) (fun c47 => ?_) (fun c47 => ?_)
      · rw [if_neg c47] at hf
        refine lv_aload_n hx hb dX7_readStep_66 rfl (lv_at hl 0 rfl) ?_
        refine lv_aload_n hx hb dX7_readStep_67 rfl (lv_at hl 0 rfl) ?_
        refine lv_iload_n hx hb dX7_readStep_68 rfl (lv_at hl 1 rfl) ?_
        obtain ⟨r48, m49, hq, hf⟩ := ob_e hf
        refine w_ci (va_runV (As := [.int a1]) (rest := [.ref (ad 359)]) ⟨hx, hb, hml, hown, hts⟩ (c_X7_at l D ad cI cR hi fu a1 m46 r48 m49 hq) (cwV 1 hts gX7_readStep_X7_at rfl rfl rfl (by decide +kernel) ⟨Nat.le_of_ble_eq_true rfl, Nat.le_of_ble_eq_true rfl⟩) (w_preV (ci := 7) hK hP hN (S_mod ad cI cR).1 (S_mod ad cI cR).2 rfl) rfl rfl hl.1 rfl (lv_room (Nat.le_of_ble_eq_true rfl)) dX7_readStep_69 ⟨Nat.zero_le _, Nat.zero_le _⟩) hA hS (fun H locs hP hS => ?_)
        refine lv_bipush (v := 48) hx hb dX7_readStep_72 (by decide) ?_
        obtain ⟨v50, ev50, hf⟩ := bd_e hf
        refine lv_isub hx hb dX7_readStep_74 ?_
        refine w_top ev50 ?_
        obtain ⟨m51, em51, hf⟩ := bd_e hf
        refine w_put (C := RX7) (T := TX7) (N := 9) (ci := 7) (x := v50) hx hb hts hinX7 tyX7 tyX7_ok nmX7 hown hi hA hK hP hS (S_mod ad cI cR).1 (S_mod ad cI cR).2 rfl 6 (by decide) (hts (.fieldLink RX7 129 "AdmissionControlModel" "kindRead" "I") (List.mem_of_getElem? (i := 1) rfl)) (fun _ h9 => h9) rfl rfl rfl (Nat.le_of_ble_eq_true rfl) rfl dX7_readStep_75 (fun H locs hP hS => ?_)
        rw [← em51] at hP
        refine lv_aload_n hx hb dX7_readStep_78 rfl (lv_at hl 0 rfl) ?_
        refine lv_aload_n hx hb dX7_readStep_79 rfl (lv_at hl 0 rfl) ?_
        refine lv_iload_n hx hb dX7_readStep_80 rfl (lv_at hl 1 rfl) ?_
        refine lv_iconst (v := 1) hx hb dX7_readStep_81 (by decide) ?_
        obtain ⟨v52, ev52, hf⟩ := bd_e hf
        refine lv_iadd hx hb dX7_readStep_82 ?_
        refine w_top ev52 ?_
        obtain ⟨r53, m54, hq, hf⟩ := ob_e hf
        refine w_ci (va_runV (As := [.int v52]) (rest := [.ref (ad 359)]) ⟨hx, hb, hml, hown, hts⟩ (c_X7_at l D ad cI cR hi fu v52 m51 r53 m54 hq) (cwV 1 hts gX7_readStep_X7_at rfl rfl rfl (by decide +kernel) ⟨Nat.le_of_ble_eq_true rfl, Nat.le_of_ble_eq_true rfl⟩) (w_preV (ci := 7) hK hP hN (S_mod ad cI cR).1 (S_mod ad cI cR).2 rfl) rfl rfl hl.1 rfl (lv_room (Nat.le_of_ble_eq_true rfl)) dX7_readStep_83 ⟨Nat.zero_le _, Nat.zero_le _⟩) hA hS (fun H locs hP hS => ?_)
        refine lv_bipush (v := 97) hx hb dX7_readStep_86 (by decide) ?_
        obtain ⟨v55, ev55, hf⟩ := bd_e hf
        refine lv_isub hx hb dX7_readStep_88 ?_
        refine w_top ev55 ?_
        obtain ⟨m56, em56, hf⟩ := bd_e hf
        refine w_put (C := RX7) (T := TX7) (N := 9) (ci := 7) (x := v55) hx hb hts hinX7 tyX7 tyX7_ok nmX7 hown hi hA hK hP hS (S_mod ad cI cR).1 (S_mod ad cI cR).2 rfl 7 (by decide) (hts (.fieldLink RX7 135 "AdmissionControlModel" "shapeRead" "I") (List.mem_of_getElem? (i := 2) rfl)) (fun _ h9 => h9) rfl rfl rfl (Nat.le_of_ble_eq_true rfl) rfl dX7_readStep_89 (fun H locs hP hS => ?_)
        rw [← em56] at hP
        refine lv_aload_n hx hb dX7_readStep_92 rfl (lv_at hl 0 rfl) ?_
        refine lv_iload_n hx hb dX7_readStep_93 rfl (lv_at hl 1 rfl) ?_
        refine lv_iconst (v := 2) hx hb dX7_readStep_94 (by decide) ?_
        obtain ⟨v57, ev57, hf⟩ := bd_e hf
        refine lv_iadd hx hb dX7_readStep_95 ?_
        refine w_top ev57 ?_
        refine lv_bipush (v := 60) hx hb dX7_readStep_96 (by decide) ?_
        obtain ⟨r58, m59, hq, hf⟩ := ob_e hf
        refine w_ci (va_runV (As := [.int v57, .int 60]) (rest := []) ⟨hx, hb, hml, hown, hts⟩ (c_X7_readNumber l D ad cI cR hi fu v57 60 m56 r58 m59 hq) (cwV 2 hts gX7_readStep_X7_readNumber rfl rfl rfl (by decide +kernel) ⟨Nat.le_of_ble_eq_true rfl, Nat.le_of_ble_eq_true rfl⟩) (w_preV (ci := 7) hK hP hN (S_mod ad cI cR).1 (S_mod ad cI cR).2 rfl) rfl rfl hl.1 rfl (lv_room (Nat.le_of_ble_eq_true rfl)) dX7_readStep_98 ⟨Nat.zero_le _, Nat.zero_le _⟩) hA hS (fun H locs hP hS => ?_)
        cases hf
        exact w_iret hx hb hr hlocks hP hS dX7_readStep_101
      · rw [if_pos c47] at hf
        refine lv_bipush (v := (-2)) hx hb dX7_readStep_61 (by decide) ?_
        refine lv_iload_n hx hb dX7_readStep_63 rfl (lv_at hl 1 rfl) ?_
        obtain ⟨v60, ev60, hf⟩ := bd_e hf
        refine lv_isub hx hb dX7_readStep_64 ?_
        refine w_top ev60 ?_
        cases hf
        exact w_iret hx hb hr hlocks hP hS dX7_readStep_65
    · rw [if_pos c41] at hf
      refine lv_iconst (v := (-1)) hx hb dX7_readStep_40 (by decide) ?_
      refine lv_iload_n hx hb dX7_readStep_41 rfl (lv_at hl 1 rfl) ?_
      obtain ⟨v61, ev61, hf⟩ := bd_e hf
      refine lv_isub hx hb dX7_readStep_42 ?_
      refine w_top ev61 ?_
      cases hf
      exact w_iret hx hb hr hlocks hP hS dX7_readStep_43
  · rw [if_pos c36] at hf
    refine lv_aload_n hx hb dX7_readStep_15 rfl (lv_at hl 0 rfl) ?_
    refine lv_iload_n hx hb dX7_readStep_16 rfl (lv_at hl 1 rfl) ?_
    refine lv_iconst (v := 1) hx hb dX7_readStep_17 (by decide) ?_
    obtain ⟨v62, ev62, hf⟩ := bd_e hf
    refine lv_iadd hx hb dX7_readStep_18 ?_
    refine w_top ev62 ?_
    refine lv_bipush (v := 99) hx hb dX7_readStep_19 (by decide) ?_
    obtain ⟨r63, m64, hq, hf⟩ := ob_e hf
    refine w_ci (va_runV (As := [.int v62, .int 99]) (rest := []) ⟨hx, hb, hml, hown, hts⟩ (c_X7_readNumber l D ad cI cR hi fu v62 99 m35 r63 m64 hq) (cwV 2 hts gX7_readStep_X7_readNumber rfl rfl rfl (by decide +kernel) ⟨Nat.le_of_ble_eq_true rfl, Nat.le_of_ble_eq_true rfl⟩) (w_preV (ci := 7) hK hP hN (S_mod ad cI cR).1 (S_mod ad cI cR).2 rfl) rfl rfl hl.1 rfl (lv_room (Nat.le_of_ble_eq_true rfl)) dX7_readStep_21 ⟨Nat.zero_le _, Nat.zero_le _⟩) hA hS (fun H locs hP hS => ?_)
    cases hf
    exact w_iret hx hb hr hlocks hP hS dX7_readStep_24
def F_X7_findFault_L2 (fu : Nat)   : Nat → Int32 → Mem → Option (Int32 × Mem)
  | 0, _, _ => none
  | n + 1, x1, mm => ob (F_X7_readStep fu x1 mm) fun r15 m16 => if 0 ≤ r15 then (if r15 = (m16 359 5) then (some ((-100005), m16)) else (gd (inb r15 80) (if (m16 363 r15.toNatClampNeg) = 59 then (bd (r15 + 1) fun v20 => F_X7_findFault_L2 fu  n v20 m16) else (some (r15, m16))))) else (bd ((-1) - r15) fun v21 => some (v21, m16))
def F_X7_findFault (fu : Nat)  (mm : Mem) : Option (Int32 × Mem) := F_X7_findFault_L2 fu  fu 0 mm
set_option maxHeartbeats 4000000 in
set_option maxRecDepth 100000 in
theorem c_X7_findFault (l : Launch) (D : va_G) (ad : Nat → Nat) (cI cR : ClassId) (hi : inj ad) (fu : Nat)   (mm : Mem) (r0 : Int32) (m9 : Mem) (hf : F_X7_findFault fu  mm = some (r0, m9)) : MI l yX7_findFault wsX7_findFault { frames := 3, cells := 0, slots := 0, locals := 66 } D ad cI cR [.ref (ad 359)] mm r0 m9 := by
  refine Met.ofW (cc := cX7_findFault) (maxL := 2) (ret := (some .int)) (by decide) rfl ?_
  intro p e s m args below meth c s₁ B hml hv
  obtain ⟨rfl, hP, hK, hN⟩ := hv
  have hx := B.exec
  have hb := B.bytes
  have hr := B.returns
  have hts := atoms_spec (ws := wsX7_findFault) B.pre
  have hown : s.vm.findClass RX7 = some m.cls := findClass_of_methodNamed B.named
  have hlocks := B.notSynchronized
  have hA : ∀ q, AA ad q → AA ad q := fun _ h => h
  have hS : va_S (AA ad) s.heap s.heap [] := va_S.rf
  have hinX7 : ∀ w ∈ wsX70, w ∈ wsX7_findFault := (fun _ h => List.mem_cons_of_mem _ (List.mem_append_right _ h))
  have hL2 : ∀ (n : Nat) (x1 : Int32)  (mm : Mem) (H : Heap) (locs : List Loc) (ls : Array Slot), F_X7_findFault_L2 fu   n x1 mm = some (r0, m9) → va_P D vwCl (cw ad cI cR mm) H → va_S (AA ad) s.heap H locs → lv_has ls 2 [(0, .ref (ad 359)), (1, .int x1)] → W p l e (headSpec wsX7_findFault { frames := 3, cells := 0, slots := 0, locals := 66 }).room s m ([.ref (ad 359)] : List Value).toArray below meth c H locs 0 0 (MQ below (va_Qi (fun (r' : Int32) (u : Mem) => r' = r0 ∧ u = m9) (KB D ad cI cR) (AA ad)) ([.ref (ad 359)] : List Value).toArray s 0 0 (AA ad)) (F0 m 2 ls []) := by
    intro n
    induction n with
    | zero =>
      intro x1 mm H locs ls hf hP hS hl
      rw [F_X7_findFault_L2] at hf
      cases hf
    | succ n2 ih2 =>
      intro x1 mm H locs ls hf hP hS hl
      rw [F_X7_findFault_L2] at hf
      refine lv_aload_n hx hb dX7_findFault_2 rfl (lv_at hl 0 rfl) ?_
      refine lv_iload_n hx hb dX7_findFault_3 rfl (lv_at hl 1 rfl) ?_
      obtain ⟨r15, m16, hq, hf⟩ := ob_e hf
      refine w_ci (va_runV (As := [.int x1]) (rest := []) ⟨hx, hb, hml, hown, hts⟩ (c_X7_readStep l D ad cI cR hi fu x1 mm r15 m16 hq) (cwV 1 hts gX7_findFault_X7_readStep rfl rfl rfl (by decide +kernel) ⟨Nat.le_of_ble_eq_true rfl, Nat.le_of_ble_eq_true rfl⟩) (w_preV (ci := 7) hK hP hN (S_mod ad cI cR).1 (S_mod ad cI cR).2 rfl) rfl rfl hl.1 rfl (lv_room (Nat.le_of_ble_eq_true rfl)) dX7_findFault_4 ⟨Nat.zero_le _, Nat.zero_le _⟩) hA hS (fun H locs hP hS => ?_)
      refine lv_istore_n (lv' := [(1, .int r15), (0, .ref (ad 359))]) hx hb dX7_findFault_7 rfl hl (by decide) rfl (fun ls hl => ?_)
      refine lv_iload_n hx hb dX7_findFault_8 rfl (lv_at hl 0 rfl) ?_
      refine lv_if_ge (tgt := 16) hx hb dX7_findFault_9 (by decide) (fun c17 => ?_) (fun c17 => ?_)
      · rw [if_pos c17] at hf
        refine lv_iload_n hx hb dX7_findFault_16 rfl (lv_at hl 0 rfl) ?_
        refine lv_aload_n hx hb dX7_findFault_17 rfl (lv_at hl 1 rfl) ?_
        refine w_get (C := RX7) (T := TX7) (N := 9) (ci := 7) (v := .int (m16 359 5)) hx hb hts hinX7 hown hK hP (S_mod ad cI cR).1 (S_mod ad cI cR).2 rfl 5 (by decide) (hts (.fieldLink RX7 120 "AdmissionControlModel" "length" "I") (List.mem_of_getElem? (i := 1) rfl)) (fun _ h9 => h9) rfl dX7_findFault_18 ?_
        refine lv_icmp_ne (tgt := 27) hx hb dX7_findFault_21 (by decide) (fun c18 => ?_) (fun c18 => ?_)
        · rw [if_neg c18] at hf
          refine lv_aload_n hx hb dX7_findFault_27 rfl (lv_at hl 1 rfl) ?_
          refine w_get (C := RX7) (T := TX7) (N := 9) (ci := 7) (v := .ref (ad 363)) hx hb hts hinX7 hown hK hP (S_mod ad cI cR).1 (S_mod ad cI cR).2 rfl 4 (by decide) (hts (.fieldLink RX7 19 "AdmissionControlModel" "text" "[I") (List.mem_of_getElem? (i := 3) rfl)) (fun _ h9 => h9) rfl dX7_findFault_28 ?_
          refine lv_iload_n hx hb dX7_findFault_31 rfl (lv_at hl 0 rfl) ?_
          obtain ⟨hnb, hf⟩ := gd_e hf
          refine w_ald hx hb hK hP (S_mtext ad cI cR) hnb dX7_findFault_32 ?_
          refine lv_bipush (v := 59) hx hb dX7_findFault_33 (by decide) ?_
          refine lv_icmp_eq (tgt := 40) hx hb dX7_findFault_35 (by decide) (fun c19 => ?_) (fun c19 => ?_)
          · rw [if_pos c19] at hf
            obtain ⟨v20, ev20, hf⟩ := bd_e hf
            refine lv_iinc (v := v20) (lv' := [(1, .int v20), (0, .ref (ad 359))]) hx hb dX7_findFault_40 hl (k := 0) rfl (by rw [ev20]; rfl) (by decide) rfl (fun ls hl => ?_)
            refine lv_goto (tgt := 2) hx hb dX7_findFault_43 (by decide) ?_
            exact ih2 v20 m16 _ _ _ hf hP hS (lv_sub hl [1, 0] rfl)
          · rw [if_neg c19] at hf
            refine lv_iload_n hx hb dX7_findFault_38 rfl (lv_at hl 0 rfl) ?_
            cases hf
            exact w_iret hx hb hr hlocks hP hS dX7_findFault_39
        · rw [if_pos c18] at hf
          refine lv_ldc (v := (-100005)) hx hb hown (hts (.constant RX7 30 (-100005)) (List.mem_of_getElem? (i := 2) rfl)) dX7_findFault_24 ?_
          cases hf
          exact w_iret hx hb hr hlocks hP hS dX7_findFault_26
      · rw [if_neg c17] at hf
        refine lv_iconst (v := (-1)) hx hb dX7_findFault_12 (by decide) ?_
        refine lv_iload_n hx hb dX7_findFault_13 rfl (lv_at hl 0 rfl) ?_
        obtain ⟨v21, ev21, hf⟩ := bd_e hf
        refine lv_isub hx hb dX7_findFault_14 ?_
        refine w_top ev21 ?_
        cases hf
        exact w_iret hx hb hr hlocks hP hS dX7_findFault_15
  have hl := lv_entry ([.ref (ad 359)]) (n := 2) (Nat.le_of_ble_eq_true rfl)
  rw [lg_entry_eq]
  generalize (lg_sl ([.ref (ad 359)]) ++ List.replicate (2 - (lg_sl ([.ref (ad 359)])).length) Slot.unset).toArray = ls at hl ⊢
  have hl : lv_has ls 2 [(0, .ref (ad 359))] := hl
  unfold F_X7_findFault at hf
  refine lv_iconst (v := 0) hx hb dX7_findFault_0 (by decide) ?_
  refine lv_istore_n (lv' := [(1, .int 0), (0, .ref (ad 359))]) hx hb dX7_findFault_1 rfl hl (by decide) rfl (fun ls hl => ?_)
  exact hL2 fu 0 mm _ _ _ hf hP hS (lv_sub hl [1, 0] rfl)
def F_X7_fault (fu : Nat)  (mm : Mem) : Option (Int32 × Mem) := ob (F_X7_findFault fu  mm) fun r3 m4 => some (r3, m4)
set_option maxHeartbeats 4000000 in
set_option maxRecDepth 100000 in
theorem c_X7_fault (l : Launch) (D : va_G) (ad : Nat → Nat) (cI cR : ClassId) (hi : inj ad) (fu : Nat)   (mm : Mem) (r0 : Int32) (m9 : Mem) (hf : F_X7_fault fu  mm = some (r0, m9)) : MI l yX7_fault wsX7_fault { frames := 4, cells := 0, slots := 0, locals := 87 } D ad cI cR [.ref (ad 359)] mm r0 m9 := by
  refine Met.ofW (cc := cX7_fault) (maxL := 1) (ret := (some .int)) (by decide) rfl ?_
  intro p e s m args below meth c s₁ B hml hv
  obtain ⟨rfl, hP, hK, hN⟩ := hv
  have hx := B.exec
  have hb := B.bytes
  have hr := B.returns
  have hts := atoms_spec (ws := wsX7_fault) B.pre
  have hown : s.vm.findClass RX7 = some m.cls := findClass_of_methodNamed B.named
  have hlocks := B.notSynchronized
  have hA : ∀ q, AA ad q → AA ad q := fun _ h => h
  have hS : va_S (AA ad) s.heap s.heap [] := va_S.rf
  have hl := lv_entry ([.ref (ad 359)]) (n := 1) (Nat.le_of_ble_eq_true rfl)
  rw [lg_entry_eq]
  generalize (lg_sl ([.ref (ad 359)]) ++ List.replicate (1 - (lg_sl ([.ref (ad 359)])).length) Slot.unset).toArray = ls at hl ⊢
  have hl : lv_has ls 1 [(0, .ref (ad 359))] := hl
  unfold F_X7_fault at hf
  refine lv_aload_n hx hb dX7_fault_0 rfl (lv_at hl 0 rfl) ?_
  obtain ⟨r3, m4, hq, hf⟩ := ob_e hf
  refine w_ci (va_runV (As := []) (rest := []) ⟨hx, hb, hml, hown, hts⟩ (c_X7_findFault l D ad cI cR hi fu  mm r3 m4 hq) (cwV 0 hts gX7_fault_X7_findFault rfl rfl rfl (by decide +kernel) ⟨Nat.le_of_ble_eq_true rfl, Nat.le_of_ble_eq_true rfl⟩) (w_preV (ci := 7) hK hP hN (S_mod ad cI cR).1 (S_mod ad cI cR).2 rfl) rfl rfl hl.1 rfl (lv_room (Nat.le_of_ble_eq_true rfl)) dX7_fault_1 ⟨Nat.zero_le _, Nat.zero_le _⟩) hA hS (fun H locs hP hS => ?_)
  cases hf
  exact w_iret hx hb hr hlocks hP hS dX7_fault_4
def F_X7_run_L125 (fu : Nat)  (k20 : Int32 → Int32 → Int32 → Mem → Option (Int32 × Mem)) (x1 : Int32) (x2 : Int32) (x3 : Int32) (mm : Mem) : Option (Int32 × Mem) := if x3 = 0 then (bd (x1 + 0) fun v52 => k20 v52 x2 x3 mm) else (bd (x1 + 1) fun v53 => k20 v53 x2 x3 mm)
def F_X7_run_L106 (fu : Nat)  (k20 : Int32 → Int32 → Int32 → Mem → Option (Int32 × Mem)) (x1 : Int32) (x2 : Int32) (x3 : Int32) (x4 : Int32) (mm : Mem) : Option (Int32 × Mem) := if x3 = 0 then (F_X7_run_L125 fu  k20 x1 x2 x3 mm) else (ob (F_X7_doOffer fu x4 (mm 359 7) (mm 359 8) mm) fun r55 m56 => F_X7_run_L125 fu  k20 x1 x2 x3 m56)
def F_X7_run_L84 (fu : Nat)  (k20 : Int32 → Int32 → Int32 → Mem → Option (Int32 × Mem)) (x1 : Int32) (x2 : Int32) (x4 : Int32) (p0 : Int32) (mm : Mem) : Option (Int32 × Mem) := if p0 = 0 then (F_X7_run_L106 fu  k20 x1 x2 p0 x4 mm) else (if 0 ≤ x4 then (F_X7_run_L106 fu  k20 x1 x2 p0 x4 mm) else (ob (F_X7_doAdvance fu (mm 359 8) mm) fun r59 m60 => F_X7_run_L125 fu  k20 x1 x2 p0 m60))
def F_X7_run_L76 (fu : Nat)  (k20 : Int32 → Int32 → Int32 → Mem → Option (Int32 × Mem)) (x1 : Int32) (x2 : Int32) (x4 : Int32) (p0 : Int32) (mm : Mem) : Option (Int32 × Mem) := if p0 = 0 then (F_X7_run_L84 fu  k20 x1 x2 x4 1 mm) else (F_X7_run_L84 fu  k20 x1 x2 x4 0 mm)
def F_X7_run_L20 (fu : Nat)   : Nat → Int32 → Int32 → Int32 → Mem → Option (Int32 × Mem)
  | 0, _, _, _, _ => none
  | n + 1, x1, x2, x3, mm => if x3 = 0 then (some (x1, mm)) else (if (mm 359 5) ≤ x2 then (some (x1, mm)) else (ob (F_X7_readStep fu x2 mm) fun r64 m65 => bd (r64 + 1) fun v66 => if 0 ≤ (m65 359 6) then (ob (F_X7_noOffer fu (m65 359 6) (m65 359 7) (m65 359 8) m65) fun r68 m69 => F_X7_run_L76 fu  (F_X7_run_L20 fu  n) x1 v66 (m65 359 6) r68 m69) else (ob (F_X7_noAdvance fu (m65 359 8) m65) fun r70 m71 => F_X7_run_L76 fu  (F_X7_run_L20 fu  n) x1 v66 (m65 359 6) r70 m71)))
def F_X7_run (fu : Nat)  (mm : Mem) : Option (Int32 × Mem) := ob (F_X7_findFault fu  mm) fun r72 m73 => if r72 < 0 then (ov (F_X7_record fu  m73) fun m75 => F_X7_run_L20 fu  fu 0 0 1 m75) else (some ((-100003), m73))
set_option maxHeartbeats 4000000 in
set_option maxRecDepth 100000 in
theorem c_X7_run (l : Launch) (D : va_G) (ad : Nat → Nat) (cI cR : ClassId) (hi : inj ad) (fu : Nat)   (mm : Mem) (r0 : Int32) (m9 : Mem) (hf : F_X7_run fu  mm = some (r0, m9)) : MI l yX7_run wsX7_run { frames := 6, cells := 0, slots := 0, locals := 138 } D ad cI cR [.ref (ad 359)] mm r0 m9 := by
  refine Met.ofW (cc := cX7_run) (maxL := 5) (ret := (some .int)) (by decide) rfl ?_
  intro p e s m args below meth c s₁ B hml hv
  obtain ⟨rfl, hP, hK, hN⟩ := hv
  have hx := B.exec
  have hb := B.bytes
  have hr := B.returns
  have hts := atoms_spec (ws := wsX7_run) B.pre
  have hown : s.vm.findClass RX7 = some m.cls := findClass_of_methodNamed B.named
  have hlocks := B.notSynchronized
  have hA : ∀ q, AA ad q → AA ad q := fun _ h => h
  have hS : va_S (AA ad) s.heap s.heap [] := va_S.rf
  have hinX7 : ∀ w ∈ wsX70, w ∈ wsX7_run := (fun _ h => List.mem_cons_of_mem _ (List.mem_append_right _ h))
  have hL20 : ∀ (n : Nat) (x1 : Int32) (x2 : Int32) (x3 : Int32)  (mm : Mem) (H : Heap) (locs : List Loc) (ls : Array Slot), F_X7_run_L20 fu   n x1 x2 x3 mm = some (r0, m9) → va_P D vwCl (cw ad cI cR mm) H → va_S (AA ad) s.heap H locs → lv_has ls 5 [(0, .ref (ad 359)), (1, .int x1), (2, .int x2), (3, .int x3)] → W p l e (headSpec wsX7_run { frames := 6, cells := 0, slots := 0, locals := 138 }).room s m ([.ref (ad 359)] : List Value).toArray below meth c H locs 0 0 (MQ below (va_Qi (fun (r' : Int32) (u : Mem) => r' = r0 ∧ u = m9) (KB D ad cI cR) (AA ad)) ([.ref (ad 359)] : List Value).toArray s 0 0 (AA ad)) (F0 m 20 ls []) := by
    intro n
    induction n with
    | zero =>
      intro x1 x2 x3 mm H locs ls hf hP hS hl
      rw [F_X7_run_L20] at hf
      cases hf
    | succ n20 ih20 =>
      have hL125 : ∀ (x1 : Int32) (x2 : Int32) (x3 : Int32)  (mm : Mem) (H : Heap) (locs : List Loc) (ls : Array Slot), F_X7_run_L125 fu  (F_X7_run_L20 fu  n20) x1 x2 x3 mm = some (r0, m9) → va_P D vwCl (cw ad cI cR mm) H → va_S (AA ad) s.heap H locs → lv_has ls 5 [(0, .ref (ad 359)), (1, .int x1), (2, .int x2), (3, .int x3)] → W p l e (headSpec wsX7_run { frames := 6, cells := 0, slots := 0, locals := 138 }).room s m ([.ref (ad 359)] : List Value).toArray below meth c H locs 0 0 (MQ below (va_Qi (fun (r' : Int32) (u : Mem) => r' = r0 ∧ u = m9) (KB D ad cI cR) (AA ad)) ([.ref (ad 359)] : List Value).toArray s 0 0 (AA ad)) (F0 m 125 ls []) := by
        intro x1 x2 x3 mm H locs ls hf hP hS hl
        unfold F_X7_run_L125 at hf
        refine lv_iload_n hx hb dX7_run_125 rfl (lv_at hl 1 rfl) ?_
        refine lv_iload_n hx hb dX7_run_126 rfl (lv_at hl 3 rfl) ?_
        refine lv_if_eq (tgt := 134) hx hb dX7_run_127 (by decide) (fun c51 => ?_) (fun c51 => ?_)
        · rw [if_pos c51] at hf
          refine lv_iconst (v := 0) hx hb dX7_run_134 (by decide) ?_
          obtain ⟨v52, ev52, hf⟩ := bd_e hf
          refine lv_iadd hx hb dX7_run_135 ?_
          refine w_top ev52 ?_
          refine lv_istore_n (lv' := [(1, .int v52), (0, .ref (ad 359)), (2, .int x2), (3, .int x3)]) hx hb dX7_run_136 rfl hl (by decide) rfl (fun ls hl => ?_)
          refine lv_goto (tgt := 20) hx hb dX7_run_137 (by decide) ?_
          exact ih20 v52 x2 x3 mm _ _ _ hf hP hS (lv_sub hl [1, 0, 2, 3] rfl)
        · rw [if_neg c51] at hf
          refine lv_iconst (v := 1) hx hb dX7_run_130 (by decide) ?_
          refine lv_goto (tgt := 135) hx hb dX7_run_131 (by decide) ?_
          obtain ⟨v53, ev53, hf⟩ := bd_e hf
          refine lv_iadd hx hb dX7_run_135 ?_
          refine w_top ev53 ?_
          refine lv_istore_n (lv' := [(1, .int v53), (0, .ref (ad 359)), (2, .int x2), (3, .int x3)]) hx hb dX7_run_136 rfl hl (by decide) rfl (fun ls hl => ?_)
          refine lv_goto (tgt := 20) hx hb dX7_run_137 (by decide) ?_
          exact ih20 v53 x2 x3 mm _ _ _ hf hP hS (lv_sub hl [1, 0, 2, 3] rfl)
      have hL106 : ∀ (x1 : Int32) (x2 : Int32) (x3 : Int32) (x4 : Int32)  (mm : Mem) (H : Heap) (locs : List Loc) (ls : Array Slot), F_X7_run_L106 fu  (F_X7_run_L20 fu  n20) x1 x2 x3 x4 mm = some (r0, m9) → va_P D vwCl (cw ad cI cR mm) H → va_S (AA ad) s.heap H locs → lv_has ls 5 [(0, .ref (ad 359)), (1, .int x1), (2, .int x2), (3, .int x3), (4, .int x4)] → W p l e (headSpec wsX7_run { frames := 6, cells := 0, slots := 0, locals := 138 }).room s m ([.ref (ad 359)] : List Value).toArray below meth c H locs 0 0 (MQ below (va_Qi (fun (r' : Int32) (u : Mem) => r' = r0 ∧ u = m9) (KB D ad cI cR) (AA ad)) ([.ref (ad 359)] : List Value).toArray s 0 0 (AA ad)) (F0 m 106 ls []) := by
        intro x1 x2 x3 x4 mm H locs ls hf hP hS hl
        unfold F_X7_run_L106 at hf
        refine lv_iload_n hx hb dX7_run_106 rfl (lv_at hl 3 rfl) ?_
        refine lv_if_eq (tgt := 125) hx hb dX7_run_107 (by decide) (fun c54 => ?_) (fun c54 => ?_)
        · rw [if_pos c54] at hf
          exact hL125 x1 x2 x3 mm _ _ _ hf hP hS (lv_sub hl [0, 1, 2, 3] rfl)
        · rw [if_neg c54] at hf
          refine lv_aload_n hx hb dX7_run_110 rfl (lv_at hl 0 rfl) ?_
          refine lv_iload hx hb dX7_run_111 (lv_at hl 4 rfl) ?_
          refine lv_aload_n hx hb dX7_run_113 rfl (lv_at hl 0 rfl) ?_
          refine w_get (C := RX7) (T := TX7) (N := 9) (ci := 7) (v := .int (mm 359 7)) hx hb hts hinX7 hown hK hP (S_mod ad cI cR).1 (S_mod ad cI cR).2 rfl 7 (by decide) (hts (.fieldLink RX7 135 "AdmissionControlModel" "shapeRead" "I") (List.mem_of_getElem? (i := 5) rfl)) (fun _ h9 => h9) rfl dX7_run_114 ?_
          refine lv_aload_n hx hb dX7_run_117 rfl (lv_at hl 0 rfl) ?_
          refine w_get (C := RX7) (T := TX7) (N := 9) (ci := 7) (v := .int (mm 359 8)) hx hb hts hinX7 hown hK hP (S_mod ad cI cR).1 (S_mod ad cI cR).2 rfl 8 (by decide) (hts (.fieldLink RX7 123 "AdmissionControlModel" "numberRead" "I") (List.mem_of_getElem? (i := 4) rfl)) (fun _ h9 => h9) rfl dX7_run_118 ?_
          obtain ⟨r55, m56, hq, hf⟩ := ob_e hf
          refine w_ci (va_runV (As := [.int x4, .int (mm 359 7), .int (mm 359 8)]) (rest := []) ⟨hx, hb, hml, hown, hts⟩ (c_X7_doOffer l D ad cI cR hi fu x4 (mm 359 7) (mm 359 8) mm r55 m56 hq) (cwV 3 hts gX7_run_X7_doOffer rfl rfl rfl (by decide +kernel) ⟨Nat.le_of_ble_eq_true rfl, Nat.le_of_ble_eq_true rfl⟩) (w_preV (ci := 7) hK hP hN (S_mod ad cI cR).1 (S_mod ad cI cR).2 rfl) rfl rfl hl.1 rfl (lv_room (Nat.le_of_ble_eq_true rfl)) dX7_run_121 ⟨Nat.zero_le _, Nat.zero_le _⟩) hA hS (fun H locs hP hS => ?_)
          refine lv_pop hx hb dX7_run_124 rfl ?_
          exact hL125 x1 x2 x3 m56 _ _ _ hf hP hS (lv_sub hl [0, 1, 2, 3] rfl)
      have hL84 : ∀ (x1 : Int32) (x2 : Int32) (x4 : Int32) (p0 : Int32)  (mm : Mem) (H : Heap) (locs : List Loc) (ls : Array Slot), F_X7_run_L84 fu  (F_X7_run_L20 fu  n20) x1 x2 x4 p0 mm = some (r0, m9) → va_P D vwCl (cw ad cI cR mm) H → va_S (AA ad) s.heap H locs → lv_has ls 5 [(0, .ref (ad 359)), (1, .int x1), (2, .int x2), (4, .int x4)] → W p l e (headSpec wsX7_run { frames := 6, cells := 0, slots := 0, locals := 138 }).room s m ([.ref (ad 359)] : List Value).toArray below meth c H locs 0 0 (MQ below (va_Qi (fun (r' : Int32) (u : Mem) => r' = r0 ∧ u = m9) (KB D ad cI cR) (AA ad)) ([.ref (ad 359)] : List Value).toArray s 0 0 (AA ad)) (F0 m 84 ls [.int p0]) := by
        intro x1 x2 x4 p0 mm H locs ls hf hP hS hl
        unfold F_X7_run_L84 at hf
        refine lv_istore_n (lv' := [(3, .int p0), (0, .ref (ad 359)), (1, .int x1), (2, .int x2), (4, .int x4)]) hx hb dX7_run_84 rfl hl (by decide) rfl (fun ls hl => ?_)
        refine lv_iload_n hx hb dX7_run_85 rfl (lv_at hl 0 rfl) ?_
        refine lv_if_eq (tgt := 106) hx hb dX7_run_86 (by decide) (fun c57 => ?_) (fun c57 => ?_)
        · rw [if_pos c57] at hf
          exact hL106 x1 x2 p0 x4 mm _ _ _ hf hP hS (lv_sub hl [1, 2, 3, 0, 4] rfl)
        · rw [if_neg c57] at hf
          refine lv_iload hx hb dX7_run_89 (lv_at hl 4 rfl) ?_
          refine lv_if_ge (tgt := 106) hx hb dX7_run_91 (by decide) (fun c58 => ?_) (fun c58 => ?_)
          · rw [if_pos c58] at hf
            exact hL106 x1 x2 p0 x4 mm _ _ _ hf hP hS (lv_sub hl [1, 2, 3, 0, 4] rfl)
          · rw [if_neg c58] at hf
            refine lv_aload_n hx hb dX7_run_94 rfl (lv_at hl 1 rfl) ?_
            refine lv_aload_n hx hb dX7_run_95 rfl (lv_at hl 1 rfl) ?_
            refine w_get (C := RX7) (T := TX7) (N := 9) (ci := 7) (v := .int (mm 359 8)) hx hb hts hinX7 hown hK hP (S_mod ad cI cR).1 (S_mod ad cI cR).2 rfl 8 (by decide) (hts (.fieldLink RX7 123 "AdmissionControlModel" "numberRead" "I") (List.mem_of_getElem? (i := 4) rfl)) (fun _ h9 => h9) rfl dX7_run_96 ?_
            obtain ⟨r59, m60, hq, hf⟩ := ob_e hf
            refine w_ci (va_runV (As := [.int (mm 359 8)]) (rest := []) ⟨hx, hb, hml, hown, hts⟩ (c_X7_doAdvance l D ad cI cR hi fu (mm 359 8) mm r59 m60 hq) (cwV 1 hts gX7_run_X7_doAdvance rfl rfl rfl (by decide +kernel) ⟨Nat.le_of_ble_eq_true rfl, Nat.le_of_ble_eq_true rfl⟩) (w_preV (ci := 7) hK hP hN (S_mod ad cI cR).1 (S_mod ad cI cR).2 rfl) rfl rfl hl.1 rfl (lv_room (Nat.le_of_ble_eq_true rfl)) dX7_run_99 ⟨Nat.zero_le _, Nat.zero_le _⟩) hA hS (fun H locs hP hS => ?_)
            refine lv_pop hx hb dX7_run_102 rfl ?_
            refine lv_goto (tgt := 125) hx hb dX7_run_103 (by decide) ?_
            exact hL125 x1 x2 p0 m60 _ _ _ hf hP hS (lv_sub hl [1, 2, 3, 0] rfl)
      have hL76 : ∀ (x1 : Int32) (x2 : Int32) (x4 : Int32) (p0 : Int32)  (mm : Mem) (H : Heap) (locs : List Loc) (ls : Array Slot), F_X7_run_L76 fu  (F_X7_run_L20 fu  n20) x1 x2 x4 p0 mm = some (r0, m9) → va_P D vwCl (cw ad cI cR mm) H → va_S (AA ad) s.heap H locs → lv_has ls 5 [(0, .ref (ad 359)), (1, .int x1), (2, .int x2), (4, .int x4)] → W p l e (headSpec wsX7_run { frames := 6, cells := 0, slots := 0, locals := 138 }).room s m ([.ref (ad 359)] : List Value).toArray below meth c H locs 0 0 (MQ below (va_Qi (fun (r' : Int32) (u : Mem) => r' = r0 ∧ u = m9) (KB D ad cI cR) (AA ad)) ([.ref (ad 359)] : List Value).toArray s 0 0 (AA ad)) (F0 m 76 ls [.int p0]) := by
        intro x1 x2 x4 p0 mm H locs ls hf hP hS hl
        unfold F_X7_run_L76 at hf
        refine lv_if_ne (tgt := 83) hx hb dX7_run_76 (by decide) (fun c61 => ?_) (fun c61 => ?_)
        · rw [if_neg c61] at hf
          refine lv_iconst (v := 0) hx hb dX7_run_83 (by decide) ?_
          exact hL84 x1 x2 x4 0 mm _ _ _ hf hP hS (lv_sub hl [0, 1, 2, 3] rfl)
        · rw [if_pos c61] at hf
          refine lv_iconst (v := 1) hx hb dX7_run_79 (by decide) ?_
          refine lv_goto (tgt := 84) hx hb dX7_run_80 (by decide) ?_
          exact hL84 x1 x2 x4 1 mm _ _ _ hf hP hS (lv_sub hl [0, 1, 2, 3] rfl)
      intro x1 x2 x3 mm H locs ls hf hP hS hl
      rw [F_X7_run_L20] at hf
      refine lv_iload_n hx hb dX7_run_20 rfl (lv_at hl 3 rfl) ?_
      refine lv_if_eq (tgt := 140) hx hb dX7_run_21 (by decide) (fun c62 => ?_) (fun c62 => ?_)
      · rw [if_pos c62] at hf
        refine lv_iload_n hx hb dX7_run_140 rfl (lv_at hl 1 rfl) ?_
        cases hf
        exact w_iret hx hb hr hlocks hP hS dX7_run_141
      · rw [if_neg c62] at hf
        refine lv_iload_n hx hb dX7_run_24 rfl (lv_at hl 2 rfl) ?_
        refine lv_aload_n hx hb dX7_run_25 rfl (lv_at hl 0 rfl) ?_
        refine w_get (C := RX7) (T := TX7) (N := 9) (ci := 7) (v := .int (mm 359 5)) hx hb hts hinX7 hown hK hP (S_mod ad cI cR).1 (S_mod ad cI cR).2 rfl 5 (by decide) (hts (.fieldLink RX7 120 "AdmissionControlModel" "length" "I") (List.mem_of_getElem? (i := 2) rfl)) (fun _ h9 => h9) rfl dX7_run_26 ?_
        refine lv_icmp_ge (tgt := 140) hx hb dX7_run_29 (by decide) (fun c63 => ?_) (fun c63 => ?_)
        · rw [if_pos c63] at hf
          refine lv_iload_n hx hb dX7_run_140 rfl (lv_at hl 1 rfl) ?_
          cases hf
          exact w_iret hx hb hr hlocks hP hS dX7_run_141
        · rw [if_neg c63] at hf
          refine lv_aload_n hx hb dX7_run_32 rfl (lv_at hl 0 rfl) ?_
          refine lv_iload_n hx hb dX7_run_33 rfl (lv_at hl 2 rfl) ?_
          obtain ⟨r64, m65, hq, hf⟩ := ob_e hf
          refine w_ci (va_runV (As := [.int x2]) (rest := []) ⟨hx, hb, hml, hown, hts⟩ (c_X7_readStep l D ad cI cR hi fu x2 mm r64 m65 hq) (cwV 1 hts gX7_run_X7_readStep rfl rfl rfl (by decide +kernel) ⟨Nat.le_of_ble_eq_true rfl, Nat.le_of_ble_eq_true rfl⟩) (w_preV (ci := 7) hK hP hN (S_mod ad cI cR).1 (S_mod ad cI cR).2 rfl) rfl rfl hl.1 rfl (lv_room (Nat.le_of_ble_eq_true rfl)) dX7_run_34 ⟨Nat.zero_le _, Nat.zero_le _⟩) hA hS (fun H locs hP hS => ?_)
          refine lv_iconst (v := 1) hx hb dX7_run_37 (by decide) ?_
          obtain ⟨v66, ev66, hf⟩ := bd_e hf
          refine lv_iadd hx hb dX7_run_38 ?_
          refine w_top ev66 ?_
          refine lv_istore_n (lv' := [(2, .int v66), (0, .ref (ad 359)), (1, .int x1), (3, .int x3)]) hx hb dX7_run_39 rfl hl (by decide) rfl (fun ls hl => ?_)
          refine lv_aload_n hx hb dX7_run_40 rfl (lv_at hl 1 rfl) ?_
          refine w_get (C := RX7) (T := TX7) (N := 9) (ci := 7) (v := .int (m65 359 6)) hx hb hts hinX7 hown hK hP (S_mod ad cI cR).1 (S_mod ad cI cR).2 rfl 6 (by decide) (hts (.fieldLink RX7 129 "AdmissionControlModel" "kindRead" "I") (List.mem_of_getElem? (i := 3) rfl)) (fun _ h9 => h9) rfl dX7_run_41 ?_
          refine lv_istore (lv' := [(4, .int (m65 359 6)), (2, .int v66), (0, .ref (ad 359)), (1, .int x1), (3, .int x3)]) hx hb dX7_run_44 hl (by decide) rfl (fun ls hl => ?_)
          refine lv_iload hx hb dX7_run_46 (lv_at hl 0 rfl) ?_
          refine lv_if_ge (tgt := 62) hx hb dX7_run_48 (by decide) (fun c67 => ?_) (fun c67 => ?_)
          · rw [if_pos c67] at hf
            refine lv_aload_n hx hb dX7_run_62 rfl (lv_at hl 2 rfl) ?_
            refine lv_iload hx hb dX7_run_63 (lv_at hl 0 rfl) ?_
            refine lv_aload_n hx hb dX7_run_65 rfl (lv_at hl 2 rfl) ?_
            refine w_get (C := RX7) (T := TX7) (N := 9) (ci := 7) (v := .int (m65 359 7)) hx hb hts hinX7 hown hK hP (S_mod ad cI cR).1 (S_mod ad cI cR).2 rfl 7 (by decide) (hts (.fieldLink RX7 135 "AdmissionControlModel" "shapeRead" "I") (List.mem_of_getElem? (i := 5) rfl)) (fun _ h9 => h9) rfl dX7_run_66 ?_
            refine lv_aload_n hx hb dX7_run_69 rfl (lv_at hl 2 rfl) ?_
            refine w_get (C := RX7) (T := TX7) (N := 9) (ci := 7) (v := .int (m65 359 8)) hx hb hts hinX7 hown hK hP (S_mod ad cI cR).1 (S_mod ad cI cR).2 rfl 8 (by decide) (hts (.fieldLink RX7 123 "AdmissionControlModel" "numberRead" "I") (List.mem_of_getElem? (i := 4) rfl)) (fun _ h9 => h9) rfl dX7_run_70 ?_
            obtain ⟨r68, m69, hq, hf⟩ := ob_e hf
            refine w_ci (va_runV (As := [.int (m65 359 6), .int (m65 359 7), .int (m65 359 8)]) (rest := []) ⟨hx, hb, hml, hown, hts⟩ (c_X7_noOffer l D ad cI cR hi fu (m65 359 6) (m65 359 7) (m65 359 8) m65 r68 m69 hq) (cwV 3 hts gX7_run_X7_noOffer rfl rfl rfl (by decide +kernel) ⟨Nat.le_of_ble_eq_true rfl, Nat.le_of_ble_eq_true rfl⟩) (w_preV (ci := 7) hK hP hN (S_mod ad cI cR).1 (S_mod ad cI cR).2 rfl) rfl rfl hl.1 rfl (lv_room (Nat.le_of_ble_eq_true rfl)) dX7_run_73 ⟨Nat.zero_le _, Nat.zero_le _⟩) hA hS (fun H locs hP hS => ?_)
            exact hL76 x1 v66 (m65 359 6) r68 m69 _ _ _ hf hP hS (lv_sub hl [2, 3, 1, 0] rfl)
          · rw [if_neg c67] at hf
            refine lv_aload_n hx hb dX7_run_51 rfl (lv_at hl 2 rfl) ?_
            refine lv_aload_n hx hb dX7_run_52 rfl (lv_at hl 2 rfl) ?_
            refine w_get (C := RX7) (T := TX7) (N := 9) (ci := 7) (v := .int (m65 359 8)) hx hb hts hinX7 hown hK hP (S_mod ad cI cR).1 (S_mod ad cI cR).2 rfl 8 (by decide) (hts (.fieldLink RX7 123 "AdmissionControlModel" "numberRead" "I") (List.mem_of_getElem? (i := 4) rfl)) (fun _ h9 => h9) rfl dX7_run_53 ?_
            obtain ⟨r70, m71, hq, hf⟩ := ob_e hf
            refine w_ci (va_runV (As := [.int (m65 359 8)]) (rest := []) ⟨hx, hb, hml, hown, hts⟩ (c_X7_noAdvance l D ad cI cR hi fu (m65 359 8) m65 r70 m71 hq) (cwV 1 hts gX7_run_X7_noAdvance rfl rfl rfl (by decide +kernel) ⟨Nat.le_of_ble_eq_true rfl, Nat.le_of_ble_eq_true rfl⟩) (w_preV (ci := 7) hK hP hN (S_mod ad cI cR).1 (S_mod ad cI cR).2 rfl) rfl rfl hl.1 rfl (lv_room (Nat.le_of_ble_eq_true rfl)) dX7_run_56 ⟨Nat.zero_le _, Nat.zero_le _⟩) hA hS (fun H locs hP hS => ?_)
            refine lv_goto (tgt := 76) hx hb dX7_run_59 (by decide) ?_
            exact hL76 x1 v66 (m65 359 6) r70 m71 _ _ _ hf hP hS (lv_sub hl [2, 3, 1, 0] rfl)
  have hl := lv_entry ([.ref (ad 359)]) (n := 5) (Nat.le_of_ble_eq_true rfl)
  rw [lg_entry_eq]
  generalize (lg_sl ([.ref (ad 359)]) ++ List.replicate (5 - (lg_sl ([.ref (ad 359)])).length) Slot.unset).toArray = ls at hl ⊢
  have hl : lv_has ls 5 [(0, .ref (ad 359))] := hl
  unfold F_X7_run at hf
  refine lv_aload_n hx hb dX7_run_0 rfl (lv_at hl 0 rfl) ?_
  obtain ⟨r72, m73, hq, hf⟩ := ob_e hf
  refine w_ci (va_runV (As := []) (rest := []) ⟨hx, hb, hml, hown, hts⟩ (c_X7_findFault l D ad cI cR hi fu  mm r72 m73 hq) (cwV 0 hts gX7_run_X7_findFault rfl rfl rfl (by decide +kernel) ⟨Nat.le_of_ble_eq_true rfl, Nat.le_of_ble_eq_true rfl⟩) (w_preV (ci := 7) hK hP hN (S_mod ad cI cR).1 (S_mod ad cI cR).2 rfl) rfl rfl hl.1 rfl (lv_room (Nat.le_of_ble_eq_true rfl)) dX7_run_1 ⟨Nat.zero_le _, Nat.zero_le _⟩) hA hS (fun H locs hP hS => ?_)
  refine lv_if_lt (tgt := 10) hx hb dX7_run_4 (by decide) (fun c74 => ?_) (fun c74 => ?_)
  · rw [if_pos c74] at hf
    refine lv_aload_n hx hb dX7_run_10 rfl (lv_at hl 0 rfl) ?_
    obtain ⟨m75, hq, hf⟩ := ov_e hf
    refine w_cv (va_runV (As := []) (rest := []) ⟨hx, hb, hml, hown, hts⟩ (c_X7_record l D ad cI cR hi fu  m73 m75 hq) (cwV 0 hts gX7_run_X7_record rfl rfl rfl (by decide +kernel) ⟨Nat.le_of_ble_eq_true rfl, Nat.le_of_ble_eq_true rfl⟩) (w_preV (ci := 7) hK hP hN (S_mod ad cI cR).1 (S_mod ad cI cR).2 rfl) rfl rfl hl.1 rfl (lv_room (Nat.le_of_ble_eq_true rfl)) dX7_run_11 ⟨Nat.zero_le _, Nat.zero_le _⟩) hA hS (fun H locs hP hS => ?_)
    refine lv_iconst (v := 0) hx hb dX7_run_14 (by decide) ?_
    refine lv_istore_n (lv' := [(1, .int 0), (0, .ref (ad 359))]) hx hb dX7_run_15 rfl hl (by decide) rfl (fun ls hl => ?_)
    refine lv_iconst (v := 0) hx hb dX7_run_16 (by decide) ?_
    refine lv_istore_n (lv' := [(2, .int 0), (1, .int 0), (0, .ref (ad 359))]) hx hb dX7_run_17 rfl hl (by decide) rfl (fun ls hl => ?_)
    refine lv_iconst (v := 1) hx hb dX7_run_18 (by decide) ?_
    refine lv_istore_n (lv' := [(3, .int 1), (2, .int 0), (1, .int 0), (0, .ref (ad 359))]) hx hb dX7_run_19 rfl hl (by decide) rfl (fun ls hl => ?_)
    exact hL20 fu 0 0 1 m75 _ _ _ hf hP hS (lv_sub hl [3, 2, 1, 0] rfl)
  · rw [if_neg c74] at hf
    refine lv_ldc (v := (-100003)) hx hb hown (hts (.constant RX7 144 (-100003)) (List.mem_of_getElem? (i := 1) rfl)) dX7_run_7 ?_
    cases hf
    exact w_iret hx hb hr hlocks hP hS dX7_run_9
