def F_X6_isKind (fu : Nat) (a1 : Int32) (mm : Mem) : Option (Int32 × Mem) := if a1 < 0 then (some (0, mm)) else (if 3 ≤ a1 then (some (0, mm)) else (some (1, mm)))
set_option maxHeartbeats 4000000 in
set_option maxRecDepth 100000 in
theorem c_X6_isKind (l : Launch) (D : va_G) (ad : Nat → Nat) (cI cR : ClassId) (hi : inj ad) (fu : Nat) (a1 : Int32)  (mm : Mem) (r0 : Int32) (m9 : Mem) (hf : F_X6_isKind fu a1 mm = some (r0, m9)) : MI l yX6_isKind wsX6_isKind { frames := 0, cells := 0, slots := 0, locals := 0 } D ad cI cR [.int a1] mm r0 m9 := by
  refine Met.ofW (cc := cX6_isKind) (maxL := 1) (ret := (some .boolean)) (by decide) rfl ?_
  intro p e s m args below meth c s₁ B hml hv
  obtain ⟨rfl, hP, hK, hN⟩ := hv
  have hx := B.exec
  have hb := B.bytes
  have hr := B.returns
  have hts := atoms_spec (ws := wsX6_isKind) B.pre
  have hown : s.vm.findClass RX6 = some m.cls := findClass_of_methodNamed B.named
  have hlocks := B.notSynchronized
  have hA : ∀ q, AA ad q → AA ad q := fun _ h => h
  have hS : va_S (AA ad) s.heap s.heap [] := va_S.rf
  have hl := lv_entry ([.int a1]) (n := 1) (Nat.le_of_ble_eq_true rfl)
  rw [lg_entry_eq]
  generalize (lg_sl ([.int a1]) ++ List.replicate (1 - (lg_sl ([.int a1])).length) Slot.unset).toArray = ls at hl ⊢
  have hl : lv_has ls 1 [(0, .int a1)] := hl
  unfold F_X6_isKind at hf
  refine lv_iload_n hx hb dX6_isKind_0 rfl (lv_at hl 0 rfl) ?_
  refine lv_if_lt (tgt := 13) hx hb dX6_isKind_1 (by decide) (fun c3 => ?_) (fun c3 => ?_)
  · rw [if_pos c3] at hf
    refine lv_iconst (v := 0) hx hb dX6_isKind_13 (by decide) ?_
    cases hf
    exact w_zret hx hb hr hlocks rfl hP hS dX6_isKind_14
  · rw [if_neg c3] at hf
    refine lv_iload_n hx hb dX6_isKind_4 rfl (lv_at hl 0 rfl) ?_
    refine lv_iconst (v := 3) hx hb dX6_isKind_5 (by decide) ?_
    refine lv_icmp_ge (tgt := 13) hx hb dX6_isKind_6 (by decide) (fun c4 => ?_) (fun c4 => ?_)
    · rw [if_pos c4] at hf
      refine lv_iconst (v := 0) hx hb dX6_isKind_13 (by decide) ?_
      cases hf
      exact w_zret hx hb hr hlocks rfl hP hS dX6_isKind_14
    · rw [if_neg c4] at hf
      refine lv_iconst (v := 1) hx hb dX6_isKind_9 (by decide) ?_
      refine lv_goto (tgt := 14) hx hb dX6_isKind_10 (by decide) ?_
      cases hf
      exact w_zret hx hb hr hlocks rfl hP hS dX6_isKind_14
def F_X6_isShape (fu : Nat) (a1 : Int32) (mm : Mem) : Option (Int32 × Mem) := if a1 < 0 then (some (0, mm)) else (if 5 ≤ a1 then (some (0, mm)) else (some (1, mm)))
set_option maxHeartbeats 4000000 in
set_option maxRecDepth 100000 in
theorem c_X6_isShape (l : Launch) (D : va_G) (ad : Nat → Nat) (cI cR : ClassId) (hi : inj ad) (fu : Nat) (a1 : Int32)  (mm : Mem) (r0 : Int32) (m9 : Mem) (hf : F_X6_isShape fu a1 mm = some (r0, m9)) : MI l yX6_isShape wsX6_isShape { frames := 0, cells := 0, slots := 0, locals := 0 } D ad cI cR [.int a1] mm r0 m9 := by
  refine Met.ofW (cc := cX6_isShape) (maxL := 1) (ret := (some .boolean)) (by decide) rfl ?_
  intro p e s m args below meth c s₁ B hml hv
  obtain ⟨rfl, hP, hK, hN⟩ := hv
  have hx := B.exec
  have hb := B.bytes
  have hr := B.returns
  have hts := atoms_spec (ws := wsX6_isShape) B.pre
  have hown : s.vm.findClass RX6 = some m.cls := findClass_of_methodNamed B.named
  have hlocks := B.notSynchronized
  have hA : ∀ q, AA ad q → AA ad q := fun _ h => h
  have hS : va_S (AA ad) s.heap s.heap [] := va_S.rf
  have hl := lv_entry ([.int a1]) (n := 1) (Nat.le_of_ble_eq_true rfl)
  rw [lg_entry_eq]
  generalize (lg_sl ([.int a1]) ++ List.replicate (1 - (lg_sl ([.int a1])).length) Slot.unset).toArray = ls at hl ⊢
  have hl : lv_has ls 1 [(0, .int a1)] := hl
  unfold F_X6_isShape at hf
  refine lv_iload_n hx hb dX6_isShape_0 rfl (lv_at hl 0 rfl) ?_
  refine lv_if_lt (tgt := 13) hx hb dX6_isShape_1 (by decide) (fun c3 => ?_) (fun c3 => ?_)
  · rw [if_pos c3] at hf
    refine lv_iconst (v := 0) hx hb dX6_isShape_13 (by decide) ?_
    cases hf
    exact w_zret hx hb hr hlocks rfl hP hS dX6_isShape_14
  · rw [if_neg c3] at hf
    refine lv_iload_n hx hb dX6_isShape_4 rfl (lv_at hl 0 rfl) ?_
    refine lv_iconst (v := 5) hx hb dX6_isShape_5 (by decide) ?_
    refine lv_icmp_ge (tgt := 13) hx hb dX6_isShape_6 (by decide) (fun c4 => ?_) (fun c4 => ?_)
    · rw [if_pos c4] at hf
      refine lv_iconst (v := 0) hx hb dX6_isShape_13 (by decide) ?_
      cases hf
      exact w_zret hx hb hr hlocks rfl hP hS dX6_isShape_14
    · rw [if_neg c4] at hf
      refine lv_iconst (v := 1) hx hb dX6_isShape_9 (by decide) ?_
      refine lv_goto (tgt := 14) hx hb dX6_isShape_10 (by decide) ?_
      cases hf
      exact w_zret hx hb hr hlocks rfl hP hS dX6_isShape_14
def F_X6_isSetting (fu : Nat) (a1 : Int32) (mm : Mem) : Option (Int32 × Mem) := if a1 < 0 then (some (0, mm)) else (if 4 ≤ a1 then (some (0, mm)) else (some (1, mm)))
set_option maxHeartbeats 4000000 in
set_option maxRecDepth 100000 in
theorem c_X6_isSetting (l : Launch) (D : va_G) (ad : Nat → Nat) (cI cR : ClassId) (hi : inj ad) (fu : Nat) (a1 : Int32)  (mm : Mem) (r0 : Int32) (m9 : Mem) (hf : F_X6_isSetting fu a1 mm = some (r0, m9)) : MI l yX6_isSetting wsX6_isSetting { frames := 0, cells := 0, slots := 0, locals := 0 } D ad cI cR [.int a1] mm r0 m9 := by
  refine Met.ofW (cc := cX6_isSetting) (maxL := 1) (ret := (some .boolean)) (by decide) rfl ?_
  intro p e s m args below meth c s₁ B hml hv
  obtain ⟨rfl, hP, hK, hN⟩ := hv
  have hx := B.exec
  have hb := B.bytes
  have hr := B.returns
  have hts := atoms_spec (ws := wsX6_isSetting) B.pre
  have hown : s.vm.findClass RX6 = some m.cls := findClass_of_methodNamed B.named
  have hlocks := B.notSynchronized
  have hA : ∀ q, AA ad q → AA ad q := fun _ h => h
  have hS : va_S (AA ad) s.heap s.heap [] := va_S.rf
  have hl := lv_entry ([.int a1]) (n := 1) (Nat.le_of_ble_eq_true rfl)
  rw [lg_entry_eq]
  generalize (lg_sl ([.int a1]) ++ List.replicate (1 - (lg_sl ([.int a1])).length) Slot.unset).toArray = ls at hl ⊢
  have hl : lv_has ls 1 [(0, .int a1)] := hl
  unfold F_X6_isSetting at hf
  refine lv_iload_n hx hb dX6_isSetting_0 rfl (lv_at hl 0 rfl) ?_
  refine lv_if_lt (tgt := 13) hx hb dX6_isSetting_1 (by decide) (fun c3 => ?_) (fun c3 => ?_)
  · rw [if_pos c3] at hf
    refine lv_iconst (v := 0) hx hb dX6_isSetting_13 (by decide) ?_
    cases hf
    exact w_zret hx hb hr hlocks rfl hP hS dX6_isSetting_14
  · rw [if_neg c3] at hf
    refine lv_iload_n hx hb dX6_isSetting_4 rfl (lv_at hl 0 rfl) ?_
    refine lv_iconst (v := 4) hx hb dX6_isSetting_5 (by decide) ?_
    refine lv_icmp_ge (tgt := 13) hx hb dX6_isSetting_6 (by decide) (fun c4 => ?_) (fun c4 => ?_)
    · rw [if_pos c4] at hf
      refine lv_iconst (v := 0) hx hb dX6_isSetting_13 (by decide) ?_
      cases hf
      exact w_zret hx hb hr hlocks rfl hP hS dX6_isSetting_14
    · rw [if_neg c4] at hf
      refine lv_iconst (v := 1) hx hb dX6_isSetting_9 (by decide) ?_
      refine lv_goto (tgt := 14) hx hb dX6_isSetting_10 (by decide) ?_
      cases hf
      exact w_zret hx hb hr hlocks rfl hP hS dX6_isSetting_14
def F_X6_isBetween (fu : Nat) (a1 : Int32) (a2 : Int32) (a3 : Int32) (mm : Mem) : Option (Int32 × Mem) := if a2 < a1 then (some (0, mm)) else (if a3 < a2 then (some (0, mm)) else (some (1, mm)))
set_option maxHeartbeats 4000000 in
set_option maxRecDepth 100000 in
theorem c_X6_isBetween (l : Launch) (D : va_G) (ad : Nat → Nat) (cI cR : ClassId) (hi : inj ad) (fu : Nat) (a1 : Int32) (a2 : Int32) (a3 : Int32)  (mm : Mem) (r0 : Int32) (m9 : Mem) (hf : F_X6_isBetween fu a1 a2 a3 mm = some (r0, m9)) : MI l yX6_isBetween wsX6_isBetween { frames := 0, cells := 0, slots := 0, locals := 0 } D ad cI cR [.int a1, .int a2, .int a3] mm r0 m9 := by
  refine Met.ofW (cc := cX6_isBetween) (maxL := 3) (ret := (some .boolean)) (by decide) rfl ?_
  intro p e s m args below meth c s₁ B hml hv
  obtain ⟨rfl, hP, hK, hN⟩ := hv
  have hx := B.exec
  have hb := B.bytes
  have hr := B.returns
  have hts := atoms_spec (ws := wsX6_isBetween) B.pre
  have hown : s.vm.findClass RX6 = some m.cls := findClass_of_methodNamed B.named
  have hlocks := B.notSynchronized
  have hA : ∀ q, AA ad q → AA ad q := fun _ h => h
  have hS : va_S (AA ad) s.heap s.heap [] := va_S.rf
  have hl := lv_entry ([.int a1, .int a2, .int a3]) (n := 3) (Nat.le_of_ble_eq_true rfl)
  rw [lg_entry_eq]
  generalize (lg_sl ([.int a1, .int a2, .int a3]) ++ List.replicate (3 - (lg_sl ([.int a1, .int a2, .int a3])).length) Slot.unset).toArray = ls at hl ⊢
  have hl : lv_has ls 3 [(0, .int a1), (1, .int a2), (2, .int a3)] := hl
  unfold F_X6_isBetween at hf
  refine lv_iload_n hx hb dX6_isBetween_0 rfl (lv_at hl 0 rfl) ?_
  refine lv_iload_n hx hb dX6_isBetween_1 rfl (lv_at hl 1 rfl) ?_
  refine lv_icmp_gt (tgt := 14) hx hb dX6_isBetween_2 (by decide) (fun c3 => ?_) (fun c3 => ?_)
  · rw [if_pos c3] at hf
    refine lv_iconst (v := 0) hx hb dX6_isBetween_14 (by decide) ?_
    cases hf
    exact w_zret hx hb hr hlocks rfl hP hS dX6_isBetween_15
  · rw [if_neg c3] at hf
    refine lv_iload_n hx hb dX6_isBetween_5 rfl (lv_at hl 1 rfl) ?_
    refine lv_iload_n hx hb dX6_isBetween_6 rfl (lv_at hl 2 rfl) ?_
    refine lv_icmp_gt (tgt := 14) hx hb dX6_isBetween_7 (by decide) (fun c4 => ?_) (fun c4 => ?_)
    · rw [if_pos c4] at hf
      refine lv_iconst (v := 0) hx hb dX6_isBetween_14 (by decide) ?_
      cases hf
      exact w_zret hx hb hr hlocks rfl hP hS dX6_isBetween_15
    · rw [if_neg c4] at hf
      refine lv_iconst (v := 1) hx hb dX6_isBetween_10 (by decide) ?_
      refine lv_goto (tgt := 15) hx hb dX6_isBetween_11 (by decide) ?_
      cases hf
      exact w_zret hx hb hr hlocks rfl hP hS dX6_isBetween_15
def F_X6_isServerValue (fu : Nat) (a1 : Int32) (a2 : Int32) (mm : Mem) : Option (Int32 × Mem) := if a1 = 0 then (ob (F_X6_isBetween fu 1 a2 20 mm) fun r14 m15 => gd (isZ r14) (some (r14, m15))) else (if a1 = 1 then (ob (F_X6_isBetween fu 1 a2 60 mm) fun r17 m18 => gd (isZ r17) (some (r17, m18))) else (if a1 = 2 then (ob (F_X6_isBetween fu 1 a2 20 mm) fun r20 m21 => gd (isZ r20) (some (r20, m21))) else (if a1 = 3 then (ob (F_X6_isBetween fu 0 a2 4 mm) fun r23 m24 => gd (isZ r23) (some (r23, m24))) else (some (0, mm)))))
set_option maxHeartbeats 4000000 in
set_option maxRecDepth 100000 in
theorem c_X6_isServerValue (l : Launch) (D : va_G) (ad : Nat → Nat) (cI cR : ClassId) (hi : inj ad) (fu : Nat) (a1 : Int32) (a2 : Int32)  (mm : Mem) (r0 : Int32) (m9 : Mem) (hf : F_X6_isServerValue fu a1 a2 mm = some (r0, m9)) : MI l yX6_isServerValue wsX6_isServerValue { frames := 1, cells := 0, slots := 0, locals := 22 } D ad cI cR [.int a1, .int a2] mm r0 m9 := by
  refine Met.ofW (cc := cX6_isServerValue) (maxL := 2) (ret := (some .boolean)) (by decide) rfl ?_
  intro p e s m args below meth c s₁ B hml hv
  obtain ⟨rfl, hP, hK, hN⟩ := hv
  have hx := B.exec
  have hb := B.bytes
  have hr := B.returns
  have hts := atoms_spec (ws := wsX6_isServerValue) B.pre
  have hown : s.vm.findClass RX6 = some m.cls := findClass_of_methodNamed B.named
  have hlocks := B.notSynchronized
  have hA : ∀ q, AA ad q → AA ad q := fun _ h => h
  have hS : va_S (AA ad) s.heap s.heap [] := va_S.rf
  have hl := lv_entry ([.int a1, .int a2]) (n := 2) (Nat.le_of_ble_eq_true rfl)
  rw [lg_entry_eq]
  generalize (lg_sl ([.int a1, .int a2]) ++ List.replicate (2 - (lg_sl ([.int a1, .int a2])).length) Slot.unset).toArray = ls at hl ⊢
  have hl : lv_has ls 2 [(0, .int a1), (1, .int a2)] := hl
  unfold F_X6_isServerValue at hf
  refine lv_iload_n hx hb dX6_isServerValue_0 rfl (lv_at hl 0 rfl) ?_
  rcases Decidable.em (a1 = 0) with c13 | c13
  · rw [if_pos c13] at hf
    refine lv_tableIn (tgt := 32) (off := 31) hx hb dX6_isServerValue_1 (by rw [c13]; decide) (by rw [c13]; decide) (by rw [c13]; rfl) (by decide) ?_
    refine lv_iconst (v := 1) hx hb dX6_isServerValue_32 (by decide) ?_
    refine lv_iload_n hx hb dX6_isServerValue_33 rfl (lv_at hl 1 rfl) ?_
    refine lv_bipush (v := 20) hx hb dX6_isServerValue_34 (by decide) ?_
    obtain ⟨r14, m15, hq, hf⟩ := ob_e hf
    refine w_ci (va_runS (As := [.int 1, .int a2, .int 20]) (rest := []) ⟨hx, hb, hml, hown, hts⟩ (c_X6_isBetween l D ad cI cR hi fu 1 a2 20 mm r14 m15 hq) (va_cwS 3 hts gX6_isServerValue_X6_isBetween rfl rfl rfl (by decide +kernel) ⟨Nat.le_of_ble_eq_true rfl, Nat.le_of_ble_eq_true rfl⟩) (w_preS hK hP hN) rfl rfl hl.1 rfl (lv_room (Nat.le_of_ble_eq_true rfl)) dX6_isServerValue_36 ⟨Nat.zero_le _, Nat.zero_le _⟩) hA hS (fun H locs hP hS => ?_)
    obtain ⟨hz, hf⟩ := gd_e hf
    cases hf
    exact w_zret hx hb hr hlocks (isZ_n hz) hP hS dX6_isServerValue_39
  · rw [if_neg c13] at hf
    rcases Decidable.em (a1 = 1) with c16 | c16
    · rw [if_pos c16] at hf
      refine lv_tableIn (tgt := 40) (off := 39) hx hb dX6_isServerValue_1 (by rw [c16]; decide) (by rw [c16]; decide) (by rw [c16]; rfl) (by decide) ?_
      refine lv_iconst (v := 1) hx hb dX6_isServerValue_40 (by decide) ?_
      refine lv_iload_n hx hb dX6_isServerValue_41 rfl (lv_at hl 1 rfl) ?_
      refine lv_bipush (v := 60) hx hb dX6_isServerValue_42 (by decide) ?_
      obtain ⟨r17, m18, hq, hf⟩ := ob_e hf
      refine w_ci (va_runS (As := [.int 1, .int a2, .int 60]) (rest := []) ⟨hx, hb, hml, hown, hts⟩ (c_X6_isBetween l D ad cI cR hi fu 1 a2 60 mm r17 m18 hq) (va_cwS 3 hts gX6_isServerValue_X6_isBetween rfl rfl rfl (by decide +kernel) ⟨Nat.le_of_ble_eq_true rfl, Nat.le_of_ble_eq_true rfl⟩) (w_preS hK hP hN) rfl rfl hl.1 rfl (lv_room (Nat.le_of_ble_eq_true rfl)) dX6_isServerValue_44 ⟨Nat.zero_le _, Nat.zero_le _⟩) hA hS (fun H locs hP hS => ?_)
      obtain ⟨hz, hf⟩ := gd_e hf
      cases hf
      exact w_zret hx hb hr hlocks (isZ_n hz) hP hS dX6_isServerValue_47
    · rw [if_neg c16] at hf
      rcases Decidable.em (a1 = 2) with c19 | c19
      · rw [if_pos c19] at hf
        refine lv_tableIn (tgt := 48) (off := 47) hx hb dX6_isServerValue_1 (by rw [c19]; decide) (by rw [c19]; decide) (by rw [c19]; rfl) (by decide) ?_
        refine lv_iconst (v := 1) hx hb dX6_isServerValue_48 (by decide) ?_
        refine lv_iload_n hx hb dX6_isServerValue_49 rfl (lv_at hl 1 rfl) ?_
        refine lv_bipush (v := 20) hx hb dX6_isServerValue_50 (by decide) ?_
        obtain ⟨r20, m21, hq, hf⟩ := ob_e hf
        refine w_ci (va_runS (As := [.int 1, .int a2, .int 20]) (rest := []) ⟨hx, hb, hml, hown, hts⟩ (c_X6_isBetween l D ad cI cR hi fu 1 a2 20 mm r20 m21 hq) (va_cwS 3 hts gX6_isServerValue_X6_isBetween rfl rfl rfl (by decide +kernel) ⟨Nat.le_of_ble_eq_true rfl, Nat.le_of_ble_eq_true rfl⟩) (w_preS hK hP hN) rfl rfl hl.1 rfl (lv_room (Nat.le_of_ble_eq_true rfl)) dX6_isServerValue_52 ⟨Nat.zero_le _, Nat.zero_le _⟩) hA hS (fun H locs hP hS => ?_)
        obtain ⟨hz, hf⟩ := gd_e hf
        cases hf
        exact w_zret hx hb hr hlocks (isZ_n hz) hP hS dX6_isServerValue_55
      · rw [if_neg c19] at hf
        rcases Decidable.em (a1 = 3) with c22 | c22
        · rw [if_pos c22] at hf
          refine lv_tableIn (tgt := 56) (off := 55) hx hb dX6_isServerValue_1 (by rw [c22]; decide) (by rw [c22]; decide) (by rw [c22]; rfl) (by decide) ?_
          refine lv_iconst (v := 0) hx hb dX6_isServerValue_56 (by decide) ?_
          refine lv_iload_n hx hb dX6_isServerValue_57 rfl (lv_at hl 1 rfl) ?_
          refine lv_iconst (v := 4) hx hb dX6_isServerValue_58 (by decide) ?_
          obtain ⟨r23, m24, hq, hf⟩ := ob_e hf
          refine w_ci (va_runS (As := [.int 0, .int a2, .int 4]) (rest := []) ⟨hx, hb, hml, hown, hts⟩ (c_X6_isBetween l D ad cI cR hi fu 0 a2 4 mm r23 m24 hq) (va_cwS 3 hts gX6_isServerValue_X6_isBetween rfl rfl rfl (by decide +kernel) ⟨Nat.le_of_ble_eq_true rfl, Nat.le_of_ble_eq_true rfl⟩) (w_preS hK hP hN) rfl rfl hl.1 rfl (lv_room (Nat.le_of_ble_eq_true rfl)) dX6_isServerValue_59 ⟨Nat.zero_le _, Nat.zero_le _⟩) hA hS (fun H locs hP hS => ?_)
          obtain ⟨hz, hf⟩ := gd_e hf
          cases hf
          exact w_zret hx hb hr hlocks (isZ_n hz) hP hS dX6_isServerValue_62
        · rw [if_neg c22] at hf
          refine lv_tableOut (tgt := 63) hx hb dX6_isServerValue_1 (sw_out4 c13 c16 c19 c22) (by decide) ?_
          refine lv_iconst (v := 0) hx hb dX6_isServerValue_63 (by decide) ?_
          cases hf
          exact w_zret hx hb hr hlocks rfl hP hS dX6_isServerValue_64
def F_X6_isClassValue (fu : Nat) (a1 : Int32) (a2 : Int32) (mm : Mem) : Option (Int32 × Mem) := if a1 = 0 then (ob (F_X6_isBetween fu 1 a2 9 mm) fun r14 m15 => gd (isZ r14) (some (r14, m15))) else (if a1 = 1 then (ob (F_X6_isBetween fu 0 a2 20 mm) fun r17 m18 => gd (isZ r17) (some (r17, m18))) else (if a1 = 2 then (ob (F_X6_isBetween fu 1 a2 99 mm) fun r20 m21 => gd (isZ r20) (some (r20, m21))) else (if a1 = 3 then (ob (F_X6_isBetween fu 1 a2 99 mm) fun r23 m24 => gd (isZ r23) (some (r23, m24))) else (some (0, mm)))))
set_option maxHeartbeats 4000000 in
set_option maxRecDepth 100000 in
theorem c_X6_isClassValue (l : Launch) (D : va_G) (ad : Nat → Nat) (cI cR : ClassId) (hi : inj ad) (fu : Nat) (a1 : Int32) (a2 : Int32)  (mm : Mem) (r0 : Int32) (m9 : Mem) (hf : F_X6_isClassValue fu a1 a2 mm = some (r0, m9)) : MI l yX6_isClassValue wsX6_isClassValue { frames := 1, cells := 0, slots := 0, locals := 22 } D ad cI cR [.int a1, .int a2] mm r0 m9 := by
  refine Met.ofW (cc := cX6_isClassValue) (maxL := 2) (ret := (some .boolean)) (by decide) rfl ?_
  intro p e s m args below meth c s₁ B hml hv
  obtain ⟨rfl, hP, hK, hN⟩ := hv
  have hx := B.exec
  have hb := B.bytes
  have hr := B.returns
  have hts := atoms_spec (ws := wsX6_isClassValue) B.pre
  have hown : s.vm.findClass RX6 = some m.cls := findClass_of_methodNamed B.named
  have hlocks := B.notSynchronized
  have hA : ∀ q, AA ad q → AA ad q := fun _ h => h
  have hS : va_S (AA ad) s.heap s.heap [] := va_S.rf
  have hl := lv_entry ([.int a1, .int a2]) (n := 2) (Nat.le_of_ble_eq_true rfl)
  rw [lg_entry_eq]
  generalize (lg_sl ([.int a1, .int a2]) ++ List.replicate (2 - (lg_sl ([.int a1, .int a2])).length) Slot.unset).toArray = ls at hl ⊢
  have hl : lv_has ls 2 [(0, .int a1), (1, .int a2)] := hl
  unfold F_X6_isClassValue at hf
  refine lv_iload_n hx hb dX6_isClassValue_0 rfl (lv_at hl 0 rfl) ?_
  rcases Decidable.em (a1 = 0) with c13 | c13
  · rw [if_pos c13] at hf
    refine lv_tableIn (tgt := 32) (off := 31) hx hb dX6_isClassValue_1 (by rw [c13]; decide) (by rw [c13]; decide) (by rw [c13]; rfl) (by decide) ?_
    refine lv_iconst (v := 1) hx hb dX6_isClassValue_32 (by decide) ?_
    refine lv_iload_n hx hb dX6_isClassValue_33 rfl (lv_at hl 1 rfl) ?_
    refine lv_bipush (v := 9) hx hb dX6_isClassValue_34 (by decide) ?_
    obtain ⟨r14, m15, hq, hf⟩ := ob_e hf
    refine w_ci (va_runS (As := [.int 1, .int a2, .int 9]) (rest := []) ⟨hx, hb, hml, hown, hts⟩ (c_X6_isBetween l D ad cI cR hi fu 1 a2 9 mm r14 m15 hq) (va_cwS 3 hts gX6_isClassValue_X6_isBetween rfl rfl rfl (by decide +kernel) ⟨Nat.le_of_ble_eq_true rfl, Nat.le_of_ble_eq_true rfl⟩) (w_preS hK hP hN) rfl rfl hl.1 rfl (lv_room (Nat.le_of_ble_eq_true rfl)) dX6_isClassValue_36 ⟨Nat.zero_le _, Nat.zero_le _⟩) hA hS (fun H locs hP hS => ?_)
    obtain ⟨hz, hf⟩ := gd_e hf
    cases hf
    exact w_zret hx hb hr hlocks (isZ_n hz) hP hS dX6_isClassValue_39
  · rw [if_neg c13] at hf
    rcases Decidable.em (a1 = 1) with c16 | c16
    · rw [if_pos c16] at hf
      refine lv_tableIn (tgt := 40) (off := 39) hx hb dX6_isClassValue_1 (by rw [c16]; decide) (by rw [c16]; decide) (by rw [c16]; rfl) (by decide) ?_
      refine lv_iconst (v := 0) hx hb dX6_isClassValue_40 (by decide) ?_
      refine lv_iload_n hx hb dX6_isClassValue_41 rfl (lv_at hl 1 rfl) ?_
      refine lv_bipush (v := 20) hx hb dX6_isClassValue_42 (by decide) ?_
      obtain ⟨r17, m18, hq, hf⟩ := ob_e hf
      refine w_ci (va_runS (As := [.int 0, .int a2, .int 20]) (rest := []) ⟨hx, hb, hml, hown, hts⟩ (c_X6_isBetween l D ad cI cR hi fu 0 a2 20 mm r17 m18 hq) (va_cwS 3 hts gX6_isClassValue_X6_isBetween rfl rfl rfl (by decide +kernel) ⟨Nat.le_of_ble_eq_true rfl, Nat.le_of_ble_eq_true rfl⟩) (w_preS hK hP hN) rfl rfl hl.1 rfl (lv_room (Nat.le_of_ble_eq_true rfl)) dX6_isClassValue_44 ⟨Nat.zero_le _, Nat.zero_le _⟩) hA hS (fun H locs hP hS => ?_)
      obtain ⟨hz, hf⟩ := gd_e hf
      cases hf
      exact w_zret hx hb hr hlocks (isZ_n hz) hP hS dX6_isClassValue_47
    · rw [if_neg c16] at hf
      rcases Decidable.em (a1 = 2) with c19 | c19
      · rw [if_pos c19] at hf
        refine lv_tableIn (tgt := 48) (off := 47) hx hb dX6_isClassValue_1 (by rw [c19]; decide) (by rw [c19]; decide) (by rw [c19]; rfl) (by decide) ?_
        refine lv_iconst (v := 1) hx hb dX6_isClassValue_48 (by decide) ?_
        refine lv_iload_n hx hb dX6_isClassValue_49 rfl (lv_at hl 1 rfl) ?_
        refine lv_bipush (v := 99) hx hb dX6_isClassValue_50 (by decide) ?_
        obtain ⟨r20, m21, hq, hf⟩ := ob_e hf
        refine w_ci (va_runS (As := [.int 1, .int a2, .int 99]) (rest := []) ⟨hx, hb, hml, hown, hts⟩ (c_X6_isBetween l D ad cI cR hi fu 1 a2 99 mm r20 m21 hq) (va_cwS 3 hts gX6_isClassValue_X6_isBetween rfl rfl rfl (by decide +kernel) ⟨Nat.le_of_ble_eq_true rfl, Nat.le_of_ble_eq_true rfl⟩) (w_preS hK hP hN) rfl rfl hl.1 rfl (lv_room (Nat.le_of_ble_eq_true rfl)) dX6_isClassValue_52 ⟨Nat.zero_le _, Nat.zero_le _⟩) hA hS (fun H locs hP hS => ?_)
        obtain ⟨hz, hf⟩ := gd_e hf
        cases hf
        exact w_zret hx hb hr hlocks (isZ_n hz) hP hS dX6_isClassValue_55
      · rw [if_neg c19] at hf
        rcases Decidable.em (a1 = 3) with c22 | c22
        · rw [if_pos c22] at hf
          refine lv_tableIn (tgt := 48) (off := 47) hx hb dX6_isClassValue_1 (by rw [c22]; decide) (by rw [c22]; decide) (by rw [c22]; rfl) (by decide) ?_
          refine lv_iconst (v := 1) hx hb dX6_isClassValue_48 (by decide) ?_
          refine lv_iload_n hx hb dX6_isClassValue_49 rfl (lv_at hl 1 rfl) ?_
          refine lv_bipush (v := 99) hx hb dX6_isClassValue_50 (by decide) ?_
          obtain ⟨r23, m24, hq, hf⟩ := ob_e hf
          refine w_ci (va_runS (As := [.int 1, .int a2, .int 99]) (rest := []) ⟨hx, hb, hml, hown, hts⟩ (c_X6_isBetween l D ad cI cR hi fu 1 a2 99 mm r23 m24 hq) (va_cwS 3 hts gX6_isClassValue_X6_isBetween rfl rfl rfl (by decide +kernel) ⟨Nat.le_of_ble_eq_true rfl, Nat.le_of_ble_eq_true rfl⟩) (w_preS hK hP hN) rfl rfl hl.1 rfl (lv_room (Nat.le_of_ble_eq_true rfl)) dX6_isClassValue_52 ⟨Nat.zero_le _, Nat.zero_le _⟩) hA hS (fun H locs hP hS => ?_)
          obtain ⟨hz, hf⟩ := gd_e hf
          cases hf
          exact w_zret hx hb hr hlocks (isZ_n hz) hP hS dX6_isClassValue_55
        · rw [if_neg c22] at hf
          refine lv_tableOut (tgt := 56) hx hb dX6_isClassValue_1 (sw_out4 c13 c16 c19 c22) (by decide) ?_
          refine lv_iconst (v := 0) hx hb dX6_isClassValue_56 (by decide) ?_
          cases hf
          exact w_zret hx hb hr hlocks rfl hP hS dX6_isClassValue_57
def F_X6_quotient (fu : Nat) (a1 : Int32) (a2 : Int32) (mm : Mem) : Option (Int32 × Mem) := if 1 ≤ a2 then (gd (nz a2) (bd (a1 / a2) fun v4 => some (v4, mm))) else (some (0, mm))
set_option maxHeartbeats 4000000 in
set_option maxRecDepth 100000 in
theorem c_X6_quotient (l : Launch) (D : va_G) (ad : Nat → Nat) (cI cR : ClassId) (hi : inj ad) (fu : Nat) (a1 : Int32) (a2 : Int32)  (mm : Mem) (r0 : Int32) (m9 : Mem) (hf : F_X6_quotient fu a1 a2 mm = some (r0, m9)) : MI l yX6_quotient wsX6_quotient { frames := 0, cells := 0, slots := 0, locals := 0 } D ad cI cR [.int a1, .int a2] mm r0 m9 := by
  refine Met.ofW (cc := cX6_quotient) (maxL := 2) (ret := (some .int)) (by decide) rfl ?_
  intro p e s m args below meth c s₁ B hml hv
  obtain ⟨rfl, hP, hK, hN⟩ := hv
  have hx := B.exec
  have hb := B.bytes
  have hr := B.returns
  have hts := atoms_spec (ws := wsX6_quotient) B.pre
  have hown : s.vm.findClass RX6 = some m.cls := findClass_of_methodNamed B.named
  have hlocks := B.notSynchronized
  have hA : ∀ q, AA ad q → AA ad q := fun _ h => h
  have hS : va_S (AA ad) s.heap s.heap [] := va_S.rf
  have hl := lv_entry ([.int a1, .int a2]) (n := 2) (Nat.le_of_ble_eq_true rfl)
  rw [lg_entry_eq]
  generalize (lg_sl ([.int a1, .int a2]) ++ List.replicate (2 - (lg_sl ([.int a1, .int a2])).length) Slot.unset).toArray = ls at hl ⊢
  have hl : lv_has ls 2 [(0, .int a1), (1, .int a2)] := hl
  unfold F_X6_quotient at hf
  refine lv_iload_n hx hb dX6_quotient_0 rfl (lv_at hl 1 rfl) ?_
  refine lv_iconst (v := 1) hx hb dX6_quotient_1 (by decide) ?_
  refine lv_icmp_ge (tgt := 9) hx hb dX6_quotient_2 (by decide) (fun c3 => ?_) (fun c3 => ?_)
  · rw [if_pos c3] at hf
    refine lv_iload_n hx hb dX6_quotient_9 rfl (lv_at hl 0 rfl) ?_
    refine lv_iload_n hx hb dX6_quotient_10 rfl (lv_at hl 1 rfl) ?_
    obtain ⟨hnz, hf⟩ := gd_e hf
    obtain ⟨v4, ev4, hf⟩ := bd_e hf
    refine lv_idiv hx hb dX6_quotient_11 (nz_ne hnz) ?_
    refine w_top ev4 ?_
    cases hf
    exact w_iret hx hb hr hlocks hP hS dX6_quotient_12
  · rw [if_neg c3] at hf
    refine lv_iconst (v := 0) hx hb dX6_quotient_5 (by decide) ?_
    refine lv_goto (tgt := 12) hx hb dX6_quotient_6 (by decide) ?_
    cases hf
    exact w_iret hx hb hr hlocks hP hS dX6_quotient_12
