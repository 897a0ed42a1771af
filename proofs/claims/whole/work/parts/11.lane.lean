def F_X1_gain (fu : Nat) (o : Nat) (a1 : Int32) (mm : Mem) : Option (Mem) := ob (F_X3_at fu (o + 1) 4 2 mm) fun r7 m8 => if r7 ≤ (m8 o 4) then (some m8) else (bd ((m8 o 4) + a1) fun v10 => bd (if r7 < v10 then r7 else v10) fun v11 => bd (mput m8 o 4 v11) fun m12 => some m12)
set_option maxHeartbeats 4000000 in
set_option maxRecDepth 100000 in
theorem c_X1_gain (l : Launch) (D : va_G) (ad : Nat → Nat) (cI cR : ClassId) (hi : inj ad) (fu : Nat) (o : Nat) (a1 : Int32) (ho : sLane ad cI cR o) (mm : Mem) (m9 : Mem) (hf : F_X1_gain fu o a1 mm = some m9) : MV l yX1_gain wsX1_gain { frames := 1, cells := 0, slots := 0, locals := 21 } D ad cI cR [.ref (ad o), .int a1] mm m9 := by
  refine Met.ofW (cc := cX1_gain) (maxL := 3) (ret := none) (by decide) rfl ?_
  intro p e s m args below meth c s₁ B hml hv
  obtain ⟨rfl, hP, hK, hN⟩ := hv
  have hx := B.exec
  have hb := B.bytes
  have hr := B.returns
  have hts := atoms_spec (ws := wsX1_gain) B.pre
  have hown : s.vm.findClass RX1 = some m.cls := findClass_of_methodNamed B.named
  have hlocks := B.notSynchronized
  have hA : ∀ q, AA ad q → AA ad q := fun _ h => h
  have hS : va_S (AA ad) s.heap s.heap [] := va_S.rf
  have hinX1 : ∀ w ∈ wsX10, w ∈ wsX1_gain := (fun _ h => List.mem_cons_of_mem _ (List.mem_append_left _ (List.mem_append_right _ h)))
  have hl := lv_entry ([.ref (ad o), .int a1]) (n := 3) (Nat.le_of_ble_eq_true rfl)
  rw [lg_entry_eq]
  generalize (lg_sl ([.ref (ad o), .int a1]) ++ List.replicate (3 - (lg_sl ([.ref (ad o), .int a1])).length) Slot.unset).toArray = ls at hl ⊢
  have hl : lv_has ls 3 [(0, .ref (ad o)), (1, .int a1)] := hl
  unfold F_X1_gain at hf
  refine lv_aload_n hx hb dX1_gain_0 rfl (lv_at hl 0 rfl) ?_
  refine w_get (C := RX1) (T := TX1) (N := 7) (ci := 1) (v := .ref (ad (o + 1))) hx hb hts hinX1 hown hK hP ho.1 ho.2.1 rfl 0 (by decide) (hts (.fieldLink RX1 14 "AdmissionControl$Lane" "settings" "LAdmissionControl$Row;") (List.mem_of_getElem? (i := 1) rfl)) (fun _ h9 => h9) rfl dX1_gain_1 ?_
  refine lv_iconst (v := 2) hx hb dX1_gain_4 (by decide) ?_
  obtain ⟨r7, m8, hq, hf⟩ := ob_e hf
  refine w_ci (va_runV (As := [.int 2]) (rest := []) ⟨hx, hb, hml, hown, hts⟩ (c_X3_at l D ad cI cR hi fu (o + 1) 4 2 ho.2.2.1 mm r7 m8 hq) (cwV 1 hts gX1_gain_X3_at rfl rfl rfl (by decide +kernel) ⟨Nat.le_of_ble_eq_true rfl, Nat.le_of_ble_eq_true rfl⟩) (w_preV (ci := 3) hK hP hN ho.2.2.1.1 ho.2.2.1.2.1 rfl) rfl rfl hl.1 rfl (lv_room (Nat.le_of_ble_eq_true rfl)) dX1_gain_5 ⟨Nat.zero_le _, Nat.zero_le _⟩) hA hS (fun H locs hP hS => ?_)
  refine lv_istore_n (lv' := [(2, .int r7), (0, .ref (ad o)), (1, .int a1)]) hx hb dX1_gain_8 rfl hl (by decide) rfl (fun ls hl => ?_)
  refine lv_aload_n hx hb dX1_gain_9 rfl (lv_at hl 1 rfl) ?_
  refine w_get (C := RX1) (T := TX1) (N := 7) (ci := 1) (v := .int (m8 o 4)) hx hb hts hinX1 hown hK hP ho.1 ho.2.1 rfl 4 (by decide) (hts (.fieldLink RX1 30 "AdmissionControl$Lane" "tokens" "I") (List.mem_of_getElem? (i := 2) rfl)) (fun _ h9 => h9) rfl dX1_gain_10 ?_
  refine lv_iload_n hx hb dX1_gain_13 rfl (lv_at hl 0 rfl) ?_
  refine lv_icmp_ge (tgt := 31) hx hb dX1_gain_14 (by decide) (fun c9 => ?_) (fun c9 => ?_)
  · rw [if_pos c9] at hf
    cases hf
    exact w_vret hx hb hr hlocks hP hS dX1_gain_31
  · rw [if_neg c9] at hf
    refine lv_aload_n hx hb dX1_gain_17 rfl (lv_at hl 1 rfl) ?_
    refine lv_aload_n hx hb dX1_gain_18 rfl (lv_at hl 1 rfl) ?_
    refine w_get (C := RX1) (T := TX1) (N := 7) (ci := 1) (v := .int (m8 o 4)) hx hb hts hinX1 hown hK hP ho.1 ho.2.1 rfl 4 (by decide) (hts (.fieldLink RX1 30 "AdmissionControl$Lane" "tokens" "I") (List.mem_of_getElem? (i := 2) rfl)) (fun _ h9 => h9) rfl dX1_gain_19 ?_
    refine lv_iload_n hx hb dX1_gain_22 rfl (lv_at hl 2 rfl) ?_
    obtain ⟨v10, ev10, hf⟩ := bd_e hf
    refine lv_iadd hx hb dX1_gain_23 ?_
    refine w_top ev10 ?_
    refine lv_iload_n hx hb dX1_gain_24 rfl (lv_at hl 0 rfl) ?_
    obtain ⟨v11, ev11, hf⟩ := bd_e hf
    refine va_mmin hx hb (hml.trans hl.1.symm) hown (hts (.methodLink RX1 47 Lib.Math.min.name) (List.mem_of_getElem? (i := 3) rfl)) (hts (.static Lib.Math.min.name) (List.mem_of_getElem? (i := 4) rfl)) (hts (.initialized "java/lang/Math") (List.mem_of_getElem? (i := 5) rfl)) (hts (.code Lib.Math.min.name Lib.Math.min.code 2 (some .int)) (List.mem_of_getElem? (i := 6) rfl)) (Nat.le_of_ble_eq_true rfl) (Nat.le_of_ble_eq_true rfl) (Nat.zero_le _) (Nat.zero_le _) dX1_gain_25 ?_
    refine w_top ev11 ?_
    obtain ⟨m12, em12, hf⟩ := bd_e hf
    refine w_put (C := RX1) (T := TX1) (N := 7) (ci := 1) (x := v11) hx hb hts hinX1 tyX1 tyX1_ok nmX1 hown hi hA hK hP hS ho.1 ho.2.1 rfl 4 (by decide) (hts (.fieldLink RX1 30 "AdmissionControl$Lane" "tokens" "I") (List.mem_of_getElem? (i := 2) rfl)) (fun _ h9 => h9) rfl rfl rfl (Nat.le_of_ble_eq_true rfl) rfl dX1_gain_28 (fun H locs hP hS => ?_)
    rw [← em12] at hP
    cases hf
    exact w_vret hx hb hr hlocks hP hS dX1_gain_31
def F_X1_join (fu : Nat) (o : Nat) (a1 : Int32) (mm : Mem) : Option (Mem) := if 8 ≤ (mm o 3) then (some mm) else (ov (F_X3_put fu (o + 5) 8 (mm o 3) a1 mm) fun m6 => bd ((m6 o 3) + 1) fun v7 => bd (mput m6 o 3 v7) fun m8 => some m8)
set_option maxHeartbeats 4000000 in
set_option maxRecDepth 100000 in
theorem c_X1_join (l : Launch) (D : va_G) (ad : Nat → Nat) (cI cR : ClassId) (hi : inj ad) (fu : Nat) (o : Nat) (a1 : Int32) (ho : sLane ad cI cR o) (mm : Mem) (m9 : Mem) (hf : F_X1_join fu o a1 mm = some m9) : MV l yX1_join wsX1_join { frames := 1, cells := 0, slots := 0, locals := 22 } D ad cI cR [.ref (ad o), .int a1] mm m9 := by
  refine Met.ofW (cc := cX1_join) (maxL := 2) (ret := none) (by decide) rfl ?_
  intro p e s m args below meth c s₁ B hml hv
  obtain ⟨rfl, hP, hK, hN⟩ := hv
  have hx := B.exec
  have hb := B.bytes
  have hr := B.returns
  have hts := atoms_spec (ws := wsX1_join) B.pre
  have hown : s.vm.findClass RX1 = some m.cls := findClass_of_methodNamed B.named
  have hlocks := B.notSynchronized
  have hA : ∀ q, AA ad q → AA ad q := fun _ h => h
  have hS : va_S (AA ad) s.heap s.heap [] := va_S.rf
  have hinX1 : ∀ w ∈ wsX10, w ∈ wsX1_join := (fun _ h => List.mem_cons_of_mem _ (List.mem_append_left _ (List.mem_append_right _ h)))
  have hl := lv_entry ([.ref (ad o), .int a1]) (n := 2) (Nat.le_of_ble_eq_true rfl)
  rw [lg_entry_eq]
  generalize (lg_sl ([.ref (ad o), .int a1]) ++ List.replicate (2 - (lg_sl ([.ref (ad o), .int a1])).length) Slot.unset).toArray = ls at hl ⊢
  have hl : lv_has ls 2 [(0, .ref (ad o)), (1, .int a1)] := hl
  unfold F_X1_join at hf
  refine lv_aload_n hx hb dX1_join_0 rfl (lv_at hl 0 rfl) ?_
  refine w_get (C := RX1) (T := TX1) (N := 7) (ci := 1) (v := .int (mm o 3)) hx hb hts hinX1 hown hK hP ho.1 ho.2.1 rfl 3 (by decide) (hts (.fieldLink RX1 26 "AdmissionControl$Lane" "length" "I") (List.mem_of_getElem? (i := 1) rfl)) (fun _ h9 => h9) rfl dX1_join_1 ?_
  refine lv_bipush (v := 8) hx hb dX1_join_4 (by decide) ?_
  refine lv_icmp_ge (tgt := 31) hx hb dX1_join_6 (by decide) (fun c5 => ?_) (fun c5 => ?_)
  · rw [if_pos c5] at hf
    cases hf
    exact w_vret hx hb hr hlocks hP hS dX1_join_31
  · rw [if_neg c5] at hf
    refine lv_aload_n hx hb dX1_join_9 rfl (lv_at hl 0 rfl) ?_
    refine w_get (C := RX1) (T := TX1) (N := 7) (ci := 1) (v := .ref (ad (o + 5))) hx hb hts hinX1 hown hK hP ho.1 ho.2.1 rfl 2 (by decide) (hts (.fieldLink RX1 23 "AdmissionControl$Lane" "queue" "LAdmissionControl$Row;") (List.mem_of_getElem? (i := 2) rfl)) (fun _ h9 => h9) rfl dX1_join_10 ?_
    refine lv_aload_n hx hb dX1_join_13 rfl (lv_at hl 0 rfl) ?_
    refine w_get (C := RX1) (T := TX1) (N := 7) (ci := 1) (v := .int (mm o 3)) hx hb hts hinX1 hown hK hP ho.1 ho.2.1 rfl 3 (by decide) (hts (.fieldLink RX1 26 "AdmissionControl$Lane" "length" "I") (List.mem_of_getElem? (i := 1) rfl)) (fun _ h9 => h9) rfl dX1_join_14 ?_
    refine lv_iload_n hx hb dX1_join_17 rfl (lv_at hl 1 rfl) ?_
    obtain ⟨m6, hq, hf⟩ := ov_e hf
    refine w_cv (va_runV (As := [.int (mm o 3), .int a1]) (rest := []) ⟨hx, hb, hml, hown, hts⟩ (c_X3_put l D ad cI cR hi fu (o + 5) 8 (mm o 3) a1 ho.2.2.2.2 mm m6 hq) (cwV 2 hts gX1_join_X3_put rfl rfl rfl (by decide +kernel) ⟨Nat.le_of_ble_eq_true rfl, Nat.le_of_ble_eq_true rfl⟩) (w_preV (ci := 3) hK hP hN ho.2.2.2.2.1 ho.2.2.2.2.2.1 rfl) rfl rfl hl.1 rfl (lv_room (Nat.le_of_ble_eq_true rfl)) dX1_join_18 ⟨Nat.zero_le _, Nat.zero_le _⟩) hA hS (fun H locs hP hS => ?_)
    refine lv_aload_n hx hb dX1_join_21 rfl (lv_at hl 0 rfl) ?_
    refine lv_dup hx hb dX1_join_22 rfl ?_
    refine w_get (C := RX1) (T := TX1) (N := 7) (ci := 1) (v := .int (m6 o 3)) hx hb hts hinX1 hown hK hP ho.1 ho.2.1 rfl 3 (by decide) (hts (.fieldLink RX1 26 "AdmissionControl$Lane" "length" "I") (List.mem_of_getElem? (i := 1) rfl)) (fun _ h9 => h9) rfl dX1_join_23 ?_
    refine lv_iconst (v := 1) hx hb dX1_join_26 (by decide) ?_
    obtain ⟨v7, ev7, hf⟩ := bd_e hf
    refine lv_iadd hx hb dX1_join_27 ?_
    refine w_top ev7 ?_
    obtain ⟨m8, em8, hf⟩ := bd_e hf
    refine w_put (C := RX1) (T := TX1) (N := 7) (ci := 1) (x := v7) hx hb hts hinX1 tyX1 tyX1_ok nmX1 hown hi hA hK hP hS ho.1 ho.2.1 rfl 3 (by decide) (hts (.fieldLink RX1 26 "AdmissionControl$Lane" "length" "I") (List.mem_of_getElem? (i := 1) rfl)) (fun _ h9 => h9) rfl rfl rfl (Nat.le_of_ble_eq_true rfl) rfl dX1_join_28 (fun H locs hP hS => ?_)
    rw [← em8] at hP
    cases hf
    exact w_vret hx hb hr hlocks hP hS dX1_join_31
def F_X1_leave_L19 (fu : Nat) (o : Nat) (a1 : Int32)  : Nat → Int32 → Mem → Option (Mem)
  | 0, _, _ => none
  | n + 1, x2, mm => if (mm o 3) ≤ x2 then (some mm) else (bd (x2 + 1) fun v17 => ob (F_X3_at fu (o + 5) 8 v17 mm) fun r18 m19 => ov (F_X3_put fu (o + 5) 8 x2 r18 m19) fun m20 => bd (x2 + 1) fun v21 => F_X1_leave_L19 fu o a1 n v21 m20)
def F_X1_leave (fu : Nat) (o : Nat) (a1 : Int32) (mm : Mem) : Option (Mem) := if (mm o 3) ≤ 0 then (some mm) else (bd ((mm o 3) - 1) fun v23 => bd (mput mm o 3 v23) fun m24 => F_X1_leave_L19 fu o a1 fu a1 m24)
set_option maxHeartbeats 4000000 in
set_option maxRecDepth 100000 in
theorem c_X1_leave (l : Launch) (D : va_G) (ad : Nat → Nat) (cI cR : ClassId) (hi : inj ad) (fu : Nat) (o : Nat) (a1 : Int32) (ho : sLane ad cI cR o) (mm : Mem) (m9 : Mem) (hf : F_X1_leave fu o a1 mm = some m9) : MV l yX1_leave wsX1_leave { frames := 1, cells := 0, slots := 0, locals := 22 } D ad cI cR [.ref (ad o), .int a1] mm m9 := by
  refine Met.ofW (cc := cX1_leave) (maxL := 3) (ret := none) (by decide) rfl ?_
  intro p e s m args below meth c s₁ B hml hv
  obtain ⟨rfl, hP, hK, hN⟩ := hv
  have hx := B.exec
  have hb := B.bytes
  have hr := B.returns
  have hts := atoms_spec (ws := wsX1_leave) B.pre
  have hown : s.vm.findClass RX1 = some m.cls := findClass_of_methodNamed B.named
  have hlocks := B.notSynchronized
  have hA : ∀ q, AA ad q → AA ad q := fun _ h => h
  have hS : va_S (AA ad) s.heap s.heap [] := va_S.rf
  have hinX1 : ∀ w ∈ wsX10, w ∈ wsX1_leave := (fun _ h => List.mem_cons_of_mem _ (List.mem_append_left _ (List.mem_append_right _ h)))
  have hL19 : ∀ (n : Nat) (x2 : Int32)  (mm : Mem) (H : Heap) (locs : List Loc) (ls : Array Slot), F_X1_leave_L19 fu o a1  n x2 mm = some m9 → va_P D vwCl (cw ad cI cR mm) H → va_S (AA ad) s.heap H locs → lv_has ls 3 [(0, .ref (ad o)), (2, .int x2)] → W p l e (headSpec wsX1_leave { frames := 1, cells := 0, slots := 0, locals := 22 }).room s m ([.ref (ad o), .int a1] : List Value).toArray below meth c H locs 0 0 (MQ below (va_Qv (fun (u : Mem) => u = m9) (KB D ad cI cR) (AA ad)) ([.ref (ad o), .int a1] : List Value).toArray s 0 0 (AA ad)) (F0 m 19 ls []) := by
    intro n
    induction n with
    | zero =>
      intro x2 mm H locs ls hf hP hS hl
      rw [F_X1_leave_L19] at hf
      cases hf
    | succ n19 ih19 =>
      intro x2 mm H locs ls hf hP hS hl
      rw [F_X1_leave_L19] at hf
      refine lv_iload_n hx hb dX1_leave_19 rfl (lv_at hl 1 rfl) ?_
      refine lv_aload_n hx hb dX1_leave_20 rfl (lv_at hl 0 rfl) ?_
      refine w_get (C := RX1) (T := TX1) (N := 7) (ci := 1) (v := .int (mm o 3)) hx hb hts hinX1 hown hK hP ho.1 ho.2.1 rfl 3 (by decide) (hts (.fieldLink RX1 26 "AdmissionControl$Lane" "length" "I") (List.mem_of_getElem? (i := 1) rfl)) (fun _ h9 => h9) rfl dX1_leave_21 ?_
      refine lv_icmp_ge (tgt := 51) hx hb dX1_leave_24 (by decide) (fun c16 => ?_) (fun c16 => ?_)
      · rw [if_pos c16] at hf
        cases hf
        exact w_vret hx hb hr hlocks hP hS dX1_leave_51
      · rw [if_neg c16] at hf
        refine lv_aload_n hx hb dX1_leave_27 rfl (lv_at hl 0 rfl) ?_
        refine w_get (C := RX1) (T := TX1) (N := 7) (ci := 1) (v := .ref (ad (o + 5))) hx hb hts hinX1 hown hK hP ho.1 ho.2.1 rfl 2 (by decide) (hts (.fieldLink RX1 23 "AdmissionControl$Lane" "queue" "LAdmissionControl$Row;") (List.mem_of_getElem? (i := 2) rfl)) (fun _ h9 => h9) rfl dX1_leave_28 ?_
        refine lv_iload_n hx hb dX1_leave_31 rfl (lv_at hl 1 rfl) ?_
        refine lv_aload_n hx hb dX1_leave_32 rfl (lv_at hl 0 rfl) ?_
        refine w_get (C := RX1) (T := TX1) (N := 7) (ci := 1) (v := .ref (ad (o + 5))) hx hb hts hinX1 hown hK hP ho.1 ho.2.1 rfl 2 (by decide) (hts (.fieldLink RX1 23 "AdmissionControl$Lane" "queue" "LAdmissionControl$Row;") (List.mem_of_getElem? (i := 2) rfl)) (fun _ h9 => h9) rfl dX1_leave_33 ?_
        refine lv_iload_n hx hb dX1_leave_36 rfl (lv_at hl 1 rfl) ?_
        refine lv_iconst (v := 1) hx hb dX1_leave_37 (by decide) ?_
        obtain ⟨v17, ev17, hf⟩ := bd_e hf
        refine lv_iadd hx hb dX1_leave_38 ?_
        refine w_top ev17 ?_
        obtain ⟨r18, m19, hq, hf⟩ := ob_e hf
        refine w_ci (va_runV (As := [.int v17]) (rest := [.int x2, .ref (ad (o + 5))]) ⟨hx, hb, hml, hown, hts⟩ (c_X3_at l D ad cI cR hi fu (o + 5) 8 v17 ho.2.2.2.2 mm r18 m19 hq) (cwV 1 hts gX1_leave_X3_at rfl rfl rfl (by decide +kernel) ⟨Nat.le_of_ble_eq_true rfl, Nat.le_of_ble_eq_true rfl⟩) (w_preV (ci := 3) hK hP hN ho.2.2.2.2.1 ho.2.2.2.2.2.1 rfl) rfl rfl hl.1 rfl (lv_room (Nat.le_of_ble_eq_true rfl)) dX1_leave_39 ⟨Nat.zero_le _, Nat.zero_le _⟩) hA hS (fun H locs hP hS => ?_)
        obtain ⟨m20, hq, hf⟩ := ov_e hf
        refine w_cv (va_runV (As := [.int x2, .int r18]) (rest := []) ⟨hx, hb, hml, hown, hts⟩ (c_X3_put l D ad cI cR hi fu (o + 5) 8 x2 r18 ho.2.2.2.2 m19 m20 hq) (cwV 2 hts gX1_leave_X3_put rfl rfl rfl (by decide +kernel) ⟨Nat.le_of_ble_eq_true rfl, Nat.le_of_ble_eq_true rfl⟩) (w_preV (ci := 3) hK hP hN ho.2.2.2.2.1 ho.2.2.2.2.2.1 rfl) rfl rfl hl.1 rfl (lv_room (Nat.le_of_ble_eq_true rfl)) dX1_leave_42 ⟨Nat.zero_le _, Nat.zero_le _⟩) hA hS (fun H locs hP hS => ?_)
        obtain ⟨v21, ev21, hf⟩ := bd_e hf
        refine lv_iinc (v := v21) (lv' := [(2, .int v21), (0, .ref (ad o))]) hx hb dX1_leave_45 hl (k := 1) rfl (by rw [ev21]; rfl) (by decide) rfl (fun ls hl => ?_)
        refine lv_goto (tgt := 19) hx hb dX1_leave_48 (by decide) ?_
        exact ih19 v21 m20 _ _ _ hf hP hS (lv_sub hl [1, 0] rfl)
  have hl := lv_entry ([.ref (ad o), .int a1]) (n := 3) (Nat.le_of_ble_eq_true rfl)
  rw [lg_entry_eq]
  generalize (lg_sl ([.ref (ad o), .int a1]) ++ List.replicate (3 - (lg_sl ([.ref (ad o), .int a1])).length) Slot.unset).toArray = ls at hl ⊢
  have hl : lv_has ls 3 [(0, .ref (ad o)), (1, .int a1)] := hl
  unfold F_X1_leave at hf
  refine lv_aload_n hx hb dX1_leave_0 rfl (lv_at hl 0 rfl) ?_
  refine w_get (C := RX1) (T := TX1) (N := 7) (ci := 1) (v := .int (mm o 3)) hx hb hts hinX1 hown hK hP ho.1 ho.2.1 rfl 3 (by decide) (hts (.fieldLink RX1 26 "AdmissionControl$Lane" "length" "I") (List.mem_of_getElem? (i := 1) rfl)) (fun _ h9 => h9) rfl dX1_leave_1 ?_
  refine lv_if_le (tgt := 51) hx hb dX1_leave_4 (by decide) (fun c22 => ?_) (fun c22 => ?_)
  · rw [if_pos c22] at hf
    cases hf
    exact w_vret hx hb hr hlocks hP hS dX1_leave_51
  · rw [if_neg c22] at hf
    refine lv_aload_n hx hb dX1_leave_7 rfl (lv_at hl 0 rfl) ?_
    refine lv_dup hx hb dX1_leave_8 rfl ?_
    refine w_get (C := RX1) (T := TX1) (N := 7) (ci := 1) (v := .int (mm o 3)) hx hb hts hinX1 hown hK hP ho.1 ho.2.1 rfl 3 (by decide) (hts (.fieldLink RX1 26 "AdmissionControl$Lane" "length" "I") (List.mem_of_getElem? (i := 1) rfl)) (fun _ h9 => h9) rfl dX1_leave_9 ?_
    refine lv_iconst (v := 1) hx hb dX1_leave_12 (by decide) ?_
    obtain ⟨v23, ev23, hf⟩ := bd_e hf
    refine lv_isub hx hb dX1_leave_13 ?_
    refine w_top ev23 ?_
    obtain ⟨m24, em24, hf⟩ := bd_e hf
    refine w_put (C := RX1) (T := TX1) (N := 7) (ci := 1) (x := v23) hx hb hts hinX1 tyX1 tyX1_ok nmX1 hown hi hA hK hP hS ho.1 ho.2.1 rfl 3 (by decide) (hts (.fieldLink RX1 26 "AdmissionControl$Lane" "length" "I") (List.mem_of_getElem? (i := 1) rfl)) (fun _ h9 => h9) rfl rfl rfl (Nat.le_of_ble_eq_true rfl) rfl dX1_leave_14 (fun H locs hP hS => ?_)
    rw [← em24] at hP
    refine lv_iload_n hx hb dX1_leave_17 rfl (lv_at hl 1 rfl) ?_
    refine lv_istore_n (lv' := [(2, .int a1), (0, .ref (ad o)), (1, .int a1)]) hx hb dX1_leave_18 rfl hl (by decide) rfl (fun ls hl => ?_)
    exact hL19 fu a1 m24 _ _ _ hf hP hS (lv_sub hl [1, 0] rfl)
def F_X1_copyFrom (fu : Nat) (o : Nat) (b1 : Nat) (mm : Mem) : Option (Mem) := ov (F_X3_copyFrom fu (o + 1) 4 (b1 + 1) 4 mm) fun m8 => ov (F_X3_copyFrom fu (o + 3) 6 (b1 + 3) 6 m8) fun m9 => ov (F_X3_copyFrom fu (o + 5) 8 (b1 + 5) 8 m9) fun m10 => bd (mput m10 o 3 (m10 b1 3)) fun m11 => bd (mput m11 o 4 (m11 b1 4)) fun m12 => bd (mput m12 o 5 (m12 b1 5)) fun m13 => bd (mput m13 o 6 (m13 b1 6)) fun m14 => some m14
set_option maxHeartbeats 4000000 in
set_option maxRecDepth 100000 in
theorem c_X1_copyFrom (l : Launch) (D : va_G) (ad : Nat → Nat) (cI cR : ClassId) (hi : inj ad) (fu : Nat) (o : Nat) (b1 : Nat) (ho : sLane ad cI cR o) (hb1 : sLane ad cI cR b1) (mm : Mem) (m9 : Mem) (hf : F_X1_copyFrom fu o b1 mm = some m9) : MV l yX1_copyFrom wsX1_copyFrom { frames := 1, cells := 0, slots := 0, locals := 22 } D ad cI cR [.ref (ad o), .ref (ad b1)] mm m9 := by
  refine Met.ofW (cc := cX1_copyFrom) (maxL := 2) (ret := none) (by decide) rfl ?_
  intro p e s m args below meth c s₁ B hml hv
  obtain ⟨rfl, hP, hK, hN⟩ := hv
  have hx := B.exec
  have hb := B.bytes
  have hr := B.returns
  have hts := atoms_spec (ws := wsX1_copyFrom) B.pre
  have hown : s.vm.findClass RX1 = some m.cls := findClass_of_methodNamed B.named
  have hlocks := B.notSynchronized
  have hA : ∀ q, AA ad q → AA ad q := fun _ h => h
  have hS : va_S (AA ad) s.heap s.heap [] := va_S.rf
  have hinX1 : ∀ w ∈ wsX10, w ∈ wsX1_copyFrom := (fun _ h => List.mem_cons_of_mem _ (List.mem_append_left _ (List.mem_append_right _ h)))
  have hl := lv_entry ([.ref (ad o), .ref (ad b1)]) (n := 2) (Nat.le_of_ble_eq_true rfl)
  rw [lg_entry_eq]
  generalize (lg_sl ([.ref (ad o), .ref (ad b1)]) ++ List.replicate (2 - (lg_sl ([.ref (ad o), .ref (ad b1)])).length) Slot.unset).toArray = ls at hl ⊢
  have hl : lv_has ls 2 [(0, .ref (ad o)), (1, .ref (ad b1))] := hl
  unfold F_X1_copyFrom at hf
  refine lv_aload_n hx hb dX1_copyFrom_0 rfl (lv_at hl 0 rfl) ?_
  refine w_get (C := RX1) (T := TX1) (N := 7) (ci := 1) (v := .ref (ad (o + 1))) hx hb hts hinX1 hown hK hP ho.1 ho.2.1 rfl 0 (by decide) (hts (.fieldLink RX1 14 "AdmissionControl$Lane" "settings" "LAdmissionControl$Row;") (List.mem_of_getElem? (i := 1) rfl)) (fun _ h9 => h9) rfl dX1_copyFrom_1 ?_
  refine lv_aload_n hx hb dX1_copyFrom_4 rfl (lv_at hl 1 rfl) ?_
  refine w_get (C := RX1) (T := TX1) (N := 7) (ci := 1) (v := .ref (ad (b1 + 1))) hx hb hts hinX1 hown hK hP hb1.1 hb1.2.1 rfl 0 (by decide) (hts (.fieldLink RX1 14 "AdmissionControl$Lane" "settings" "LAdmissionControl$Row;") (List.mem_of_getElem? (i := 1) rfl)) (fun _ h9 => h9) rfl dX1_copyFrom_5 ?_
  obtain ⟨m8, hq, hf⟩ := ov_e hf
  refine w_cv (va_runV (As := [.ref (ad (b1 + 1))]) (rest := []) ⟨hx, hb, hml, hown, hts⟩ (c_X3_copyFrom l D ad cI cR hi fu (o + 1) 4 (b1 + 1) 4 ho.2.2.1 hb1.2.2.1 mm m8 hq) (cwV 1 hts gX1_copyFrom_X3_copyFrom rfl rfl rfl (by decide +kernel) ⟨Nat.le_of_ble_eq_true rfl, Nat.le_of_ble_eq_true rfl⟩) (w_preV (ci := 3) hK hP hN ho.2.2.1.1 ho.2.2.1.2.1 rfl) rfl rfl hl.1 rfl (lv_room (Nat.le_of_ble_eq_true rfl)) dX1_copyFrom_8 ⟨Nat.zero_le _, Nat.zero_le _⟩) hA hS (fun H locs hP hS => ?_)
  refine lv_aload_n hx hb dX1_copyFrom_11 rfl (lv_at hl 0 rfl) ?_
  refine w_get (C := RX1) (T := TX1) (N := 7) (ci := 1) (v := .ref (ad (o + 3))) hx hb hts hinX1 hown hK hP ho.1 ho.2.1 rfl 1 (by decide) (hts (.fieldLink RX1 20 "AdmissionControl$Lane" "refusals" "LAdmissionControl$Row;") (List.mem_of_getElem? (i := 2) rfl)) (fun _ h9 => h9) rfl dX1_copyFrom_12 ?_
  refine lv_aload_n hx hb dX1_copyFrom_15 rfl (lv_at hl 1 rfl) ?_
  refine w_get (C := RX1) (T := TX1) (N := 7) (ci := 1) (v := .ref (ad (b1 + 3))) hx hb hts hinX1 hown hK hP hb1.1 hb1.2.1 rfl 1 (by decide) (hts (.fieldLink RX1 20 "AdmissionControl$Lane" "refusals" "LAdmissionControl$Row;") (List.mem_of_getElem? (i := 2) rfl)) (fun _ h9 => h9) rfl dX1_copyFrom_16 ?_
  obtain ⟨m9, hq, hf⟩ := ov_e hf
  refine w_cv (va_runV (As := [.ref (ad (b1 + 3))]) (rest := []) ⟨hx, hb, hml, hown, hts⟩ (c_X3_copyFrom l D ad cI cR hi fu (o + 3) 6 (b1 + 3) 6 ho.2.2.2.1 hb1.2.2.2.1 m8 m9 hq) (cwV 1 hts gX1_copyFrom_X3_copyFrom rfl rfl rfl (by decide +kernel) ⟨Nat.le_of_ble_eq_true rfl, Nat.le_of_ble_eq_true rfl⟩) (w_preV (ci := 3) hK hP hN ho.2.2.2.1.1 ho.2.2.2.1.2.1 rfl) rfl rfl hl.1 rfl (lv_room (Nat.le_of_ble_eq_true rfl)) dX1_copyFrom_19 ⟨Nat.zero_le _, Nat.zero_le _⟩) hA hS (fun H locs hP hS => ?_)
  refine lv_aload_n hx hb dX1_copyFrom_22 rfl (lv_at hl 0 rfl) ?_
  refine w_get (C := RX1) (T := TX1) (N := 7) (ci := 1) (v := .ref (ad (o + 5))) hx hb hts hinX1 hown hK hP ho.1 ho.2.1 rfl 2 (by decide) (hts (.fieldLink RX1 23 "AdmissionControl$Lane" "queue" "LAdmissionControl$Row;") (List.mem_of_getElem? (i := 3) rfl)) (fun _ h9 => h9) rfl dX1_copyFrom_23 ?_
  refine lv_aload_n hx hb dX1_copyFrom_26 rfl (lv_at hl 1 rfl) ?_
  refine w_get (C := RX1) (T := TX1) (N := 7) (ci := 1) (v := .ref (ad (b1 + 5))) hx hb hts hinX1 hown hK hP hb1.1 hb1.2.1 rfl 2 (by decide) (hts (.fieldLink RX1 23 "AdmissionControl$Lane" "queue" "LAdmissionControl$Row;") (List.mem_of_getElem? (i := 3) rfl)) (fun _ h9 => h9) rfl dX1_copyFrom_27 ?_
  obtain ⟨m10, hq, hf⟩ := ov_e hf
  refine w_cv (va_runV (As := [.ref (ad (b1 + 5))]) (rest := []) ⟨hx, hb, hml, hown, hts⟩ (c_X3_copyFrom l D ad cI cR hi fu (o + 5) 8 (b1 + 5) 8 ho.2.2.2.2 hb1.2.2.2.2 m9 m10 hq) (cwV 1 hts gX1_copyFrom_X3_copyFrom rfl rfl rfl (by decide +kernel) ⟨Nat.le_of_ble_eq_true rfl, Nat.le_of_ble_eq_true rfl⟩) (w_preV (ci := 3) hK hP hN ho.2.2.2.2.1 ho.2.2.2.2.2.1 rfl) rfl rfl hl.1 rfl (lv_room (Nat.le_of_ble_eq_true rfl)) dX1_copyFrom_30 ⟨Nat.zero_le _, Nat.zero_le _⟩) hA hS (fun H locs hP hS => ?_)
  refine lv_aload_n hx hb dX1_copyFrom_33 rfl (lv_at hl 0 rfl) ?_
  refine lv_aload_n hx hb dX1_copyFrom_34 rfl (lv_at hl 1 rfl) ?_
  refine w_get (C := RX1) (T := TX1) (N := 7) (ci := 1) (v := .int (m10 b1 3)) hx hb hts hinX1 hown hK hP hb1.1 hb1.2.1 rfl 3 (by decide) (hts (.fieldLink RX1 26 "AdmissionControl$Lane" "length" "I") (List.mem_of_getElem? (i := 4) rfl)) (fun _ h9 => h9) rfl dX1_copyFrom_35 ?_
  obtain ⟨m11, em11, hf⟩ := bd_e hf
  refine w_put (C := RX1) (T := TX1) (N := 7) (ci := 1) (x := (m10 b1 3)) hx hb hts hinX1 tyX1 tyX1_ok nmX1 hown hi hA hK hP hS ho.1 ho.2.1 rfl 3 (by decide) (hts (.fieldLink RX1 26 "AdmissionControl$Lane" "length" "I") (List.mem_of_getElem? (i := 4) rfl)) (fun _ h9 => h9) rfl rfl rfl (Nat.le_of_ble_eq_true rfl) rfl dX1_copyFrom_38 (fun H locs hP hS => ?_)
  rw [← em11] at hP
  refine lv_aload_n hx hb dX1_copyFrom_41 rfl (lv_at hl 0 rfl) ?_
  refine lv_aload_n hx hb dX1_copyFrom_42 rfl (lv_at hl 1 rfl) ?_
  refine w_get (C := RX1) (T := TX1) (N := 7) (ci := 1) (v := .int (m11 b1 4)) hx hb hts hinX1 hown hK hP hb1.1 hb1.2.1 rfl 4 (by decide) (hts (.fieldLink RX1 30 "AdmissionControl$Lane" "tokens" "I") (List.mem_of_getElem? (i := 5) rfl)) (fun _ h9 => h9) rfl dX1_copyFrom_43 ?_
  obtain ⟨m12, em12, hf⟩ := bd_e hf
  refine w_put (C := RX1) (T := TX1) (N := 7) (ci := 1) (x := (m11 b1 4)) hx hb hts hinX1 tyX1 tyX1_ok nmX1 hown hi hA hK hP hS ho.1 ho.2.1 rfl 4 (by decide) (hts (.fieldLink RX1 30 "AdmissionControl$Lane" "tokens" "I") (List.mem_of_getElem? (i := 5) rfl)) (fun _ h9 => h9) rfl rfl rfl (Nat.le_of_ble_eq_true rfl) rfl dX1_copyFrom_46 (fun H locs hP hS => ?_)
  rw [← em12] at hP
  refine lv_aload_n hx hb dX1_copyFrom_49 rfl (lv_at hl 0 rfl) ?_
  refine lv_aload_n hx hb dX1_copyFrom_50 rfl (lv_at hl 1 rfl) ?_
  refine w_get (C := RX1) (T := TX1) (N := 7) (ci := 1) (v := .int (m12 b1 5)) hx hb hts hinX1 hown hK hP hb1.1 hb1.2.1 rfl 5 (by decide) (hts (.fieldLink RX1 33 "AdmissionControl$Lane" "pass" "I") (List.mem_of_getElem? (i := 6) rfl)) (fun _ h9 => h9) rfl dX1_copyFrom_51 ?_
  obtain ⟨m13, em13, hf⟩ := bd_e hf
  refine w_put (C := RX1) (T := TX1) (N := 7) (ci := 1) (x := (m12 b1 5)) hx hb hts hinX1 tyX1 tyX1_ok nmX1 hown hi hA hK hP hS ho.1 ho.2.1 rfl 5 (by decide) (hts (.fieldLink RX1 33 "AdmissionControl$Lane" "pass" "I") (List.mem_of_getElem? (i := 6) rfl)) (fun _ h9 => h9) rfl rfl rfl (Nat.le_of_ble_eq_true rfl) rfl dX1_copyFrom_54 (fun H locs hP hS => ?_)
  rw [← em13] at hP
  refine lv_aload_n hx hb dX1_copyFrom_57 rfl (lv_at hl 0 rfl) ?_
  refine lv_aload_n hx hb dX1_copyFrom_58 rfl (lv_at hl 1 rfl) ?_
  refine w_get (C := RX1) (T := TX1) (N := 7) (ci := 1) (v := .int (m13 b1 6)) hx hb hts hinX1 hown hK hP hb1.1 hb1.2.1 rfl 6 (by decide) (hts (.fieldLink RX1 36 "AdmissionControl$Lane" "units" "I") (List.mem_of_getElem? (i := 7) rfl)) (fun _ h9 => h9) rfl dX1_copyFrom_59 ?_
  obtain ⟨m14, em14, hf⟩ := bd_e hf
  refine w_put (C := RX1) (T := TX1) (N := 7) (ci := 1) (x := (m13 b1 6)) hx hb hts hinX1 tyX1 tyX1_ok nmX1 hown hi hA hK hP hS ho.1 ho.2.1 rfl 6 (by decide) (hts (.fieldLink RX1 36 "AdmissionControl$Lane" "units" "I") (List.mem_of_getElem? (i := 7) rfl)) (fun _ h9 => h9) rfl rfl rfl (Nat.le_of_ble_eq_true rfl) rfl dX1_copyFrom_62 (fun H locs hP hS => ?_)
  rw [← em14] at hP
  cases hf
  exact w_vret hx hb hr hlocks hP hS dX1_copyFrom_65
