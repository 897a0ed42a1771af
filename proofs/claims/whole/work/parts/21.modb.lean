def F_X7_leaveQueue_L15 (fu : Nat) (a1 : Int32) (a2 : Int32)  : Nat → Int32 → Mem → Option (Mem)
  | 0, _, _ => none
  | n + 1, x3, mm => bd (25 + a1) fun v24 => gd (inb v24 395) (if (mm 360 v24.toNatClampNeg) ≤ x3 then (some mm) else (bd (8 * a1) fun v26 => bd (28 + v26) fun v27 => bd (v27 + x3) fun v28 => bd (x3 + 1) fun v29 => ob (F_X7_inQueue fu a1 v29 mm) fun r30 m31 => gd (inb v28 395) (bd (mput m31 360 v28.toNatClampNeg r30) fun m32 => bd (x3 + 1) fun v33 => F_X7_leaveQueue_L15 fu a1 a2 n v33 m32)))
def F_X7_leaveQueue (fu : Nat) (a1 : Int32) (a2 : Int32) (mm : Mem) : Option (Mem) := bd (25 + a1) fun v34 => gd (inb v34 395) (bd ((mm 360 v34.toNatClampNeg) - 1) fun v35 => gd (inb v34 395) (bd (mput mm 360 v34.toNatClampNeg v35) fun m36 => F_X7_leaveQueue_L15 fu a1 a2 fu a2 m36))
set_option maxHeartbeats 4000000 in
set_option maxRecDepth 100000 in
theorem c_X7_leaveQueue (l : Launch) (D : va_G) (ad : Nat → Nat) (cI cR : ClassId) (hi : inj ad) (fu : Nat) (a1 : Int32) (a2 : Int32)  (mm : Mem) (m9 : Mem) (hf : F_X7_leaveQueue fu a1 a2 mm = some m9) : MV l yX7_leaveQueue wsX7_leaveQueue { frames := 1, cells := 0, slots := 0, locals := 22 } D ad cI cR [.ref (ad 359), .int a1, .int a2] mm m9 := by
  refine Met.ofW (cc := cX7_leaveQueue) (maxL := 4) (ret := none) (by decide) rfl ?_
  intro p e s m args below meth c s₁ B hml hv
  obtain ⟨rfl, hP, hK, hN⟩ := hv
  have hx := B.exec
  have hb := B.bytes
  have hr := B.returns
  have hts := atoms_spec (ws := wsX7_leaveQueue) B.pre
  have hown : s.vm.findClass RX7 = some m.cls := findClass_of_methodNamed B.named
  have hlocks := B.notSynchronized
  have hA : ∀ q, AA ad q → AA ad q := fun _ h => h
  have hS : va_S (AA ad) s.heap s.heap [] := va_S.rf
  have hinX7 : ∀ w ∈ wsX70, w ∈ wsX7_leaveQueue := (fun _ h => List.mem_cons_of_mem _ (List.mem_append_right _ h))
  have hL15 : ∀ (n : Nat) (x3 : Int32)  (mm : Mem) (H : Heap) (locs : List Loc) (ls : Array Slot), F_X7_leaveQueue_L15 fu a1 a2  n x3 mm = some m9 → va_P D vwCl (cw ad cI cR mm) H → va_S (AA ad) s.heap H locs → lv_has ls 4 [(0, .ref (ad 359)), (1, .int a1), (3, .int x3)] → W p l e (headSpec wsX7_leaveQueue { frames := 1, cells := 0, slots := 0, locals := 22 }).room s m ([.ref (ad 359), .int a1, .int a2] : List Value).toArray below meth c H locs 0 0 (MQ below (va_Qv (fun (u : Mem) => u = m9) (KB D ad cI cR) (AA ad)) ([.ref (ad 359), .int a1, .int a2] : List Value).toArray s 0 0 (AA ad)) (F0 m 15 ls []) := by
    intro n
    induction n with
    | zero =>
      intro x3 mm H locs ls hf hP hS hl
      rw [F_X7_leaveQueue_L15] at hf
      cases hf
    | succ n15 ih15 =>
      intro x3 mm H locs ls hf hP hS hl
      rw [F_X7_leaveQueue_L15] at hf
      refine lv_iload_n hx hb dX7_leaveQueue_15 rfl (lv_at hl 2 rfl) ?_
      refine lv_aload_n hx hb dX7_leaveQueue_16 rfl (lv_at hl 0 rfl) ?_
      refine w_get (C := RX7) (T := TX7) (N := 9) (ci := 7) (v := .ref (ad 360)) hx hb hts hinX7 hown hK hP (S_mod ad cI cR).1 (S_mod ad cI cR).2 rfl 0 (by decide) (hts (.fieldLink RX7 7 "AdmissionControlModel" "z" "[I") (List.mem_of_getElem? (i := 1) rfl)) (fun _ h9 => h9) rfl dX7_leaveQueue_17 ?_
      refine lv_bipush (v := 25) hx hb dX7_leaveQueue_20 (by decide) ?_
      refine lv_iload_n hx hb dX7_leaveQueue_22 rfl (lv_at hl 1 rfl) ?_
      obtain ⟨v24, ev24, hf⟩ := bd_e hf
      refine lv_iadd hx hb dX7_leaveQueue_23 ?_
      refine w_top ev24 ?_
      obtain ⟨hnb, hf⟩ := gd_e hf
      refine w_ald hx hb hK hP (S_z ad cI cR) hnb dX7_leaveQueue_24 ?_
      refine lv_icmp_ge (tgt := 56) hx hb dX7_leaveQueue_25 (by decide) (fun c25 => ?_) (fun c25 => ?_)
      · rw [if_pos c25] at hf
        cases hf
        exact w_vret hx hb hr hlocks hP hS dX7_leaveQueue_56
      · rw [if_neg c25] at hf
        refine lv_aload_n hx hb dX7_leaveQueue_28 rfl (lv_at hl 0 rfl) ?_
        refine w_get (C := RX7) (T := TX7) (N := 9) (ci := 7) (v := .ref (ad 360)) hx hb hts hinX7 hown hK hP (S_mod ad cI cR).1 (S_mod ad cI cR).2 rfl 0 (by decide) (hts (.fieldLink RX7 7 "AdmissionControlModel" "z" "[I") (List.mem_of_getElem? (i := 1) rfl)) (fun _ h9 => h9) rfl dX7_leaveQueue_29 ?_
        refine lv_bipush (v := 28) hx hb dX7_leaveQueue_32 (by decide) ?_
        refine lv_bipush (v := 8) hx hb dX7_leaveQueue_34 (by decide) ?_
        refine lv_iload_n hx hb dX7_leaveQueue_36 rfl (lv_at hl 1 rfl) ?_
        obtain ⟨v26, ev26, hf⟩ := bd_e hf
        refine lv_imul hx hb dX7_leaveQueue_37 ?_
        refine w_top ev26 ?_
        obtain ⟨v27, ev27, hf⟩ := bd_e hf
        refine lv_iadd hx hb dX7_leaveQueue_38 ?_
        refine w_top ev27 ?_
        refine lv_iload_n hx hb dX7_leaveQueue_39 rfl (lv_at hl 2 rfl) ?_
        obtain ⟨v28, ev28, hf⟩ := bd_e hf
        refine lv_iadd hx hb dX7_leaveQueue_40 ?_
        refine w_top ev28 ?_
        refine lv_aload_n hx hb dX7_leaveQueue_41 rfl (lv_at hl 0 rfl) ?_
        refine lv_iload_n hx hb dX7_leaveQueue_42 rfl (lv_at hl 1 rfl) ?_
        refine lv_iload_n hx hb dX7_leaveQueue_43 rfl (lv_at hl 2 rfl) ?_
        refine lv_iconst (v := 1) hx hb dX7_leaveQueue_44 (by decide) ?_
        obtain ⟨v29, ev29, hf⟩ := bd_e hf
        refine lv_iadd hx hb dX7_leaveQueue_45 ?_
        refine w_top ev29 ?_
        obtain ⟨r30, m31, hq, hf⟩ := ob_e hf
        refine w_ci (va_runV (As := [.int a1, .int v29]) (rest := [.int v28, .ref (ad 360)]) ⟨hx, hb, hml, hown, hts⟩ (c_X7_inQueue l D ad cI cR hi fu a1 v29 mm r30 m31 hq) (cwV 2 hts gX7_leaveQueue_X7_inQueue rfl rfl rfl (by decide +kernel) ⟨Nat.le_of_ble_eq_true rfl, Nat.le_of_ble_eq_true rfl⟩) (w_preV (ci := 7) hK hP hN (S_mod ad cI cR).1 (S_mod ad cI cR).2 rfl) rfl rfl hl.1 rfl (lv_room (Nat.le_of_ble_eq_true rfl)) dX7_leaveQueue_46 ⟨Nat.zero_le _, Nat.zero_le _⟩) hA hS (fun H locs hP hS => ?_)
        obtain ⟨hnb, hf⟩ := gd_e hf
        obtain ⟨m32, em32, hf⟩ := bd_e hf
        refine w_ast hx hb hi hA hK hP hS (S_z ad cI cR) hnb dX7_leaveQueue_49 (fun H locs hP hS => ?_)
        rw [← em32] at hP
        obtain ⟨v33, ev33, hf⟩ := bd_e hf
        refine lv_iinc (v := v33) (lv' := [(3, .int v33), (0, .ref (ad 359)), (1, .int a1)]) hx hb dX7_leaveQueue_50 hl (k := 2) rfl (by rw [ev33]; rfl) (by decide) rfl (fun ls hl => ?_)
        refine lv_goto (tgt := 15) hx hb dX7_leaveQueue_53 (by decide) ?_
        exact ih15 v33 m32 _ _ _ hf hP hS (lv_sub hl [1, 2, 0] rfl)
  have hl := lv_entry ([.ref (ad 359), .int a1, .int a2]) (n := 4) (Nat.le_of_ble_eq_true rfl)
  rw [lg_entry_eq]
  generalize (lg_sl ([.ref (ad 359), .int a1, .int a2]) ++ List.replicate (4 - (lg_sl ([.ref (ad 359), .int a1, .int a2])).length) Slot.unset).toArray = ls at hl ⊢
  have hl : lv_has ls 4 [(0, .ref (ad 359)), (1, .int a1), (2, .int a2)] := hl
  unfold F_X7_leaveQueue at hf
  refine lv_aload_n hx hb dX7_leaveQueue_0 rfl (lv_at hl 0 rfl) ?_
  refine w_get (C := RX7) (T := TX7) (N := 9) (ci := 7) (v := .ref (ad 360)) hx hb hts hinX7 hown hK hP (S_mod ad cI cR).1 (S_mod ad cI cR).2 rfl 0 (by decide) (hts (.fieldLink RX7 7 "AdmissionControlModel" "z" "[I") (List.mem_of_getElem? (i := 1) rfl)) (fun _ h9 => h9) rfl dX7_leaveQueue_1 ?_
  refine lv_bipush (v := 25) hx hb dX7_leaveQueue_4 (by decide) ?_
  refine lv_iload_n hx hb dX7_leaveQueue_6 rfl (lv_at hl 1 rfl) ?_
  obtain ⟨v34, ev34, hf⟩ := bd_e hf
  refine lv_iadd hx hb dX7_leaveQueue_7 ?_
  refine w_top ev34 ?_
  refine lv_dup2_11 hx hb dX7_leaveQueue_8 rfl rfl ?_
  obtain ⟨hnb, hf⟩ := gd_e hf
  refine w_ald hx hb hK hP (S_z ad cI cR) hnb dX7_leaveQueue_9 ?_
  refine lv_iconst (v := 1) hx hb dX7_leaveQueue_10 (by decide) ?_
  obtain ⟨v35, ev35, hf⟩ := bd_e hf
  refine lv_isub hx hb dX7_leaveQueue_11 ?_
  refine w_top ev35 ?_
  obtain ⟨hnb, hf⟩ := gd_e hf
  obtain ⟨m36, em36, hf⟩ := bd_e hf
  refine w_ast hx hb hi hA hK hP hS (S_z ad cI cR) hnb dX7_leaveQueue_12 (fun H locs hP hS => ?_)
  rw [← em36] at hP
  refine lv_iload_n hx hb dX7_leaveQueue_13 rfl (lv_at hl 2 rfl) ?_
  refine lv_istore_n (lv' := [(3, .int a2), (0, .ref (ad 359)), (1, .int a1), (2, .int a2)]) hx hb dX7_leaveQueue_14 rfl hl (by decide) rfl (fun ls hl => ?_)
  exact hL15 fu a2 m36 _ _ _ hf hP hS (lv_sub hl [1, 2, 0] rfl)
def F_X7_refuseLate_L60 (fu : Nat) (a1 : Int32) (k2 : Int32 → Mem → Option (Mem)) (x2 : Int32) (x3 : Int32) (p0 : Int32) (mm : Mem) : Option (Mem) := if p0 = 0 then (bd (x2 + 1) fun v45 => k2 v45 mm) else (ov (F_X7_leaveQueue fu a1 x2 mm) fun m46 => ov (F_X7_refuse fu x3 5 m46) fun m47 => ob (F_X7_of fu x3 4 m47) fun r48 m49 => ov (F_X7_addTokens fu a1 r48 m49) fun m50 => k2 x2 m50)
def F_X7_refuseLate_L2 (fu : Nat) (a1 : Int32)  : Nat → Int32 → Mem → Option (Mem)
  | 0, _, _ => none
  | n + 1, x2, mm => bd (25 + a1) fun v51 => gd (inb v51 395) (if (mm 360 v51.toNatClampNeg) ≤ x2 then (some mm) else (ob (F_X7_inQueue fu a1 x2 mm) fun r53 m54 => ob (F_X7_of fu r53 3 m54) fun r55 m56 => if r55 = 0 then (gd (inb 67 395) (ob (F_X7_of fu r53 9 m56) fun r58 m59 => bd ((m56 360 (67 : Int32).toNatClampNeg) - r58) fun v60 => gd (inb 1 395) (if v60 < (m59 360 (1 : Int32).toNatClampNeg) then (F_X7_refuseLate_L60 fu a1 (F_X7_refuseLate_L2 fu a1 n) x2 r53 0 m59) else (F_X7_refuseLate_L60 fu a1 (F_X7_refuseLate_L2 fu a1 n) x2 r53 1 m59)))) else (F_X7_refuseLate_L60 fu a1 (F_X7_refuseLate_L2 fu a1 n) x2 r53 0 m56)))
def F_X7_refuseLate (fu : Nat) (a1 : Int32) (mm : Mem) : Option (Mem) := F_X7_refuseLate_L2 fu a1 fu 0 mm
set_option maxHeartbeats 4000000 in
set_option maxRecDepth 100000 in
theorem c_X7_refuseLate (l : Launch) (D : va_G) (ad : Nat → Nat) (cI cR : ClassId) (hi : inj ad) (fu : Nat) (a1 : Int32)  (mm : Mem) (m9 : Mem) (hf : F_X7_refuseLate fu a1 mm = some m9) : MV l yX7_refuseLate wsX7_refuseLate { frames := 2, cells := 0, slots := 0, locals := 47 } D ad cI cR [.ref (ad 359), .int a1] mm m9 := by
  refine Met.ofW (cc := cX7_refuseLate) (maxL := 5) (ret := none) (by decide) rfl ?_
  intro p e s m args below meth c s₁ B hml hv
  obtain ⟨rfl, hP, hK, hN⟩ := hv
  have hx := B.exec
  have hb := B.bytes
  have hr := B.returns
  have hts := atoms_spec (ws := wsX7_refuseLate) B.pre
  have hown : s.vm.findClass RX7 = some m.cls := findClass_of_methodNamed B.named
  have hlocks := B.notSynchronized
  have hA : ∀ q, AA ad q → AA ad q := fun _ h => h
  have hS : va_S (AA ad) s.heap s.heap [] := va_S.rf
  have hinX7 : ∀ w ∈ wsX70, w ∈ wsX7_refuseLate := (fun _ h => List.mem_cons_of_mem _ (List.mem_append_right _ h))
  have hL2 : ∀ (n : Nat) (x2 : Int32)  (mm : Mem) (H : Heap) (locs : List Loc) (ls : Array Slot), F_X7_refuseLate_L2 fu a1  n x2 mm = some m9 → va_P D vwCl (cw ad cI cR mm) H → va_S (AA ad) s.heap H locs → lv_has ls 5 [(0, .ref (ad 359)), (1, .int a1), (2, .int x2)] → W p l e (headSpec wsX7_refuseLate { frames := 2, cells := 0, slots := 0, locals := 47 }).room s m ([.ref (ad 359), .int a1] : List Value).toArray below meth c H locs 0 0 (MQ below (va_Qv (fun (u : Mem) => u = m9) (KB D ad cI cR) (AA ad)) ([.ref (ad 359), .int a1] : List Value).toArray s 0 0 (AA ad)) (F0 m 2 ls []) := by
    intro n
    induction n with
    | zero =>
      intro x2 mm H locs ls hf hP hS hl
      rw [F_X7_refuseLate_L2] at hf
      cases hf
    | succ n2 ih2 =>
      have hL60 : ∀ (x2 : Int32) (x3 : Int32) (p0 : Int32)  (mm : Mem) (H : Heap) (locs : List Loc) (ls : Array Slot), F_X7_refuseLate_L60 fu a1 (F_X7_refuseLate_L2 fu a1 n2) x2 x3 p0 mm = some m9 → va_P D vwCl (cw ad cI cR mm) H → va_S (AA ad) s.heap H locs → lv_has ls 5 [(0, .ref (ad 359)), (1, .int a1), (2, .int x2), (3, .int x3)] → W p l e (headSpec wsX7_refuseLate { frames := 2, cells := 0, slots := 0, locals := 47 }).room s m ([.ref (ad 359), .int a1] : List Value).toArray below meth c H locs 0 0 (MQ below (va_Qv (fun (u : Mem) => u = m9) (KB D ad cI cR) (AA ad)) ([.ref (ad 359), .int a1] : List Value).toArray s 0 0 (AA ad)) (F0 m 60 ls [.int p0]) := by
        intro x2 x3 p0 mm H locs ls hf hP hS hl
        unfold F_X7_refuseLate_L60 at hf
        refine lv_istore (lv' := [(4, .int p0), (0, .ref (ad 359)), (1, .int a1), (2, .int x2), (3, .int x3)]) hx hb dX7_refuseLate_60 hl (by decide) rfl (fun ls hl => ?_)
        refine lv_iload hx hb dX7_refuseLate_62 (lv_at hl 0 rfl) ?_
        refine lv_if_eq (tgt := 93) hx hb dX7_refuseLate_64 (by decide) (fun c44 => ?_) (fun c44 => ?_)
        · rw [if_pos c44] at hf
          obtain ⟨v45, ev45, hf⟩ := bd_e hf
          refine lv_iinc (v := v45) (lv' := [(2, .int v45), (4, .int p0), (0, .ref (ad 359)), (1, .int a1), (3, .int x3)]) hx hb dX7_refuseLate_93 hl (k := 3) rfl (by rw [ev45]; rfl) (by decide) rfl (fun ls hl => ?_)
          refine lv_goto (tgt := 2) hx hb dX7_refuseLate_96 (by decide) ?_
          exact ih2 v45 mm _ _ _ hf hP hS (lv_sub hl [2, 3, 0] rfl)
        · rw [if_neg c44] at hf
          refine lv_aload_n hx hb dX7_refuseLate_67 rfl (lv_at hl 1 rfl) ?_
          refine lv_iload_n hx hb dX7_refuseLate_68 rfl (lv_at hl 2 rfl) ?_
          refine lv_iload_n hx hb dX7_refuseLate_69 rfl (lv_at hl 3 rfl) ?_
          obtain ⟨m46, hq, hf⟩ := ov_e hf
          refine w_cv (va_runV (As := [.int a1, .int x2]) (rest := []) ⟨hx, hb, hml, hown, hts⟩ (c_X7_leaveQueue l D ad cI cR hi fu a1 x2 mm m46 hq) (cwV 2 hts gX7_refuseLate_X7_leaveQueue rfl rfl rfl (by decide +kernel) ⟨Nat.le_of_ble_eq_true rfl, Nat.le_of_ble_eq_true rfl⟩) (w_preV (ci := 7) hK hP hN (S_mod ad cI cR).1 (S_mod ad cI cR).2 rfl) rfl rfl hl.1 rfl (lv_room (Nat.le_of_ble_eq_true rfl)) dX7_refuseLate_70 ⟨Nat.zero_le _, Nat.zero_le _⟩) hA hS (fun H locs hP hS => ?_)
          refine lv_aload_n hx hb dX7_refuseLate_73 rfl (lv_at hl 1 rfl) ?_
          refine lv_iload_n hx hb dX7_refuseLate_74 rfl (lv_at hl 4 rfl) ?_
          refine lv_iconst (v := 5) hx hb dX7_refuseLate_75 (by decide) ?_
          obtain ⟨m47, hq, hf⟩ := ov_e hf
          refine w_cv (va_runV (As := [.int x3, .int 5]) (rest := []) ⟨hx, hb, hml, hown, hts⟩ (c_X7_refuse l D ad cI cR hi fu x3 5 m46 m47 hq) (cwV 2 hts gX7_refuseLate_X7_refuse rfl rfl rfl (by decide +kernel) ⟨Nat.le_of_ble_eq_true rfl, Nat.le_of_ble_eq_true rfl⟩) (w_preV (ci := 7) hK hP hN (S_mod ad cI cR).1 (S_mod ad cI cR).2 rfl) rfl rfl hl.1 rfl (lv_room (Nat.le_of_ble_eq_true rfl)) dX7_refuseLate_76 ⟨Nat.zero_le _, Nat.zero_le _⟩) hA hS (fun H locs hP hS => ?_)
          refine lv_aload_n hx hb dX7_refuseLate_79 rfl (lv_at hl 1 rfl) ?_
          refine lv_iload_n hx hb dX7_refuseLate_80 rfl (lv_at hl 2 rfl) ?_
          refine lv_aload_n hx hb dX7_refuseLate_81 rfl (lv_at hl 1 rfl) ?_
          refine lv_iload_n hx hb dX7_refuseLate_82 rfl (lv_at hl 4 rfl) ?_
          refine lv_iconst (v := 4) hx hb dX7_refuseLate_83 (by decide) ?_
          obtain ⟨r48, m49, hq, hf⟩ := ob_e hf
          refine w_ci (va_runV (As := [.int x3, .int 4]) (rest := [.int a1, .ref (ad 359)]) ⟨hx, hb, hml, hown, hts⟩ (c_X7_of l D ad cI cR hi fu x3 4 m47 r48 m49 hq) (cwV 2 hts gX7_refuseLate_X7_of rfl rfl rfl (by decide +kernel) ⟨Nat.le_of_ble_eq_true rfl, Nat.le_of_ble_eq_true rfl⟩) (w_preV (ci := 7) hK hP hN (S_mod ad cI cR).1 (S_mod ad cI cR).2 rfl) rfl rfl hl.1 rfl (lv_room (Nat.le_of_ble_eq_true rfl)) dX7_refuseLate_84 ⟨Nat.zero_le _, Nat.zero_le _⟩) hA hS (fun H locs hP hS => ?_)
          obtain ⟨m50, hq, hf⟩ := ov_e hf
          refine w_cv (va_runV (As := [.int a1, .int r48]) (rest := []) ⟨hx, hb, hml, hown, hts⟩ (c_X7_addTokens l D ad cI cR hi fu a1 r48 m49 m50 hq) (cwV 2 hts gX7_refuseLate_X7_addTokens rfl rfl rfl (by decide +kernel) ⟨Nat.le_of_ble_eq_true rfl, Nat.le_of_ble_eq_true rfl⟩) (w_preV (ci := 7) hK hP hN (S_mod ad cI cR).1 (S_mod ad cI cR).2 rfl) rfl rfl hl.1 rfl (lv_room (Nat.le_of_ble_eq_true rfl)) dX7_refuseLate_87 ⟨Nat.zero_le _, Nat.zero_le _⟩) hA hS (fun H locs hP hS => ?_)
          refine lv_goto (tgt := 96) hx hb dX7_refuseLate_90 (by decide) ?_
          refine lv_goto (tgt := 2) hx hb dX7_refuseLate_96 (by decide) ?_
          exact ih2 x2 m50 _ _ _ hf hP hS (lv_sub hl [1, 2, 3] rfl)
      intro x2 mm H locs ls hf hP hS hl
      rw [F_X7_refuseLate_L2] at hf
      refine lv_iload_n hx hb dX7_refuseLate_2 rfl (lv_at hl 2 rfl) ?_
      refine lv_aload_n hx hb dX7_refuseLate_3 rfl (lv_at hl 0 rfl) ?_
      refine w_get (C := RX7) (T := TX7) (N := 9) (ci := 7) (v := .ref (ad 360)) hx hb hts hinX7 hown hK hP (S_mod ad cI cR).1 (S_mod ad cI cR).2 rfl 0 (by decide) (hts (.fieldLink RX7 7 "AdmissionControlModel" "z" "[I") (List.mem_of_getElem? (i := 1) rfl)) (fun _ h9 => h9) rfl dX7_refuseLate_4 ?_
      refine lv_bipush (v := 25) hx hb dX7_refuseLate_7 (by decide) ?_
      refine lv_iload_n hx hb dX7_refuseLate_9 rfl (lv_at hl 1 rfl) ?_
      obtain ⟨v51, ev51, hf⟩ := bd_e hf
      refine lv_iadd hx hb dX7_refuseLate_10 ?_
      refine w_top ev51 ?_
      obtain ⟨hnb, hf⟩ := gd_e hf
      refine w_ald hx hb hK hP (S_z ad cI cR) hnb dX7_refuseLate_11 ?_
      refine lv_icmp_ge (tgt := 99) hx hb dX7_refuseLate_12 (by decide) (fun c52 => ?_) (fun c52 => ?_)
      · rw [if_pos c52] at hf
        cases hf
        exact w_vret hx hb hr hlocks hP hS dX7_refuseLate_99
      · rw [if_neg c52] at hf
        refine lv_aload_n hx hb dX7_refuseLate_15 rfl (lv_at hl 0 rfl) ?_
        refine lv_iload_n hx hb dX7_refuseLate_16 rfl (lv_at hl 1 rfl) ?_
        refine lv_iload_n hx hb dX7_refuseLate_17 rfl (lv_at hl 2 rfl) ?_
        obtain ⟨r53, m54, hq, hf⟩ := ob_e hf
        refine w_ci (va_runV (As := [.int a1, .int x2]) (rest := []) ⟨hx, hb, hml, hown, hts⟩ (c_X7_inQueue l D ad cI cR hi fu a1 x2 mm r53 m54 hq) (cwV 2 hts gX7_refuseLate_X7_inQueue rfl rfl rfl (by decide +kernel) ⟨Nat.le_of_ble_eq_true rfl, Nat.le_of_ble_eq_true rfl⟩) (w_preV (ci := 7) hK hP hN (S_mod ad cI cR).1 (S_mod ad cI cR).2 rfl) rfl rfl hl.1 rfl (lv_room (Nat.le_of_ble_eq_true rfl)) dX7_refuseLate_18 ⟨Nat.zero_le _, Nat.zero_le _⟩) hA hS (fun H locs hP hS => ?_)
        refine lv_istore_n (lv' := [(3, .int r53), (0, .ref (ad 359)), (1, .int a1), (2, .int x2)]) hx hb dX7_refuseLate_21 rfl hl (by decide) rfl (fun ls hl => ?_)
        refine lv_aload_n hx hb dX7_refuseLate_22 rfl (lv_at hl 1 rfl) ?_
        refine lv_iload_n hx hb dX7_refuseLate_23 rfl (lv_at hl 0 rfl) ?_
        refine lv_iconst (v := 3) hx hb dX7_refuseLate_24 (by decide) ?_
        obtain ⟨r55, m56, hq, hf⟩ := ob_e hf
        refine w_ci (va_runV (As := [.int r53, .int 3]) (rest := []) ⟨hx, hb, hml, hown, hts⟩ (c_X7_of l D ad cI cR hi fu r53 3 m54 r55 m56 hq) (cwV 2 hts gX7_refuseLate_X7_of rfl rfl rfl (by decide +kernel) ⟨Nat.le_of_ble_eq_true rfl, Nat.le_of_ble_eq_true rfl⟩) (w_preV (ci := 7) hK hP hN (S_mod ad cI cR).1 (S_mod ad cI cR).2 rfl) rfl rfl hl.1 rfl (lv_room (Nat.le_of_ble_eq_true rfl)) dX7_refuseLate_25 ⟨Nat.zero_le _, Nat.zero_le _⟩) hA hS (fun H locs hP hS => ?_)
        refine lv_if_ne (tgt := 59) hx hb dX7_refuseLate_28 (by decide) (fun c57 => ?_) (fun c57 => ?_)
        · rw [if_neg c57] at hf
          refine lv_iconst (v := 0) hx hb dX7_refuseLate_59 (by decide) ?_
          exact hL60 x2 r53 0 m56 _ _ _ hf hP hS (lv_sub hl [1, 2, 3, 0] rfl)
        · rw [if_pos c57] at hf
          refine lv_aload_n hx hb dX7_refuseLate_31 rfl (lv_at hl 1 rfl) ?_
          refine w_get (C := RX7) (T := TX7) (N := 9) (ci := 7) (v := .ref (ad 360)) hx hb hts hinX7 hown hK hP (S_mod ad cI cR).1 (S_mod ad cI cR).2 rfl 0 (by decide) (hts (.fieldLink RX7 7 "AdmissionControlModel" "z" "[I") (List.mem_of_getElem? (i := 1) rfl)) (fun _ h9 => h9) rfl dX7_refuseLate_32 ?_
          refine lv_bipush (v := 67) hx hb dX7_refuseLate_35 (by decide) ?_
          obtain ⟨hnb, hf⟩ := gd_e hf
          refine w_ald hx hb hK hP (S_z ad cI cR) hnb dX7_refuseLate_37 ?_
          refine lv_aload_n hx hb dX7_refuseLate_38 rfl (lv_at hl 1 rfl) ?_
          refine lv_iload_n hx hb dX7_refuseLate_39 rfl (lv_at hl 0 rfl) ?_
          refine lv_bipush (v := 9) hx hb dX7_refuseLate_40 (by decide) ?_
          obtain ⟨r58, m59, hq, hf⟩ := ob_e hf
          refine w_ci (va_runV (As := [.int r53, .int 9]) (rest := [.int (m56 360 (67 : Int32).toNatClampNeg)]) ⟨hx, hb, hml, hown, hts⟩ (c_X7_of l D ad cI cR hi fu r53 9 m56 r58 m59 hq) (cwV 2 hts gX7_refuseLate_X7_of rfl rfl rfl (by decide +kernel) ⟨Nat.le_of_ble_eq_true rfl, Nat.le_of_ble_eq_true rfl⟩) (w_preV (ci := 7) hK hP hN (S_mod ad cI cR).1 (S_mod ad cI cR).2 rfl) rfl rfl hl.1 rfl (lv_room (Nat.le_of_ble_eq_true rfl)) dX7_refuseLate_42 ⟨Nat.zero_le _, Nat.zero_le _⟩) hA hS (fun H locs hP hS => ?_)
          obtain ⟨v60, ev60, hf⟩ := bd_e hf
          refine lv_isub hx hb dX7_refuseLate_45 ?_
          refine w_top ev60 ?_
          refine lv_aload_n hx hb dX7_refuseLate_46 rfl (lv_at hl 1 rfl) ?_
          refine w_get (C := RX7) (T := TX7) (N := 9) (ci := 7) (v := .ref (ad 360)) hx hb hts hinX7 hown hK hP (S_mod ad cI cR).1 (S_mod ad cI cR).2 rfl 0 (by decide) (hts (.fieldLink RX7 7 "AdmissionControlModel" "z" "[I") (List.mem_of_getElem? (i := 1) rfl)) (fun _ h9 => h9) rfl dX7_refuseLate_47 ?_
          refine lv_iconst (v := 1) hx hb dX7_refuseLate_50 (by decide) ?_
          obtain ⟨hnb, hf⟩ := gd_e hf
          refine w_ald hx hb hK hP (S_z ad cI cR) hnb dX7_refuseLate_51 ?_
          refine lv_icmp_lt (tgt := 59) hx hb dX7_refuseLate_52 (by decide) (fun c61 => ?_) (fun c61 => ?_)
          · rw [if_pos c61] at hf
            refine lv_iconst (v := 0) hx hb dX7_refuseLate_59 (by decide) ?_
            exact hL60 x2 r53 0 m59 _ _ _ hf hP hS (lv_sub hl [1, 2, 3, 0] rfl)
          · rw [if_neg c61] at hf
            refine lv_iconst (v := 1) hx hb dX7_refuseLate_55 (by decide) ?_
            refine lv_goto (tgt := 60) hx hb dX7_refuseLate_56 (by decide) ?_
            exact hL60 x2 r53 1 m59 _ _ _ hf hP hS (lv_sub hl [1, 2, 3, 0] rfl)
  have hl := lv_entry ([.ref (ad 359), .int a1]) (n := 5) (Nat.le_of_ble_eq_true rfl)
  rw [lg_entry_eq]
  generalize (lg_sl ([.ref (ad 359), .int a1]) ++ List.replicate (5 - (lg_sl ([.ref (ad 359), .int a1])).length) Slot.unset).toArray = ls at hl ⊢
  have hl : lv_has ls 5 [(0, .ref (ad 359)), (1, .int a1)] := hl
  unfold F_X7_refuseLate at hf
  refine lv_iconst (v := 0) hx hb dX7_refuseLate_0 (by decide) ?_
  refine lv_istore_n (lv' := [(2, .int 0), (0, .ref (ad 359)), (1, .int a1)]) hx hb dX7_refuseLate_1 rfl hl (by decide) rfl (fun ls hl => ?_)
  exact hL2 fu 0 mm _ _ _ hf hP hS (lv_sub hl [1, 2, 0] rfl)
def F_X7_nextClass_L5 (fu : Nat)   : Nat → Int32 → Int32 → Mem → Option (Int32 × Mem)
  | 0, _, _, _ => none
  | n + 1, x1, x2, mm => if 3 ≤ x2 then (some (x1, mm)) else (bd (25 + x2) fun v35 => gd (inb v35 395) (if (mm 360 v35.toNatClampNeg) ≤ 0 then (bd (x2 + 1) fun v37 => F_X7_nextClass_L5 fu  n x1 v37 mm) else (if x1 < 0 then (bd (x2 + 1) fun v39 => F_X7_nextClass_L5 fu  n x2 v39 mm) else (bd (19 + x2) fun v40 => gd (inb v40 395) (bd (19 + x1) fun v41 => gd (inb v41 395) (if (mm 360 v41.toNatClampNeg) ≤ (mm 360 v40.toNatClampNeg) then (bd (x2 + 1) fun v43 => F_X7_nextClass_L5 fu  n x1 v43 mm) else (bd (x2 + 1) fun v44 => F_X7_nextClass_L5 fu  n x2 v44 mm)))))))
def F_X7_nextClass (fu : Nat)  (mm : Mem) : Option (Int32 × Mem) := F_X7_nextClass_L5 fu  fu (-100005) 0 mm
set_option maxHeartbeats 4000000 in
set_option maxRecDepth 100000 in
theorem c_X7_nextClass (l : Launch) (D : va_G) (ad : Nat → Nat) (cI cR : ClassId) (hi : inj ad) (fu : Nat)   (mm : Mem) (r0 : Int32) (m9 : Mem) (hf : F_X7_nextClass fu  mm = some (r0, m9)) : MI l yX7_nextClass wsX7_nextClass { frames := 0, cells := 0, slots := 0, locals := 0 } D ad cI cR [.ref (ad 359)] mm r0 m9 := by
  refine Met.ofW (cc := cX7_nextClass) (maxL := 3) (ret := (some .int)) (by decide) rfl ?_
  intro p e s m args below meth c s₁ B hml hv
  obtain ⟨rfl, hP, hK, hN⟩ := hv
  have hx := B.exec
  have hb := B.bytes
  have hr := B.returns
  have hts := atoms_spec (ws := wsX7_nextClass) B.pre
  have hown : s.vm.findClass RX7 = some m.cls := findClass_of_methodNamed B.named
  have hlocks := B.notSynchronized
  have hA : ∀ q, AA ad q → AA ad q := fun _ h => h
  have hS : va_S (AA ad) s.heap s.heap [] := va_S.rf
  have hinX7 : ∀ w ∈ wsX70, w ∈ wsX7_nextClass := (fun _ h => List.mem_cons_of_mem _ (List.mem_append_right _ h))
  have hL5 : ∀ (n : Nat) (x1 : Int32) (x2 : Int32)  (mm : Mem) (H : Heap) (locs : List Loc) (ls : Array Slot), F_X7_nextClass_L5 fu   n x1 x2 mm = some (r0, m9) → va_P D vwCl (cw ad cI cR mm) H → va_S (AA ad) s.heap H locs → lv_has ls 3 [(0, .ref (ad 359)), (1, .int x1), (2, .int x2)] → W p l e (headSpec wsX7_nextClass { frames := 0, cells := 0, slots := 0, locals := 0 }).room s m ([.ref (ad 359)] : List Value).toArray below meth c H locs 0 0 (MQ below (va_Qi (fun (r' : Int32) (u : Mem) => r' = r0 ∧ u = m9) (KB D ad cI cR) (AA ad)) ([.ref (ad 359)] : List Value).toArray s 0 0 (AA ad)) (F0 m 5 ls []) := by
    intro n
    induction n with
    | zero =>
      intro x1 x2 mm H locs ls hf hP hS hl
      rw [F_X7_nextClass_L5] at hf
      cases hf
    | succ n5 ih5 =>
      intro x1 x2 mm H locs ls hf hP hS hl
      rw [F_X7_nextClass_L5] at hf
      refine lv_iload_n hx hb dX7_nextClass_5 rfl (lv_at hl 2 rfl) ?_
      refine lv_iconst (v := 3) hx hb dX7_nextClass_6 (by decide) ?_
      refine lv_icmp_ge (tgt := 59) hx hb dX7_nextClass_7 (by decide) (fun c34 => ?_) (fun c34 => ?_)
      · rw [if_pos c34] at hf
        refine lv_iload_n hx hb dX7_nextClass_59 rfl (lv_at hl 1 rfl) ?_
        cases hf
        exact w_iret hx hb hr hlocks hP hS dX7_nextClass_60
      · rw [if_neg c34] at hf
        refine lv_aload_n hx hb dX7_nextClass_10 rfl (lv_at hl 0 rfl) ?_
        refine w_get (C := RX7) (T := TX7) (N := 9) (ci := 7) (v := .ref (ad 360)) hx hb hts hinX7 hown hK hP (S_mod ad cI cR).1 (S_mod ad cI cR).2 rfl 0 (by decide) (hts (.fieldLink RX7 7 "AdmissionControlModel" "z" "[I") (List.mem_of_getElem? (i := 2) rfl)) (fun _ h9 => h9) rfl dX7_nextClass_11 ?_
        refine lv_bipush (v := 25) hx hb dX7_nextClass_14 (by decide) ?_
        refine lv_iload_n hx hb dX7_nextClass_16 rfl (lv_at hl 2 rfl) ?_
        obtain ⟨v35, ev35, hf⟩ := bd_e hf
        refine lv_iadd hx hb dX7_nextClass_17 ?_
        refine w_top ev35 ?_
        obtain ⟨hnb, hf⟩ := gd_e hf
        refine w_ald hx hb hK hP (S_z ad cI cR) hnb dX7_nextClass_18 ?_
        refine lv_if_le (tgt := 51) hx hb dX7_nextClass_19 (by decide) (fun c36 => ?_) (fun c36 => ?_)
        · rw [if_pos c36] at hf
          refine lv_iload_n hx hb dX7_nextClass_51 rfl (lv_at hl 1 rfl) ?_
          refine lv_istore_n (lv' := [(1, .int x1), (0, .ref (ad 359)), (2, .int x2)]) hx hb dX7_nextClass_52 rfl hl (by decide) rfl (fun ls hl => ?_)
          obtain ⟨v37, ev37, hf⟩ := bd_e hf
          refine lv_iinc (v := v37) (lv' := [(2, .int v37), (1, .int x1), (0, .ref (ad 359))]) hx hb dX7_nextClass_53 hl (k := 2) rfl (by rw [ev37]; rfl) (by decide) rfl (fun ls hl => ?_)
          refine lv_goto (tgt := 5) hx hb dX7_nextClass_56 (by decide) ?_
          exact ih5 x1 v37 mm _ _ _ hf hP hS (lv_sub hl [2, 1, 0] rfl)
        · rw [if_neg c36] at hf
          refine lv_iload_n hx hb dX7_nextClass_22 rfl (lv_at hl 1 rfl) ?_
          refine lv_if_lt (tgt := 47) hx hb dX7_nextClass_23 (by decide) (fun c38 => ?_) (fun c38 => ?_)
          · rw [if_pos c38] at hf
            refine lv_iload_n hx hb dX7_nextClass_47 rfl (lv_at hl 2 rfl) ?_
            refine lv_goto (tgt := 52) hx hb dX7_nextClass_48 (by decide) ?_
            refine lv_istore_n (lv' := [(1, .int x2), (0, .ref (ad 359)), (2, .int x2)]) hx hb dX7_nextClass_52 rfl hl (by decide) rfl (fun ls hl => ?_)
            obtain ⟨v39, ev39, hf⟩ := bd_e hf
            refine lv_iinc (v := v39) (lv' := [(2, .int v39), (1, .int x2), (0, .ref (ad 359))]) hx hb dX7_nextClass_53 hl (k := 2) rfl (by rw [ev39]; rfl) (by decide) rfl (fun ls hl => ?_)
            refine lv_goto (tgt := 5) hx hb dX7_nextClass_56 (by decide) ?_
            exact ih5 x2 v39 mm _ _ _ hf hP hS (lv_sub hl [2, 1, 0] rfl)
          · rw [if_neg c38] at hf
            refine lv_aload_n hx hb dX7_nextClass_26 rfl (lv_at hl 0 rfl) ?_
            refine w_get (C := RX7) (T := TX7) (N := 9) (ci := 7) (v := .ref (ad 360)) hx hb hts hinX7 hown hK hP (S_mod ad cI cR).1 (S_mod ad cI cR).2 rfl 0 (by decide) (hts (.fieldLink RX7 7 "AdmissionControlModel" "z" "[I") (List.mem_of_getElem? (i := 2) rfl)) (fun _ h9 => h9) rfl dX7_nextClass_27 ?_
            refine lv_bipush (v := 19) hx hb dX7_nextClass_30 (by decide) ?_
            refine lv_iload_n hx hb dX7_nextClass_32 rfl (lv_at hl 2 rfl) ?_
            obtain ⟨v40, ev40, hf⟩ := bd_e hf
            refine lv_iadd hx hb dX7_nextClass_33 ?_
            refine w_top ev40 ?_
            obtain ⟨hnb, hf⟩ := gd_e hf
            refine w_ald hx hb hK hP (S_z ad cI cR) hnb dX7_nextClass_34 ?_
            refine lv_aload_n hx hb dX7_nextClass_35 rfl (lv_at hl 0 rfl) ?_
            refine w_get (C := RX7) (T := TX7) (N := 9) (ci := 7) (v := .ref (ad 360)) hx hb hts hinX7 hown hK hP (S_mod ad cI cR).1 (S_mod ad cI cR).2 rfl 0 (by decide) (hts (.fieldLink RX7 7 "AdmissionControlModel" "z" "[I") (List.mem_of_getElem? (i := 2) rfl)) (fun _ h9 => h9) rfl dX7_nextClass_36 ?_
            refine lv_bipush (v := 19) hx hb dX7_nextClass_39 (by decide) ?_
            refine lv_iload_n hx hb dX7_nextClass_41 rfl (lv_at hl 1 rfl) ?_
            obtain ⟨v41, ev41, hf⟩ := bd_e hf
            refine lv_iadd hx hb dX7_nextClass_42 ?_
            refine w_top ev41 ?_
            obtain ⟨hnb, hf⟩ := gd_e hf
            refine w_ald hx hb hK hP (S_z ad cI cR) hnb dX7_nextClass_43 ?_
            refine lv_icmp_ge (tgt := 51) hx hb dX7_nextClass_44 (by decide) (fun c42 => ?_) (fun c42 => ?_)
            · rw [if_pos c42] at hf
              refine lv_iload_n hx hb dX7_nextClass_51 rfl (lv_at hl 1 rfl) ?_
              refine lv_istore_n (lv' := [(1, .int x1), (0, .ref (ad 359)), (2, .int x2)]) hx hb dX7_nextClass_52 rfl hl (by decide) rfl (fun ls hl => ?_)
              obtain ⟨v43, ev43, hf⟩ := bd_e hf
              refine lv_iinc (v := v43) (lv' := [(2, .int v43), (1, .int x1), (0, .ref (ad 359))]) hx hb dX7_nextClass_53 hl (k := 2) rfl (by rw [ev43]; rfl) (by decide) rfl (fun ls hl => ?_)
              refine lv_goto (tgt := 5) hx hb dX7_nextClass_56 (by decide) ?_
              exact ih5 x1 v43 mm _ _ _ hf hP hS (lv_sub hl [2, 1, 0] rfl)
            · rw [if_neg c42] at hf
              refine lv_iload_n hx hb dX7_nextClass_47 rfl (lv_at hl 2 rfl) ?_
              refine lv_goto (tgt := 52) hx hb dX7_nextClass_48 (by decide) ?_
              refine lv_istore_n (lv' := [(1, .int x2), (0, .ref (ad 359)), (2, .int x2)]) hx hb dX7_nextClass_52 rfl hl (by decide) rfl (fun ls hl => ?_)
              obtain ⟨v44, ev44, hf⟩ := bd_e hf
              refine lv_iinc (v := v44) (lv' := [(2, .int v44), (1, .int x2), (0, .ref (ad 359))]) hx hb dX7_nextClass_53 hl (k := 2) rfl (by rw [ev44]; rfl) (by decide) rfl (fun ls hl => ?_)
              refine lv_goto (tgt := 5) hx hb dX7_nextClass_56 (by decide) ?_
              exact ih5 x2 v44 mm _ _ _ hf hP hS (lv_sub hl [2, 1, 0] rfl)
  have hl := lv_entry ([.ref (ad 359)]) (n := 3) (Nat.le_of_ble_eq_true rfl)
  rw [lg_entry_eq]
  generalize (lg_sl ([.ref (ad 359)]) ++ List.replicate (3 - (lg_sl ([.ref (ad 359)])).length) Slot.unset).toArray = ls at hl ⊢
  have hl : lv_has ls 3 [(0, .ref (ad 359))] := hl
  unfold F_X7_nextClass at hf
  refine lv_ldc (v := (-100005)) hx hb hown (hts (.constant RX7 30 (-100005)) (List.mem_of_getElem? (i := 1) rfl)) dX7_nextClass_0 ?_
  refine lv_istore_n (lv' := [(1, .int (-100005)), (0, .ref (ad 359))]) hx hb dX7_nextClass_2 rfl hl (by decide) rfl (fun ls hl => ?_)
  refine lv_iconst (v := 0) hx hb dX7_nextClass_3 (by decide) ?_
  refine lv_istore_n (lv' := [(2, .int 0), (1, .int (-100005)), (0, .ref (ad 359))]) hx hb dX7_nextClass_4 rfl hl (by decide) rfl (fun ls hl => ?_)
  exact hL5 fu (-100005) 0 mm _ _ _ hf hP hS (lv_sub hl [2, 1, 0] rfl)
def F_X7_work (fu : Nat) (a1 : Int32) (mm : Mem) : Option (Int32 × Mem) := ob (F_X7_inQueue fu a1 0 mm) fun r45 m46 => ov (F_X7_put fu r45 3 1 m46) fun m47 => ob (F_X7_of fu r45 5 m47) fun r48 m49 => bd (r48 + 1) fun v50 => ov (F_X7_put fu r45 5 v50 m49) fun m51 => bd (22 + a1) fun v52 => gd (inb v52 395) (bd ((m51 360 v52.toNatClampNeg) + 1) fun v53 => gd (inb v52 395) (bd (mput m51 360 v52.toNatClampNeg v53) fun m54 => bd (19 + a1) fun v55 => gd (inb v55 395) (ob (F_X7_ofClass fu a1 0 m54) fun r56 m57 => gd (nz r56) (bd ((2520 : Int32) / r56) fun v58 => bd ((m54 360 v55.toNatClampNeg) + v58) fun v59 => gd (inb v55 395) (bd (mput m57 360 v55.toNatClampNeg v59) fun m60 => ob (F_X7_of fu r45 5 m60) fun r61 m62 => ob (F_X7_of fu r45 2 m62) fun r63 m64 => if r63 ≤ r61 then (ov (F_X7_leaveQueue fu a1 0 m64) fun m66 => ov (F_X7_put fu r45 3 2 m66) fun m67 => gd (inb 67 395) (ov (F_X7_put fu r45 8 (m67 360 (67 : Int32).toNatClampNeg) m67) fun m68 => ob (F_X7_of fu r45 1 m68) fun r69 m70 => bd (70 + r69) fun v71 => gd (inb v71 395) (ob (F_X7_of fu r45 2 m70) fun r72 m73 => bd (16 * r72) fun v74 => gd (inb v71 395) (bd (v74 - (m73 360 v71.toNatClampNeg)) fun v75 => bd (v75 / 4) fun v76 => bd ((m70 360 v71.toNatClampNeg) + v76) fun v77 => gd (inb v71 395) (bd (mput m73 360 v71.toNatClampNeg v77) fun m78 => ob (F_X7_of fu r45 4 m78) fun r79 m80 => ob (F_X7_of fu r45 2 m80) fun r81 m82 => bd (r79 - r81) fun v83 => if v83 ≤ 0 then (bd (16 + a1) fun v85 => gd (inb v85 395) (bd ((m82 360 v85.toNatClampNeg) + v83) fun v86 => gd (inb v85 395) (bd (mput m82 360 v85.toNatClampNeg v86) fun m87 => some (1, m87)))) else (ov (F_X7_addTokens fu a1 v83 m82) fun m88 => some (1, m88))))))) else (some (0, m64)))))))
set_option maxHeartbeats 4000000 in
set_option maxRecDepth 100000 in
theorem c_X7_work (l : Launch) (D : va_G) (ad : Nat → Nat) (cI cR : ClassId) (hi : inj ad) (fu : Nat) (a1 : Int32)  (mm : Mem) (r0 : Int32) (m9 : Mem) (hf : F_X7_work fu a1 mm = some (r0, m9)) : MI l yX7_work wsX7_work { frames := 2, cells := 0, slots := 0, locals := 47 } D ad cI cR [.ref (ad 359), .int a1] mm r0 m9 := by
  refine Met.ofW (cc := cX7_work) (maxL := 5) (ret := (some .boolean)) (by decide) rfl ?_
  intro p e s m args below meth c s₁ B hml hv
  obtain ⟨rfl, hP, hK, hN⟩ := hv
  have hx := B.exec
  have hb := B.bytes
  have hr := B.returns
  have hts := atoms_spec (ws := wsX7_work) B.pre
  have hown : s.vm.findClass RX7 = some m.cls := findClass_of_methodNamed B.named
  have hlocks := B.notSynchronized
  have hA : ∀ q, AA ad q → AA ad q := fun _ h => h
  have hS : va_S (AA ad) s.heap s.heap [] := va_S.rf
  have hinX7 : ∀ w ∈ wsX70, w ∈ wsX7_work := (fun _ h => List.mem_cons_of_mem _ (List.mem_append_right _ h))
  have hl := lv_entry ([.ref (ad 359), .int a1]) (n := 5) (Nat.le_of_ble_eq_true rfl)
  rw [lg_entry_eq]
  generalize (lg_sl ([.ref (ad 359), .int a1]) ++ List.replicate (5 - (lg_sl ([.ref (ad 359), .int a1])).length) Slot.unset).toArray = ls at hl ⊢
  have hl : lv_has ls 5 [(0, .ref (ad 359)), (1, .int a1)] := hl
  unfold F_X7_work at hf
  refine lv_aload_n hx hb dX7_work_0 rfl (lv_at hl 0 rfl) ?_
  refine lv_iload_n hx hb dX7_work_1 rfl (lv_at hl 1 rfl) ?_
  refine lv_iconst (v := 0) hx hb dX7_work_2 (by decide) ?_
  obtain ⟨r45, m46, hq, hf⟩ := ob_e hf
  refine w_ci (va_runV (As := [.int a1, .int 0]) (rest := []) ⟨hx, hb, hml, hown, hts⟩ (c_X7_inQueue l D ad cI cR hi fu a1 0 mm r45 m46 hq) (cwV 2 hts gX7_work_X7_inQueue rfl rfl rfl (by decide +kernel) ⟨Nat.le_of_ble_eq_true rfl, Nat.le_of_ble_eq_true rfl⟩) (w_preV (ci := 7) hK hP hN (S_mod ad cI cR).1 (S_mod ad cI cR).2 rfl) rfl rfl hl.1 rfl (lv_room (Nat.le_of_ble_eq_true rfl)) dX7_work_3 ⟨Nat.zero_le _, Nat.zero_le _⟩) hA hS (fun H locs hP hS => ?_)
  refine lv_istore_n (lv' := [(2, .int r45), (0, .ref (ad 359)), (1, .int a1)]) hx hb dX7_work_6 rfl hl (by decide) rfl (fun ls hl => ?_)
  refine lv_aload_n hx hb dX7_work_7 rfl (lv_at hl 1 rfl) ?_
  refine lv_iload_n hx hb dX7_work_8 rfl (lv_at hl 0 rfl) ?_
  refine lv_iconst (v := 3) hx hb dX7_work_9 (by decide) ?_
  refine lv_iconst (v := 1) hx hb dX7_work_10 (by decide) ?_
  obtain ⟨m47, hq, hf⟩ := ov_e hf
  refine w_cv (va_runV (As := [.int r45, .int 3, .int 1]) (rest := []) ⟨hx, hb, hml, hown, hts⟩ (c_X7_put l D ad cI cR hi fu r45 3 1 m46 m47 hq) (cwV 3 hts gX7_work_X7_put rfl rfl rfl (by decide +kernel) ⟨Nat.le_of_ble_eq_true rfl, Nat.le_of_ble_eq_true rfl⟩) (w_preV (ci := 7) hK hP hN (S_mod ad cI cR).1 (S_mod ad cI cR).2 rfl) rfl rfl hl.1 rfl (lv_room (Nat.le_of_ble_eq_true rfl)) dX7_work_11 ⟨Nat.zero_le _, Nat.zero_le _⟩) hA hS (fun H locs hP hS => ?_)
  refine lv_aload_n hx hb dX7_work_14 rfl (lv_at hl 1 rfl) ?_
  refine lv_iload_n hx hb dX7_work_15 rfl (lv_at hl 0 rfl) ?_
  refine lv_iconst (v := 5) hx hb dX7_work_16 (by decide) ?_
  refine lv_aload_n hx hb dX7_work_17 rfl (lv_at hl 1 rfl) ?_
  refine lv_iload_n hx hb dX7_work_18 rfl (lv_at hl 0 rfl) ?_
  refine lv_iconst (v := 5) hx hb dX7_work_19 (by decide) ?_
  obtain ⟨r48, m49, hq, hf⟩ := ob_e hf
  refine w_ci (va_runV (As := [.int r45, .int 5]) (rest := [.int 5, .int r45, .ref (ad 359)]) ⟨hx, hb, hml, hown, hts⟩ (c_X7_of l D ad cI cR hi fu r45 5 m47 r48 m49 hq) (cwV 2 hts gX7_work_X7_of rfl rfl rfl (by decide +kernel) ⟨Nat.le_of_ble_eq_true rfl, Nat.le_of_ble_eq_true rfl⟩) (w_preV (ci := 7) hK hP hN (S_mod ad cI cR).1 (S_mod ad cI cR).2 rfl) rfl rfl hl.1 rfl (lv_room (Nat.le_of_ble_eq_true rfl)) dX7_work_20 ⟨Nat.zero_le _, Nat.zero_le _⟩) hA hS (fun H locs hP hS => ?_)
  refine lv_iconst (v := 1) hx hb dX7_work_23 (by decide) ?_
  obtain ⟨v50, ev50, hf⟩ := bd_e hf
  refine lv_iadd hx hb dX7_work_24 ?_
  refine w_top ev50 ?_
  obtain ⟨m51, hq, hf⟩ := ov_e hf
  refine w_cv (va_runV (As := [.int r45, .int 5, .int v50]) (rest := []) ⟨hx, hb, hml, hown, hts⟩ (c_X7_put l D ad cI cR hi fu r45 5 v50 m49 m51 hq) (cwV 3 hts gX7_work_X7_put rfl rfl rfl (by decide +kernel) ⟨Nat.le_of_ble_eq_true rfl, Nat.le_of_ble_eq_true rfl⟩) (w_preV (ci := 7) hK hP hN (S_mod ad cI cR).1 (S_mod ad cI cR).2 rfl) rfl rfl hl.1 rfl (lv_room (Nat.le_of_ble_eq_true rfl)) dX7_work_25 ⟨Nat.zero_le _, Nat.zero_le _⟩) hA hS (fun H locs hP hS => ?_)
  refine lv_aload_n hx hb dX7_work_28 rfl (lv_at hl 1 rfl) ?_
  refine w_get (C := RX7) (T := TX7) (N := 9) (ci := 7) (v := .ref (ad 360)) hx hb hts hinX7 hown hK hP (S_mod ad cI cR).1 (S_mod ad cI cR).2 rfl 0 (by decide) (hts (.fieldLink RX7 7 "AdmissionControlModel" "z" "[I") (List.mem_of_getElem? (i := 1) rfl)) (fun _ h9 => h9) rfl dX7_work_29 ?_
  refine lv_bipush (v := 22) hx hb dX7_work_32 (by decide) ?_
  refine lv_iload_n hx hb dX7_work_34 rfl (lv_at hl 2 rfl) ?_
  obtain ⟨v52, ev52, hf⟩ := bd_e hf
  refine lv_iadd hx hb dX7_work_35 ?_
  refine w_top ev52 ?_
  refine lv_dup2_11 hx hb dX7_work_36 rfl rfl ?_
  obtain ⟨hnb, hf⟩ := gd_e hf
  refine w_ald hx hb hK hP (S_z ad cI cR) hnb dX7_work_37 ?_
  refine lv_iconst (v := 1) hx hb dX7_work_38 (by decide) ?_
  obtain ⟨v53, ev53, hf⟩ := bd_e hf
  refine lv_iadd hx hb dX7_work_39 ?_
  refine w_top ev53 ?_
  obtain ⟨hnb, hf⟩ := gd_e hf
  obtain ⟨m54, em54, hf⟩ := bd_e hf
  refine w_ast hx hb hi hA hK hP hS (S_z ad cI cR) hnb dX7_work_40 (fun H locs hP hS => ?_)
  rw [← em54] at hP
  refine lv_aload_n hx hb dX7_work_41 rfl (lv_at hl 1 rfl) ?_
  refine w_get (C := RX7) (T := TX7) (N := 9) (ci := 7) (v := .ref (ad 360)) hx hb hts hinX7 hown hK hP (S_mod ad cI cR).1 (S_mod ad cI cR).2 rfl 0 (by decide) (hts (.fieldLink RX7 7 "AdmissionControlModel" "z" "[I") (List.mem_of_getElem? (i := 1) rfl)) (fun _ h9 => h9) rfl dX7_work_42 ?_
  refine lv_bipush (v := 19) hx hb dX7_work_45 (by decide) ?_
  refine lv_iload_n hx hb dX7_work_47 rfl (lv_at hl 2 rfl) ?_
  obtain ⟨v55, ev55, hf⟩ := bd_e hf
  refine lv_iadd hx hb dX7_work_48 ?_
  refine w_top ev55 ?_
  refine lv_dup2_11 hx hb dX7_work_49 rfl rfl ?_
  obtain ⟨hnb, hf⟩ := gd_e hf
  refine w_ald hx hb hK hP (S_z ad cI cR) hnb dX7_work_50 ?_
  refine lv_sipush (v := 2520) hx hb dX7_work_51 (by decide) ?_
  refine lv_aload_n hx hb dX7_work_54 rfl (lv_at hl 1 rfl) ?_
  refine lv_iload_n hx hb dX7_work_55 rfl (lv_at hl 2 rfl) ?_
  refine lv_iconst (v := 0) hx hb dX7_work_56 (by decide) ?_
  obtain ⟨r56, m57, hq, hf⟩ := ob_e hf
  refine w_ci (va_runV (As := [.int a1, .int 0]) (rest := [.int 2520, .int (m54 360 v55.toNatClampNeg), .int v55, .ref (ad 360)]) ⟨hx, hb, hml, hown, hts⟩ (c_X7_ofClass l D ad cI cR hi fu a1 0 m54 r56 m57 hq) (cwV 2 hts gX7_work_X7_ofClass rfl rfl rfl (by decide +kernel) ⟨Nat.le_of_ble_eq_true rfl, Nat.le_of_ble_eq_true rfl⟩) (w_preV (ci := 7) hK hP hN (S_mod ad cI cR).1 (S_mod ad cI cR).2 rfl) rfl rfl hl.1 rfl (lv_room (Nat.le_of_ble_eq_true rfl)) dX7_work_57 ⟨Nat.zero_le _, Nat.zero_le _⟩) hA hS (fun H locs hP hS => ?_)
  obtain ⟨hnz, hf⟩ := gd_e hf
  obtain ⟨v58, ev58, hf⟩ := bd_e hf
  refine lv_idiv hx hb dX7_work_60 (nz_ne hnz) ?_
  refine w_top ev58 ?_
  obtain ⟨v59, ev59, hf⟩ := bd_e hf
  refine lv_iadd hx hb dX7_work_61 ?_
  refine w_top ev59 ?_
  obtain ⟨hnb, hf⟩ := gd_e hf
  obtain ⟨m60, em60, hf⟩ := bd_e hf
  refine w_ast hx hb hi hA hK hP hS (S_z ad cI cR) hnb dX7_work_62 (fun H locs hP hS => ?_)
  rw [← em60] at hP
  refine lv_aload_n hx hb dX7_work_63 rfl (lv_at hl 1 rfl) ?_
  refine lv_iload_n hx hb dX7_work_64 rfl (lv_at hl 0 rfl) ?_
  refine lv_iconst (v := 5) hx hb dX7_work_65 (by decide) ?_
  obtain ⟨r61, m62, hq, hf⟩ := ob_e hf
  refine w_ci (va_runV (As := [.int r45, .int 5]) (rest := []) ⟨hx, hb, hml, hown, hts⟩ (c_X7_of l D ad cI cR hi fu r45 5 m60 r61 m62 hq) (cwV 2 hts gX7_work_X7_of rfl rfl rfl (by decide +kernel) ⟨Nat.le_of_ble_eq_true rfl, Nat.le_of_ble_eq_true rfl⟩) (w_preV (ci := 7) hK hP hN (S_mod ad cI cR).1 (S_mod ad cI cR).2 rfl) rfl rfl hl.1 rfl (lv_room (Nat.le_of_ble_eq_true rfl)) dX7_work_66 ⟨Nat.zero_le _, Nat.zero_le _⟩) hA hS (fun H locs hP hS => ?_)
  refine lv_aload_n hx hb dX7_work_69 rfl (lv_at hl 1 rfl) ?_
  refine lv_iload_n hx hb dX7_work_70 rfl (lv_at hl 0 rfl) ?_
  refine lv_iconst (v := 2) hx hb dX7_work_71 (by decide) ?_
  obtain ⟨r63, m64, hq, hf⟩ := ob_e hf
  refine w_ci (va_runV (As := [.int r45, .int 2]) (rest := [.int r61]) ⟨hx, hb, hml, hown, hts⟩ (c_X7_of l D ad cI cR hi fu r45 2 m62 r63 m64 hq) (cwV 2 hts gX7_work_X7_of rfl rfl rfl (by decide +kernel) ⟨Nat.le_of_ble_eq_true rfl, Nat.le_of_ble_eq_true rfl⟩) (w_preV (ci := 7) hK hP hN (S_mod ad cI cR).1 (S_mod ad cI cR).2 rfl) rfl rfl hl.1 rfl (lv_room (Nat.le_of_ble_eq_true rfl)) dX7_work_72 ⟨Nat.zero_le _, Nat.zero_le _⟩) hA hS (fun H locs hP hS => ?_)
  refine lv_icmp_ge (tgt := 80) hx hb dX7_work_75 (by decide) (fun c65 => ?_) (fun c65 => ?_)
  · rw [if_pos c65] at hf
    refine lv_aload_n hx hb dX7_work_80 rfl (lv_at hl 1 rfl) ?_
    refine lv_iload_n hx hb dX7_work_81 rfl (lv_at hl 2 rfl) ?_
    refine lv_iconst (v := 0) hx hb dX7_work_82 (by decide) ?_
    obtain ⟨m66, hq, hf⟩ := ov_e hf
    refine w_cv (va_runV (As := [.int a1, .int 0]) (rest := []) ⟨hx, hb, hml, hown, hts⟩ (c_X7_leaveQueue l D ad cI cR hi fu a1 0 m64 m66 hq) (cwV 2 hts gX7_work_X7_leaveQueue rfl rfl rfl (by decide +kernel) ⟨Nat.le_of_ble_eq_true rfl, Nat.le_of_ble_eq_true rfl⟩) (w_preV (ci := 7) hK hP hN (S_mod ad cI cR).1 (S_mod ad cI cR).2 rfl) rfl rfl hl.1 rfl (lv_room (Nat.le_of_ble_eq_true rfl)) dX7_work_83 ⟨Nat.zero_le _, Nat.zero_le _⟩) hA hS (fun H locs hP hS => ?_)
    refine lv_aload_n hx hb dX7_work_86 rfl (lv_at hl 1 rfl) ?_
    refine lv_iload_n hx hb dX7_work_87 rfl (lv_at hl 0 rfl) ?_
    refine lv_iconst (v := 3) hx hb dX7_work_88 (by decide) ?_
    refine lv_iconst (v := 2) hx hb dX7_work_89 (by decide) ?_
    obtain ⟨m67, hq, hf⟩ := ov_e hf
    refine w_cv (va_runV (As := [.int r45, .int 3, .int 2]) (rest := []) ⟨hx, hb, hml, hown, hts⟩ (c_X7_put l D ad cI cR hi fu r45 3 2 m66 m67 hq) (cwV 3 hts gX7_work_X7_put rfl rfl rfl (by decide +kernel) ⟨Nat.le_of_ble_eq_true rfl, Nat.le_of_ble_eq_true rfl⟩) (w_preV (ci := 7) hK hP hN (S_mod ad cI cR).1 (S_mod ad cI cR).2 rfl) rfl rfl hl.1 rfl (lv_room (Nat.le_of_ble_eq_true rfl)) dX7_work_90 ⟨Nat.zero_le _, Nat.zero_le _⟩) hA hS (fun H locs hP hS => ?_)
    refine lv_aload_n hx hb dX7_work_93 rfl (lv_at hl 1 rfl) ?_
    refine lv_iload_n hx hb dX7_work_94 rfl (lv_at hl 0 rfl) ?_
    refine lv_bipush (v := 8) hx hb dX7_work_95 (by decide) ?_
    refine lv_aload_n hx hb dX7_work_97 rfl (lv_at hl 1 rfl) ?_
    refine w_get (C := RX7) (T := TX7) (N := 9) (ci := 7) (v := .ref (ad 360)) hx hb hts hinX7 hown hK hP (S_mod ad cI cR).1 (S_mod ad cI cR).2 rfl 0 (by decide) (hts (.fieldLink RX7 7 "AdmissionControlModel" "z" "[I") (List.mem_of_getElem? (i := 1) rfl)) (fun _ h9 => h9) rfl dX7_work_98 ?_
    refine lv_bipush (v := 67) hx hb dX7_work_101 (by decide) ?_
    obtain ⟨hnb, hf⟩ := gd_e hf
    refine w_ald hx hb hK hP (S_z ad cI cR) hnb dX7_work_103 ?_
    obtain ⟨m68, hq, hf⟩ := ov_e hf
    refine w_cv (va_runV (As := [.int r45, .int 8, .int (m67 360 (67 : Int32).toNatClampNeg)]) (rest := []) ⟨hx, hb, hml, hown, hts⟩ (c_X7_put l D ad cI cR hi fu r45 8 (m67 360 (67 : Int32).toNatClampNeg) m67 m68 hq) (cwV 3 hts gX7_work_X7_put rfl rfl rfl (by decide +kernel) ⟨Nat.le_of_ble_eq_true rfl, Nat.le_of_ble_eq_true rfl⟩) (w_preV (ci := 7) hK hP hN (S_mod ad cI cR).1 (S_mod ad cI cR).2 rfl) rfl rfl hl.1 rfl (lv_room (Nat.le_of_ble_eq_true rfl)) dX7_work_104 ⟨Nat.zero_le _, Nat.zero_le _⟩) hA hS (fun H locs hP hS => ?_)
    refine lv_bipush (v := 70) hx hb dX7_work_107 (by decide) ?_
    refine lv_aload_n hx hb dX7_work_109 rfl (lv_at hl 1 rfl) ?_
    refine lv_iload_n hx hb dX7_work_110 rfl (lv_at hl 0 rfl) ?_
    refine lv_iconst (v := 1) hx hb dX7_work_111 (by decide) ?_
    obtain ⟨r69, m70, hq, hf⟩ := ob_e hf
    refine w_ci (va_runV (As := [.int r45, .int 1]) (rest := [.int 70]) ⟨hx, hb, hml, hown, hts⟩ (c_X7_of l D ad cI cR hi fu r45 1 m68 r69 m70 hq) (cwV 2 hts gX7_work_X7_of rfl rfl rfl (by decide +kernel) ⟨Nat.le_of_ble_eq_true rfl, Nat.le_of_ble_eq_true rfl⟩) (w_preV (ci := 7) hK hP hN (S_mod ad cI cR).1 (S_mod ad cI cR).2 rfl) rfl rfl hl.1 rfl (lv_room (Nat.le_of_ble_eq_true rfl)) dX7_work_112 ⟨Nat.zero_le _, Nat.zero_le _⟩) hA hS (fun H locs hP hS => ?_)
    obtain ⟨v71, ev71, hf⟩ := bd_e hf
    refine lv_iadd hx hb dX7_work_115 ?_
    refine w_top ev71 ?_
    refine lv_istore_n (lv' := [(3, .int v71), (2, .int r45), (0, .ref (ad 359)), (1, .int a1)]) hx hb dX7_work_116 rfl hl (by decide) rfl (fun ls hl => ?_)
    refine lv_aload_n hx hb dX7_work_117 rfl (lv_at hl 2 rfl) ?_
    refine w_get (C := RX7) (T := TX7) (N := 9) (ci := 7) (v := .ref (ad 360)) hx hb hts hinX7 hown hK hP (S_mod ad cI cR).1 (S_mod ad cI cR).2 rfl 0 (by decide) (hts (.fieldLink RX7 7 "AdmissionControlModel" "z" "[I") (List.mem_of_getElem? (i := 1) rfl)) (fun _ h9 => h9) rfl dX7_work_118 ?_
    refine lv_iload_n hx hb dX7_work_121 rfl (lv_at hl 0 rfl) ?_
    refine lv_dup2_11 hx hb dX7_work_122 rfl rfl ?_
    obtain ⟨hnb, hf⟩ := gd_e hf
    refine w_ald hx hb hK hP (S_z ad cI cR) hnb dX7_work_123 ?_
    refine lv_bipush (v := 16) hx hb dX7_work_124 (by decide) ?_
    refine lv_aload_n hx hb dX7_work_126 rfl (lv_at hl 2 rfl) ?_
    refine lv_iload_n hx hb dX7_work_127 rfl (lv_at hl 1 rfl) ?_
    refine lv_iconst (v := 2) hx hb dX7_work_128 (by decide) ?_
    obtain ⟨r72, m73, hq, hf⟩ := ob_e hf
    refine w_ci (va_runV (As := [.int r45, .int 2]) (rest := [.int 16, .int (m70 360 v71.toNatClampNeg), .int v71, .ref (ad 360)]) ⟨hx, hb, hml, hown, hts⟩ (c_X7_of l D ad cI cR hi fu r45 2 m70 r72 m73 hq) (cwV 2 hts gX7_work_X7_of rfl rfl rfl (by decide +kernel) ⟨Nat.le_of_ble_eq_true rfl, Nat.le_of_ble_eq_true rfl⟩) (w_preV (ci := 7) hK hP hN (S_mod ad cI cR).1 (S_mod ad cI cR).2 rfl) rfl rfl hl.1 rfl (lv_room (Nat.le_of_ble_eq_true rfl)) dX7_work_129 ⟨Nat.zero_le _, Nat.zero_le _⟩) hA hS (fun H locs hP hS => ?_)
    obtain ⟨v74, ev74, hf⟩ := bd_e hf
    refine lv_imul hx hb dX7_work_132 ?_
    refine w_top ev74 ?_
    refine lv_aload_n hx hb dX7_work_133 rfl (lv_at hl 2 rfl) ?_
    refine w_get (C := RX7) (T := TX7) (N := 9) (ci := 7) (v := .ref (ad 360)) hx hb hts hinX7 hown hK hP (S_mod ad cI cR).1 (S_mod ad cI cR).2 rfl 0 (by decide) (hts (.fieldLink RX7 7 "AdmissionControlModel" "z" "[I") (List.mem_of_getElem? (i := 1) rfl)) (fun _ h9 => h9) rfl dX7_work_134 ?_
    refine lv_iload_n hx hb dX7_work_137 rfl (lv_at hl 0 rfl) ?_
    obtain ⟨hnb, hf⟩ := gd_e hf
    refine w_ald hx hb hK hP (S_z ad cI cR) hnb dX7_work_138 ?_
    obtain ⟨v75, ev75, hf⟩ := bd_e hf
    refine lv_isub hx hb dX7_work_139 ?_
    refine w_top ev75 ?_
    refine lv_iconst (v := 4) hx hb dX7_work_140 (by decide) ?_
    obtain ⟨v76, ev76, hf⟩ := bd_e hf
    refine lv_idiv hx hb dX7_work_141 (by decide) ?_
    refine w_top ev76 ?_
    obtain ⟨v77, ev77, hf⟩ := bd_e hf
    refine lv_iadd hx hb dX7_work_142 ?_
    refine w_top ev77 ?_
    obtain ⟨hnb, hf⟩ := gd_e hf
    obtain ⟨m78, em78, hf⟩ := bd_e hf
    refine w_ast hx hb hi hA hK hP hS (S_z ad cI cR) hnb dX7_work_143 (fun H locs hP hS => ?_)
    rw [← em78] at hP
    refine lv_aload_n hx hb dX7_work_144 rfl (lv_at hl 2 rfl) ?_
    refine lv_iload_n hx hb dX7_work_145 rfl (lv_at hl 1 rfl) ?_
    refine lv_iconst (v := 4) hx hb dX7_work_146 (by decide) ?_
    obtain ⟨r79, m80, hq, hf⟩ := ob_e hf
    refine w_ci (va_runV (As := [.int r45, .int 4]) (rest := []) ⟨hx, hb, hml, hown, hts⟩ (c_X7_of l D ad cI cR hi fu r45 4 m78 r79 m80 hq) (cwV 2 hts gX7_work_X7_of rfl rfl rfl (by decide +kernel) ⟨Nat.le_of_ble_eq_true rfl, Nat.le_of_ble_eq_true rfl⟩) (w_preV (ci := 7) hK hP hN (S_mod ad cI cR).1 (S_mod ad cI cR).2 rfl) rfl rfl hl.1 rfl (lv_room (Nat.le_of_ble_eq_true rfl)) dX7_work_147 ⟨Nat.zero_le _, Nat.zero_le _⟩) hA hS (fun H locs hP hS => ?_)
    refine lv_aload_n hx hb dX7_work_150 rfl (lv_at hl 2 rfl) ?_
    refine lv_iload_n hx hb dX7_work_151 rfl (lv_at hl 1 rfl) ?_
    refine lv_iconst (v := 2) hx hb dX7_work_152 (by decide) ?_
    obtain ⟨r81, m82, hq, hf⟩ := ob_e hf
    refine w_ci (va_runV (As := [.int r45, .int 2]) (rest := [.int r79]) ⟨hx, hb, hml, hown, hts⟩ (c_X7_of l D ad cI cR hi fu r45 2 m80 r81 m82 hq) (cwV 2 hts gX7_work_X7_of rfl rfl rfl (by decide +kernel) ⟨Nat.le_of_ble_eq_true rfl, Nat.le_of_ble_eq_true rfl⟩) (w_preV (ci := 7) hK hP hN (S_mod ad cI cR).1 (S_mod ad cI cR).2 rfl) rfl rfl hl.1 rfl (lv_room (Nat.le_of_ble_eq_true rfl)) dX7_work_153 ⟨Nat.zero_le _, Nat.zero_le _⟩) hA hS (fun H locs hP hS => ?_)
    obtain ⟨v83, ev83, hf⟩ := bd_e hf
    refine lv_isub hx hb dX7_work_156 ?_
    refine w_top ev83 ?_
    refine lv_istore (lv' := [(4, .int v83), (3, .int v71), (2, .int r45), (0, .ref (ad 359)), (1, .int a1)]) hx hb dX7_work_157 hl (by decide) rfl (fun ls hl => ?_)
    refine lv_iload hx hb dX7_work_159 (lv_at hl 0 rfl) ?_
    refine lv_if_le (tgt := 174) hx hb dX7_work_161 (by decide) (fun c84 => ?_) (fun c84 => ?_)
    · rw [if_pos c84] at hf
      refine lv_aload_n hx hb dX7_work_174 rfl (lv_at hl 3 rfl) ?_
      refine w_get (C := RX7) (T := TX7) (N := 9) (ci := 7) (v := .ref (ad 360)) hx hb hts hinX7 hown hK hP (S_mod ad cI cR).1 (S_mod ad cI cR).2 rfl 0 (by decide) (hts (.fieldLink RX7 7 "AdmissionControlModel" "z" "[I") (List.mem_of_getElem? (i := 1) rfl)) (fun _ h9 => h9) rfl dX7_work_175 ?_
      refine lv_bipush (v := 16) hx hb dX7_work_178 (by decide) ?_
      refine lv_iload_n hx hb dX7_work_180 rfl (lv_at hl 4 rfl) ?_
      obtain ⟨v85, ev85, hf⟩ := bd_e hf
      refine lv_iadd hx hb dX7_work_181 ?_
      refine w_top ev85 ?_
      refine lv_dup2_11 hx hb dX7_work_182 rfl rfl ?_
      obtain ⟨hnb, hf⟩ := gd_e hf
      refine w_ald hx hb hK hP (S_z ad cI cR) hnb dX7_work_183 ?_
      refine lv_iload hx hb dX7_work_184 (lv_at hl 0 rfl) ?_
      obtain ⟨v86, ev86, hf⟩ := bd_e hf
      refine lv_iadd hx hb dX7_work_186 ?_
      refine w_top ev86 ?_
      obtain ⟨hnb, hf⟩ := gd_e hf
      obtain ⟨m87, em87, hf⟩ := bd_e hf
      refine w_ast hx hb hi hA hK hP hS (S_z ad cI cR) hnb dX7_work_187 (fun H locs hP hS => ?_)
      rw [← em87] at hP
      refine lv_iconst (v := 1) hx hb dX7_work_188 (by decide) ?_
      cases hf
      exact w_zret hx hb hr hlocks rfl hP hS dX7_work_189
    · rw [if_neg c84] at hf
      refine lv_aload_n hx hb dX7_work_164 rfl (lv_at hl 3 rfl) ?_
      refine lv_iload_n hx hb dX7_work_165 rfl (lv_at hl 4 rfl) ?_
      refine lv_iload hx hb dX7_work_166 (lv_at hl 0 rfl) ?_
      obtain ⟨m88, hq, hf⟩ := ov_e hf
      refine w_cv (va_runV (As := [.int a1, .int v83]) (rest := []) ⟨hx, hb, hml, hown, hts⟩ (c_X7_addTokens l D ad cI cR hi fu a1 v83 m82 m88 hq) (cwV 2 hts gX7_work_X7_addTokens rfl rfl rfl (by decide +kernel) ⟨Nat.le_of_ble_eq_true rfl, Nat.le_of_ble_eq_true rfl⟩) (w_preV (ci := 7) hK hP hN (S_mod ad cI cR).1 (S_mod ad cI cR).2 rfl) rfl rfl hl.1 rfl (lv_room (Nat.le_of_ble_eq_true rfl)) dX7_work_168 ⟨Nat.zero_le _, Nat.zero_le _⟩) hA hS (fun H locs hP hS => ?_)
      refine lv_goto (tgt := 188) hx hb dX7_work_171 (by decide) ?_
      refine lv_iconst (v := 1) hx hb dX7_work_188 (by decide) ?_
      cases hf
      exact w_zret hx hb hr hlocks rfl hP hS dX7_work_189
  · rw [if_neg c65] at hf
    refine lv_iconst (v := 0) hx hb dX7_work_78 (by decide) ?_
    cases hf
    exact w_zret hx hb hr hlocks rfl hP hS dX7_work_79
def F_X7_tick_L98 (fu : Nat)   : Nat → Int32 → Int32 → Mem → Option (Int32 × Mem)
  | 0, _, _, _ => none
  | n + 1, x1, x2, mm => gd (inb 0 395) (if (mm 360 (0 : Int32).toNatClampNeg) ≤ x2 then (gd (inb 67 395) (bd ((mm 360 (67 : Int32).toNatClampNeg) + 1) fun v74 => gd (inb 67 395) (bd (mput mm 360 (67 : Int32).toNatClampNeg v74) fun m75 => some (x1, m75)))) else (ob (F_X7_nextClass fu  mm) fun r76 m77 => if 0 ≤ r76 then (ob (F_X7_work fu r76 m77) fun r79 m80 => if r79 = 0 then (bd (x1 + 0) fun v82 => bd (x2 + 1) fun v83 => F_X7_tick_L98 fu  n v82 v83 m80) else (bd (x1 + 1) fun v84 => bd (x2 + 1) fun v85 => F_X7_tick_L98 fu  n v84 v85 m80)) else (gd (inb 68 395) (bd ((m77 360 (68 : Int32).toNatClampNeg) + 1) fun v86 => gd (inb 68 395) (bd (mput m77 360 (68 : Int32).toNatClampNeg v86) fun m87 => bd (x2 + 1) fun v88 => F_X7_tick_L98 fu  n x1 v88 m87)))))
def F_X7_tick_L78 (fu : Nat)   : Nat → Int32 → Mem → Option (Int32 × Mem)
  | 0, _, _ => none
  | n + 1, x1, mm => if 3 ≤ x1 then (F_X7_tick_L98 fu  fu 0 0 mm) else (ov (F_X7_refuseLate fu x1 mm) fun m90 => bd (x1 + 1) fun v91 => F_X7_tick_L78 fu  n v91 m90)
def F_X7_tick_L26 (fu : Nat)   : Nat → Int32 → Mem → Option (Int32 × Mem)
  | 0, _, _ => none
  | n + 1, x1, mm => gd (inb 69 395) (if (mm 360 (69 : Int32).toNatClampNeg) ≤ x1 then (F_X7_tick_L78 fu  fu 0 mm) else (ob (F_X7_of fu x1 3 mm) fun r93 m94 => if r93 = 3 then (ob (F_X7_of fu x1 8 m94) fun r97 m98 => gd (inb 67 395) (if (m98 360 (67 : Int32).toNatClampNeg) < r97 then (bd (x1 + 1) fun v100 => F_X7_tick_L26 fu  n v100 m98) else (ob (F_X7_offerNow fu x1 m98) fun r101 m102 => bd (x1 + 1) fun v103 => F_X7_tick_L26 fu  n v103 m102))) else (bd (x1 + 1) fun v96 => F_X7_tick_L26 fu  n v96 m94)))
def F_X7_tick_L2 (fu : Nat)   : Nat → Int32 → Mem → Option (Int32 × Mem)
  | 0, _, _ => none
  | n + 1, x1, mm => if 3 ≤ x1 then (F_X7_tick_L26 fu  fu 0 mm) else (ob (F_X7_ofClass fu x1 1 mm) fun r105 m106 => ov (F_X7_addTokens fu x1 r105 m106) fun m107 => bd (x1 + 1) fun v108 => F_X7_tick_L2 fu  n v108 m107)
def F_X7_tick (fu : Nat)  (mm : Mem) : Option (Int32 × Mem) := F_X7_tick_L2 fu  fu 0 mm
set_option maxHeartbeats 4000000 in
set_option maxRecDepth 100000 in
theorem c_X7_tick (l : Launch) (D : va_G) (ad : Nat → Nat) (cI cR : ClassId) (hi : inj ad) (fu : Nat)   (mm : Mem) (r0 : Int32) (m9 : Mem) (hf : F_X7_tick fu  mm = some (r0, m9)) : MI l yX7_tick wsX7_tick { frames := 4, cells := 0, slots := 0, locals := 92 } D ad cI cR [.ref (ad 359)] mm r0 m9 := by
  refine Met.ofW (cc := cX7_tick) (maxL := 4) (ret := (some .int)) (by decide) rfl ?_
  intro p e s m args below meth c s₁ B hml hv
  obtain ⟨rfl, hP, hK, hN⟩ := hv
  have hx := B.exec
  have hb := B.bytes
  have hr := B.returns
  have hts := atoms_spec (ws := wsX7_tick) B.pre
  have hown : s.vm.findClass RX7 = some m.cls := findClass_of_methodNamed B.named
  have hlocks := B.notSynchronized
  have hA : ∀ q, AA ad q → AA ad q := fun _ h => h
  have hS : va_S (AA ad) s.heap s.heap [] := va_S.rf
  have hinX7 : ∀ w ∈ wsX70, w ∈ wsX7_tick := (fun _ h => List.mem_cons_of_mem _ (List.mem_append_right _ h))
  have hL98 : ∀ (n : Nat) (x1 : Int32) (x2 : Int32)  (mm : Mem) (H : Heap) (locs : List Loc) (ls : Array Slot), F_X7_tick_L98 fu   n x1 x2 mm = some (r0, m9) → va_P D vwCl (cw ad cI cR mm) H → va_S (AA ad) s.heap H locs → lv_has ls 4 [(0, .ref (ad 359)), (1, .int x1), (2, .int x2)] → W p l e (headSpec wsX7_tick { frames := 4, cells := 0, slots := 0, locals := 92 }).room s m ([.ref (ad 359)] : List Value).toArray below meth c H locs 0 0 (MQ below (va_Qi (fun (r' : Int32) (u : Mem) => r' = r0 ∧ u = m9) (KB D ad cI cR) (AA ad)) ([.ref (ad 359)] : List Value).toArray s 0 0 (AA ad)) (F0 m 98 ls []) := by
    intro n
    induction n with
    | zero =>
      intro x1 x2 mm H locs ls hf hP hS hl
      rw [F_X7_tick_L98] at hf
      cases hf
    | succ n98 ih98 =>
      intro x1 x2 mm H locs ls hf hP hS hl
      rw [F_X7_tick_L98] at hf
      refine lv_iload_n hx hb dX7_tick_98 rfl (lv_at hl 2 rfl) ?_
      refine lv_aload_n hx hb dX7_tick_99 rfl (lv_at hl 0 rfl) ?_
      refine w_get (C := RX7) (T := TX7) (N := 9) (ci := 7) (v := .ref (ad 360)) hx hb hts hinX7 hown hK hP (S_mod ad cI cR).1 (S_mod ad cI cR).2 rfl 0 (by decide) (hts (.fieldLink RX7 7 "AdmissionControlModel" "z" "[I") (List.mem_of_getElem? (i := 1) rfl)) (fun _ h9 => h9) rfl dX7_tick_100 ?_
      refine lv_iconst (v := 0) hx hb dX7_tick_103 (by decide) ?_
      obtain ⟨hnb, hf⟩ := gd_e hf
      refine w_ald hx hb hK hP (S_z ad cI cR) hnb dX7_tick_104 ?_
      refine lv_icmp_ge (tgt := 153) hx hb dX7_tick_105 (by decide) (fun c73 => ?_) (fun c73 => ?_)
      · rw [if_pos c73] at hf
        refine lv_aload_n hx hb dX7_tick_153 rfl (lv_at hl 0 rfl) ?_
        refine w_get (C := RX7) (T := TX7) (N := 9) (ci := 7) (v := .ref (ad 360)) hx hb hts hinX7 hown hK hP (S_mod ad cI cR).1 (S_mod ad cI cR).2 rfl 0 (by decide) (hts (.fieldLink RX7 7 "AdmissionControlModel" "z" "[I") (List.mem_of_getElem? (i := 1) rfl)) (fun _ h9 => h9) rfl dX7_tick_154 ?_
        refine lv_bipush (v := 67) hx hb dX7_tick_157 (by decide) ?_
        refine lv_dup2_11 hx hb dX7_tick_159 rfl rfl ?_
        obtain ⟨hnb, hf⟩ := gd_e hf
        refine w_ald hx hb hK hP (S_z ad cI cR) hnb dX7_tick_160 ?_
        refine lv_iconst (v := 1) hx hb dX7_tick_161 (by decide) ?_
        obtain ⟨v74, ev74, hf⟩ := bd_e hf
        refine lv_iadd hx hb dX7_tick_162 ?_
        refine w_top ev74 ?_
        obtain ⟨hnb, hf⟩ := gd_e hf
        obtain ⟨m75, em75, hf⟩ := bd_e hf
        refine w_ast hx hb hi hA hK hP hS (S_z ad cI cR) hnb dX7_tick_163 (fun H locs hP hS => ?_)
        rw [← em75] at hP
        refine lv_iload_n hx hb dX7_tick_164 rfl (lv_at hl 1 rfl) ?_
        cases hf
        exact w_iret hx hb hr hlocks hP hS dX7_tick_165
      · rw [if_neg c73] at hf
        refine lv_aload_n hx hb dX7_tick_108 rfl (lv_at hl 0 rfl) ?_
        obtain ⟨r76, m77, hq, hf⟩ := ob_e hf
        refine w_ci (va_runV (As := []) (rest := []) ⟨hx, hb, hml, hown, hts⟩ (c_X7_nextClass l D ad cI cR hi fu  mm r76 m77 hq) (cwV 0 hts gX7_tick_X7_nextClass rfl rfl rfl (by decide +kernel) ⟨Nat.le_of_ble_eq_true rfl, Nat.le_of_ble_eq_true rfl⟩) (w_preV (ci := 7) hK hP hN (S_mod ad cI cR).1 (S_mod ad cI cR).2 rfl) rfl rfl hl.1 rfl (lv_room (Nat.le_of_ble_eq_true rfl)) dX7_tick_109 ⟨Nat.zero_le _, Nat.zero_le _⟩) hA hS (fun H locs hP hS => ?_)
        refine lv_istore_n (lv' := [(3, .int r76), (0, .ref (ad 359)), (1, .int x1), (2, .int x2)]) hx hb dX7_tick_112 rfl hl (by decide) rfl (fun ls hl => ?_)
        refine lv_iload_n hx hb dX7_tick_113 rfl (lv_at hl 0 rfl) ?_
        refine lv_if_ge (tgt := 131) hx hb dX7_tick_114 (by decide) (fun c78 => ?_) (fun c78 => ?_)
        · rw [if_pos c78] at hf
          refine lv_iload_n hx hb dX7_tick_131 rfl (lv_at hl 2 rfl) ?_
          refine lv_aload_n hx hb dX7_tick_132 rfl (lv_at hl 1 rfl) ?_
          refine lv_iload_n hx hb dX7_tick_133 rfl (lv_at hl 0 rfl) ?_
          obtain ⟨r79, m80, hq, hf⟩ := ob_e hf
          refine w_ci (va_runV (As := [.int r76]) (rest := [.int x1]) ⟨hx, hb, hml, hown, hts⟩ (c_X7_work l D ad cI cR hi fu r76 m77 r79 m80 hq) (cwV 1 hts gX7_tick_X7_work rfl rfl rfl (by decide +kernel) ⟨Nat.le_of_ble_eq_true rfl, Nat.le_of_ble_eq_true rfl⟩) (w_preV (ci := 7) hK hP hN (S_mod ad cI cR).1 (S_mod ad cI cR).2 rfl) rfl rfl hl.1 rfl (lv_room (Nat.le_of_ble_eq_true rfl)) dX7_tick_134 ⟨Nat.zero_le _, Nat.zero_le _⟩) hA hS (fun H locs hP hS => ?_)
          refine lv_if_eq (tgt := 144) hx hb dX7_tick_137 (by decide) (fun c81 => ?_) (fun c81 => ?_)
          · rw [if_pos c81] at hf
            refine lv_iconst (v := 0) hx hb dX7_tick_144 (by decide) ?_
            obtain ⟨v82, ev82, hf⟩ := bd_e hf
            refine lv_iadd hx hb dX7_tick_145 ?_
            refine w_top ev82 ?_
            refine lv_istore_n (lv' := [(1, .int v82), (3, .int r76), (0, .ref (ad 359)), (2, .int x2)]) hx hb dX7_tick_146 rfl hl (by decide) rfl (fun ls hl => ?_)
            obtain ⟨v83, ev83, hf⟩ := bd_e hf
            refine lv_iinc (v := v83) (lv' := [(2, .int v83), (1, .int v82), (3, .int r76), (0, .ref (ad 359))]) hx hb dX7_tick_147 hl (k := 3) rfl (by rw [ev83]; rfl) (by decide) rfl (fun ls hl => ?_)
            refine lv_goto (tgt := 98) hx hb dX7_tick_150 (by decide) ?_
            exact ih98 v82 v83 m80 _ _ _ hf hP hS (lv_sub hl [3, 1, 0] rfl)
          · rw [if_neg c81] at hf
            refine lv_iconst (v := 1) hx hb dX7_tick_140 (by decide) ?_
            refine lv_goto (tgt := 145) hx hb dX7_tick_141 (by decide) ?_
            obtain ⟨v84, ev84, hf⟩ := bd_e hf
            refine lv_iadd hx hb dX7_tick_145 ?_
            refine w_top ev84 ?_
            refine lv_istore_n (lv' := [(1, .int v84), (3, .int r76), (0, .ref (ad 359)), (2, .int x2)]) hx hb dX7_tick_146 rfl hl (by decide) rfl (fun ls hl => ?_)
            obtain ⟨v85, ev85, hf⟩ := bd_e hf
            refine lv_iinc (v := v85) (lv' := [(2, .int v85), (1, .int v84), (3, .int r76), (0, .ref (ad 359))]) hx hb dX7_tick_147 hl (k := 3) rfl (by rw [ev85]; rfl) (by decide) rfl (fun ls hl => ?_)
            refine lv_goto (tgt := 98) hx hb dX7_tick_150 (by decide) ?_
            exact ih98 v84 v85 m80 _ _ _ hf hP hS (lv_sub hl [3, 1, 0] rfl)
        · rw [if_neg c78] at hf
          refine lv_aload_n hx hb dX7_tick_117 rfl (lv_at hl 1 rfl) ?_
          refine w_get (C := RX7) (T := TX7) (N := 9) (ci := 7) (v := .ref (ad 360)) hx hb hts hinX7 hown hK hP (S_mod ad cI cR).1 (S_mod ad cI cR).2 rfl 0 (by decide) (hts (.fieldLink RX7 7 "AdmissionControlModel" "z" "[I") (List.mem_of_getElem? (i := 1) rfl)) (fun _ h9 => h9) rfl dX7_tick_118 ?_
          refine lv_bipush (v := 68) hx hb dX7_tick_121 (by decide) ?_
          refine lv_dup2_11 hx hb dX7_tick_123 rfl rfl ?_
          obtain ⟨hnb, hf⟩ := gd_e hf
          refine w_ald hx hb hK hP (S_z ad cI cR) hnb dX7_tick_124 ?_
          refine lv_iconst (v := 1) hx hb dX7_tick_125 (by decide) ?_
          obtain ⟨v86, ev86, hf⟩ := bd_e hf
          refine lv_iadd hx hb dX7_tick_126 ?_
          refine w_top ev86 ?_
          obtain ⟨hnb, hf⟩ := gd_e hf
          obtain ⟨m87, em87, hf⟩ := bd_e hf
          refine w_ast hx hb hi hA hK hP hS (S_z ad cI cR) hnb dX7_tick_127 (fun H locs hP hS => ?_)
          rw [← em87] at hP
          refine lv_goto (tgt := 147) hx hb dX7_tick_128 (by decide) ?_
          obtain ⟨v88, ev88, hf⟩ := bd_e hf
          refine lv_iinc (v := v88) (lv' := [(2, .int v88), (3, .int r76), (0, .ref (ad 359)), (1, .int x1)]) hx hb dX7_tick_147 hl (k := 3) rfl (by rw [ev88]; rfl) (by decide) rfl (fun ls hl => ?_)
          refine lv_goto (tgt := 98) hx hb dX7_tick_150 (by decide) ?_
          exact ih98 x1 v88 m87 _ _ _ hf hP hS (lv_sub hl [2, 3, 0] rfl)
  have hL78 : ∀ (n : Nat) (x1 : Int32)  (mm : Mem) (H : Heap) (locs : List Loc) (ls : Array Slot), F_X7_tick_L78 fu   n x1 mm = some (r0, m9) → va_P D vwCl (cw ad cI cR mm) H → va_S (AA ad) s.heap H locs → lv_has ls 4 [(0, .ref (ad 359)), (1, .int x1)] → W p l e (headSpec wsX7_tick { frames := 4, cells := 0, slots := 0, locals := 92 }).room s m ([.ref (ad 359)] : List Value).toArray below meth c H locs 0 0 (MQ below (va_Qi (fun (r' : Int32) (u : Mem) => r' = r0 ∧ u = m9) (KB D ad cI cR) (AA ad)) ([.ref (ad 359)] : List Value).toArray s 0 0 (AA ad)) (F0 m 78 ls []) := by
    intro n
    induction n with
    | zero =>
      intro x1 mm H locs ls hf hP hS hl
      rw [F_X7_tick_L78] at hf
      cases hf
    | succ n78 ih78 =>
      intro x1 mm H locs ls hf hP hS hl
      rw [F_X7_tick_L78] at hf
      refine lv_iload_n hx hb dX7_tick_78 rfl (lv_at hl 1 rfl) ?_
      refine lv_iconst (v := 3) hx hb dX7_tick_79 (by decide) ?_
      refine lv_icmp_ge (tgt := 94) hx hb dX7_tick_80 (by decide) (fun c89 => ?_) (fun c89 => ?_)
      · rw [if_pos c89] at hf
        refine lv_iconst (v := 0) hx hb dX7_tick_94 (by decide) ?_
        refine lv_istore_n (lv' := [(1, .int 0), (0, .ref (ad 359))]) hx hb dX7_tick_95 rfl hl (by decide) rfl (fun ls hl => ?_)
        refine lv_iconst (v := 0) hx hb dX7_tick_96 (by decide) ?_
        refine lv_istore_n (lv' := [(2, .int 0), (1, .int 0), (0, .ref (ad 359))]) hx hb dX7_tick_97 rfl hl (by decide) rfl (fun ls hl => ?_)
        exact hL98 fu 0 0 mm _ _ _ hf hP hS (lv_sub hl [2, 1, 0] rfl)
      · rw [if_neg c89] at hf
        refine lv_aload_n hx hb dX7_tick_83 rfl (lv_at hl 0 rfl) ?_
        refine lv_iload_n hx hb dX7_tick_84 rfl (lv_at hl 1 rfl) ?_
        obtain ⟨m90, hq, hf⟩ := ov_e hf
        refine w_cv (va_runV (As := [.int x1]) (rest := []) ⟨hx, hb, hml, hown, hts⟩ (c_X7_refuseLate l D ad cI cR hi fu x1 mm m90 hq) (cwV 1 hts gX7_tick_X7_refuseLate rfl rfl rfl (by decide +kernel) ⟨Nat.le_of_ble_eq_true rfl, Nat.le_of_ble_eq_true rfl⟩) (w_preV (ci := 7) hK hP hN (S_mod ad cI cR).1 (S_mod ad cI cR).2 rfl) rfl rfl hl.1 rfl (lv_room (Nat.le_of_ble_eq_true rfl)) dX7_tick_85 ⟨Nat.zero_le _, Nat.zero_le _⟩) hA hS (fun H locs hP hS => ?_)
        obtain ⟨v91, ev91, hf⟩ := bd_e hf
        refine lv_iinc (v := v91) (lv' := [(1, .int v91), (0, .ref (ad 359))]) hx hb dX7_tick_88 hl (k := 1) rfl (by rw [ev91]; rfl) (by decide) rfl (fun ls hl => ?_)
        refine lv_goto (tgt := 78) hx hb dX7_tick_91 (by decide) ?_
        exact ih78 v91 m90 _ _ _ hf hP hS (lv_sub hl [1, 0] rfl)
  have hL26 : ∀ (n : Nat) (x1 : Int32)  (mm : Mem) (H : Heap) (locs : List Loc) (ls : Array Slot), F_X7_tick_L26 fu   n x1 mm = some (r0, m9) → va_P D vwCl (cw ad cI cR mm) H → va_S (AA ad) s.heap H locs → lv_has ls 4 [(0, .ref (ad 359)), (1, .int x1)] → W p l e (headSpec wsX7_tick { frames := 4, cells := 0, slots := 0, locals := 92 }).room s m ([.ref (ad 359)] : List Value).toArray below meth c H locs 0 0 (MQ below (va_Qi (fun (r' : Int32) (u : Mem) => r' = r0 ∧ u = m9) (KB D ad cI cR) (AA ad)) ([.ref (ad 359)] : List Value).toArray s 0 0 (AA ad)) (F0 m 26 ls []) := by
    intro n
    induction n with
    | zero =>
      intro x1 mm H locs ls hf hP hS hl
      rw [F_X7_tick_L26] at hf
      cases hf
    | succ n26 ih26 =>
      intro x1 mm H locs ls hf hP hS hl
      rw [F_X7_tick_L26] at hf
      refine lv_iload_n hx hb dX7_tick_26 rfl (lv_at hl 1 rfl) ?_
      refine lv_aload_n hx hb dX7_tick_27 rfl (lv_at hl 0 rfl) ?_
      refine w_get (C := RX7) (T := TX7) (N := 9) (ci := 7) (v := .ref (ad 360)) hx hb hts hinX7 hown hK hP (S_mod ad cI cR).1 (S_mod ad cI cR).2 rfl 0 (by decide) (hts (.fieldLink RX7 7 "AdmissionControlModel" "z" "[I") (List.mem_of_getElem? (i := 1) rfl)) (fun _ h9 => h9) rfl dX7_tick_28 ?_
      refine lv_bipush (v := 69) hx hb dX7_tick_31 (by decide) ?_
      obtain ⟨hnb, hf⟩ := gd_e hf
      refine w_ald hx hb hK hP (S_z ad cI cR) hnb dX7_tick_33 ?_
      refine lv_icmp_ge (tgt := 76) hx hb dX7_tick_34 (by decide) (fun c92 => ?_) (fun c92 => ?_)
      · rw [if_pos c92] at hf
        refine lv_iconst (v := 0) hx hb dX7_tick_76 (by decide) ?_
        refine lv_istore_n (lv' := [(1, .int 0), (0, .ref (ad 359))]) hx hb dX7_tick_77 rfl hl (by decide) rfl (fun ls hl => ?_)
        exact hL78 fu 0 mm _ _ _ hf hP hS (lv_sub hl [1, 0] rfl)
      · rw [if_neg c92] at hf
        refine lv_aload_n hx hb dX7_tick_37 rfl (lv_at hl 0 rfl) ?_
        refine lv_iload_n hx hb dX7_tick_38 rfl (lv_at hl 1 rfl) ?_
        refine lv_iconst (v := 3) hx hb dX7_tick_39 (by decide) ?_
        obtain ⟨r93, m94, hq, hf⟩ := ob_e hf
        refine w_ci (va_runV (As := [.int x1, .int 3]) (rest := []) ⟨hx, hb, hml, hown, hts⟩ (c_X7_of l D ad cI cR hi fu x1 3 mm r93 m94 hq) (cwV 2 hts gX7_tick_X7_of rfl rfl rfl (by decide +kernel) ⟨Nat.le_of_ble_eq_true rfl, Nat.le_of_ble_eq_true rfl⟩) (w_preV (ci := 7) hK hP hN (S_mod ad cI cR).1 (S_mod ad cI cR).2 rfl) rfl rfl hl.1 rfl (lv_room (Nat.le_of_ble_eq_true rfl)) dX7_tick_40 ⟨Nat.zero_le _, Nat.zero_le _⟩) hA hS (fun H locs hP hS => ?_)
        refine lv_iconst (v := 3) hx hb dX7_tick_43 (by decide) ?_
        refine lv_icmp_ne (tgt := 70) hx hb dX7_tick_44 (by decide) (fun c95 => ?_) (fun c95 => ?_)
        · rw [if_neg c95] at hf
          obtain ⟨v96, ev96, hf⟩ := bd_e hf
          refine lv_iinc (v := v96) (lv' := [(1, .int v96), (0, .ref (ad 359))]) hx hb dX7_tick_70 hl (k := 1) rfl (by rw [ev96]; rfl) (by decide) rfl (fun ls hl => ?_)
          refine lv_goto (tgt := 26) hx hb dX7_tick_73 (by decide) ?_
          exact ih26 v96 m94 _ _ _ hf hP hS (lv_sub hl [1, 0] rfl)
        · rw [if_pos c95] at hf
          refine lv_aload_n hx hb dX7_tick_47 rfl (lv_at hl 0 rfl) ?_
          refine lv_iload_n hx hb dX7_tick_48 rfl (lv_at hl 1 rfl) ?_
          refine lv_bipush (v := 8) hx hb dX7_tick_49 (by decide) ?_
          obtain ⟨r97, m98, hq, hf⟩ := ob_e hf
          refine w_ci (va_runV (As := [.int x1, .int 8]) (rest := []) ⟨hx, hb, hml, hown, hts⟩ (c_X7_of l D ad cI cR hi fu x1 8 m94 r97 m98 hq) (cwV 2 hts gX7_tick_X7_of rfl rfl rfl (by decide +kernel) ⟨Nat.le_of_ble_eq_true rfl, Nat.le_of_ble_eq_true rfl⟩) (w_preV (ci := 7) hK hP hN (S_mod ad cI cR).1 (S_mod ad cI cR).2 rfl) rfl rfl hl.1 rfl (lv_room (Nat.le_of_ble_eq_true rfl)) dX7_tick_51 ⟨Nat.zero_le _, Nat.zero_le _⟩) hA hS (fun H locs hP hS => ?_)
          refine lv_aload_n hx hb dX7_tick_54 rfl (lv_at hl 0 rfl) ?_
          refine w_get (C := RX7) (T := TX7) (N := 9) (ci := 7) (v := .ref (ad 360)) hx hb hts hinX7 hown hK hP (S_mod ad cI cR).1 (S_mod ad cI cR).2 rfl 0 (by decide) (hts (.fieldLink RX7 7 "AdmissionControlModel" "z" "[I") (List.mem_of_getElem? (i := 1) rfl)) (fun _ h9 => h9) rfl dX7_tick_55 ?_
          refine lv_bipush (v := 67) hx hb dX7_tick_58 (by decide) ?_
          obtain ⟨hnb, hf⟩ := gd_e hf
          refine w_ald hx hb hK hP (S_z ad cI cR) hnb dX7_tick_60 ?_
          refine lv_icmp_gt (tgt := 70) hx hb dX7_tick_61 (by decide) (fun c99 => ?_) (fun c99 => ?_)
          · rw [if_pos c99] at hf
            obtain ⟨v100, ev100, hf⟩ := bd_e hf
            refine lv_iinc (v := v100) (lv' := [(1, .int v100), (0, .ref (ad 359))]) hx hb dX7_tick_70 hl (k := 1) rfl (by rw [ev100]; rfl) (by decide) rfl (fun ls hl => ?_)
            refine lv_goto (tgt := 26) hx hb dX7_tick_73 (by decide) ?_
            exact ih26 v100 m98 _ _ _ hf hP hS (lv_sub hl [1, 0] rfl)
          · rw [if_neg c99] at hf
            refine lv_aload_n hx hb dX7_tick_64 rfl (lv_at hl 0 rfl) ?_
            refine lv_iload_n hx hb dX7_tick_65 rfl (lv_at hl 1 rfl) ?_
            obtain ⟨r101, m102, hq, hf⟩ := ob_e hf
            refine w_ci (va_runV (As := [.int x1]) (rest := []) ⟨hx, hb, hml, hown, hts⟩ (c_X7_offerNow l D ad cI cR hi fu x1 m98 r101 m102 hq) (cwV 1 hts gX7_tick_X7_offerNow rfl rfl rfl (by decide +kernel) ⟨Nat.le_of_ble_eq_true rfl, Nat.le_of_ble_eq_true rfl⟩) (w_preV (ci := 7) hK hP hN (S_mod ad cI cR).1 (S_mod ad cI cR).2 rfl) rfl rfl hl.1 rfl (lv_room (Nat.le_of_ble_eq_true rfl)) dX7_tick_66 ⟨Nat.zero_le _, Nat.zero_le _⟩) hA hS (fun H locs hP hS => ?_)
            refine lv_pop hx hb dX7_tick_69 rfl ?_
            obtain ⟨v103, ev103, hf⟩ := bd_e hf
            refine lv_iinc (v := v103) (lv' := [(1, .int v103), (0, .ref (ad 359))]) hx hb dX7_tick_70 hl (k := 1) rfl (by rw [ev103]; rfl) (by decide) rfl (fun ls hl => ?_)
            refine lv_goto (tgt := 26) hx hb dX7_tick_73 (by decide) ?_
            exact ih26 v103 m102 _ _ _ hf hP hS (lv_sub hl [1, 0] rfl)
  have hL2 : ∀ (n : Nat) (x1 : Int32)  (mm : Mem) (H : Heap) (locs : List Loc) (ls : Array Slot), F_X7_tick_L2 fu   n x1 mm = some (r0, m9) → va_P D vwCl (cw ad cI cR mm) H → va_S (AA ad) s.heap H locs → lv_has ls 4 [(0, .ref (ad 359)), (1, .int x1)] → W p l e (headSpec wsX7_tick { frames := 4, cells := 0, slots := 0, locals := 92 }).room s m ([.ref (ad 359)] : List Value).toArray below meth c H locs 0 0 (MQ below (va_Qi (fun (r' : Int32) (u : Mem) => r' = r0 ∧ u = m9) (KB D ad cI cR) (AA ad)) ([.ref (ad 359)] : List Value).toArray s 0 0 (AA ad)) (F0 m 2 ls []) := by
    intro n
    induction n with
    | zero =>
      intro x1 mm H locs ls hf hP hS hl
      rw [F_X7_tick_L2] at hf
      cases hf
    | succ n2 ih2 =>
      intro x1 mm H locs ls hf hP hS hl
      rw [F_X7_tick_L2] at hf
      refine lv_iload_n hx hb dX7_tick_2 rfl (lv_at hl 1 rfl) ?_
      refine lv_iconst (v := 3) hx hb dX7_tick_3 (by decide) ?_
      refine lv_icmp_ge (tgt := 24) hx hb dX7_tick_4 (by decide) (fun c104 => ?_) (fun c104 => ?_)
      · rw [if_pos c104] at hf
        refine lv_iconst (v := 0) hx hb dX7_tick_24 (by decide) ?_
        refine lv_istore_n (lv' := [(1, .int 0), (0, .ref (ad 359))]) hx hb dX7_tick_25 rfl hl (by decide) rfl (fun ls hl => ?_)
        exact hL26 fu 0 mm _ _ _ hf hP hS (lv_sub hl [1, 0] rfl)
      · rw [if_neg c104] at hf
        refine lv_aload_n hx hb dX7_tick_7 rfl (lv_at hl 0 rfl) ?_
        refine lv_iload_n hx hb dX7_tick_8 rfl (lv_at hl 1 rfl) ?_
        refine lv_aload_n hx hb dX7_tick_9 rfl (lv_at hl 0 rfl) ?_
        refine lv_iload_n hx hb dX7_tick_10 rfl (lv_at hl 1 rfl) ?_
        refine lv_iconst (v := 1) hx hb dX7_tick_11 (by decide) ?_
        obtain ⟨r105, m106, hq, hf⟩ := ob_e hf
        refine w_ci (va_runV (As := [.int x1, .int 1]) (rest := [.int x1, .ref (ad 359)]) ⟨hx, hb, hml, hown, hts⟩ (c_X7_ofClass l D ad cI cR hi fu x1 1 mm r105 m106 hq) (cwV 2 hts gX7_tick_X7_ofClass rfl rfl rfl (by decide +kernel) ⟨Nat.le_of_ble_eq_true rfl, Nat.le_of_ble_eq_true rfl⟩) (w_preV (ci := 7) hK hP hN (S_mod ad cI cR).1 (S_mod ad cI cR).2 rfl) rfl rfl hl.1 rfl (lv_room (Nat.le_of_ble_eq_true rfl)) dX7_tick_12 ⟨Nat.zero_le _, Nat.zero_le _⟩) hA hS (fun H locs hP hS => ?_)
        obtain ⟨m107, hq, hf⟩ := ov_e hf
        refine w_cv (va_runV (As := [.int x1, .int r105]) (rest := []) ⟨hx, hb, hml, hown, hts⟩ (c_X7_addTokens l D ad cI cR hi fu x1 r105 m106 m107 hq) (cwV 2 hts gX7_tick_X7_addTokens rfl rfl rfl (by decide +kernel) ⟨Nat.le_of_ble_eq_true rfl, Nat.le_of_ble_eq_true rfl⟩) (w_preV (ci := 7) hK hP hN (S_mod ad cI cR).1 (S_mod ad cI cR).2 rfl) rfl rfl hl.1 rfl (lv_room (Nat.le_of_ble_eq_true rfl)) dX7_tick_15 ⟨Nat.zero_le _, Nat.zero_le _⟩) hA hS (fun H locs hP hS => ?_)
        obtain ⟨v108, ev108, hf⟩ := bd_e hf
        refine lv_iinc (v := v108) (lv' := [(1, .int v108), (0, .ref (ad 359))]) hx hb dX7_tick_18 hl (k := 1) rfl (by rw [ev108]; rfl) (by decide) rfl (fun ls hl => ?_)
        refine lv_goto (tgt := 2) hx hb dX7_tick_21 (by decide) ?_
        exact ih2 v108 m107 _ _ _ hf hP hS (lv_sub hl [1, 0] rfl)
  have hl := lv_entry ([.ref (ad 359)]) (n := 4) (Nat.le_of_ble_eq_true rfl)
  rw [lg_entry_eq]
  generalize (lg_sl ([.ref (ad 359)]) ++ List.replicate (4 - (lg_sl ([.ref (ad 359)])).length) Slot.unset).toArray = ls at hl ⊢
  have hl : lv_has ls 4 [(0, .ref (ad 359))] := hl
  unfold F_X7_tick at hf
  refine lv_iconst (v := 0) hx hb dX7_tick_0 (by decide) ?_
  refine lv_istore_n (lv' := [(1, .int 0), (0, .ref (ad 359))]) hx hb dX7_tick_1 rfl hl (by decide) rfl (fun ls hl => ?_)
  exact hL2 fu 0 mm _ _ _ hf hP hS (lv_sub hl [1, 0] rfl)
def F_X7_lowest (fu : Nat) (a1 : Int32) (mm : Mem) : Option (Int32 × Mem) := if a1 = 3 then (some (0, mm)) else (some (1, mm))
set_option maxHeartbeats 4000000 in
set_option maxRecDepth 100000 in
theorem c_X7_lowest (l : Launch) (D : va_G) (ad : Nat → Nat) (cI cR : ClassId) (hi : inj ad) (fu : Nat) (a1 : Int32)  (mm : Mem) (r0 : Int32) (m9 : Mem) (hf : F_X7_lowest fu a1 mm = some (r0, m9)) : MI l yX7_lowest wsX7_lowest { frames := 0, cells := 0, slots := 0, locals := 0 } D ad cI cR [.int a1] mm r0 m9 := by
  refine Met.ofW (cc := cX7_lowest) (maxL := 1) (ret := (some .int)) (by decide) rfl ?_
  intro p e s m args below meth c s₁ B hml hv
  obtain ⟨rfl, hP, hK, hN⟩ := hv
  have hx := B.exec
  have hb := B.bytes
  have hr := B.returns
  have hts := atoms_spec (ws := wsX7_lowest) B.pre
  have hown : s.vm.findClass RX7 = some m.cls := findClass_of_methodNamed B.named
  have hlocks := B.notSynchronized
  have hA : ∀ q, AA ad q → AA ad q := fun _ h => h
  have hS : va_S (AA ad) s.heap s.heap [] := va_S.rf
  have hl := lv_entry ([.int a1]) (n := 1) (Nat.le_of_ble_eq_true rfl)
  rw [lg_entry_eq]
  generalize (lg_sl ([.int a1]) ++ List.replicate (1 - (lg_sl ([.int a1])).length) Slot.unset).toArray = ls at hl ⊢
  have hl : lv_has ls 1 [(0, .int a1)] := hl
  unfold F_X7_lowest at hf
  refine lv_iload_n hx hb dX7_lowest_0 rfl (lv_at hl 0 rfl) ?_
  refine lv_iconst (v := 3) hx hb dX7_lowest_1 (by decide) ?_
  refine lv_icmp_ne (tgt := 9) hx hb dX7_lowest_2 (by decide) (fun c2 => ?_) (fun c2 => ?_)
  · rw [if_neg c2] at hf
    refine lv_iconst (v := 1) hx hb dX7_lowest_9 (by decide) ?_
    cases hf
    exact w_iret hx hb hr hlocks hP hS dX7_lowest_10
  · rw [if_pos c2] at hf
    refine lv_iconst (v := 0) hx hb dX7_lowest_5 (by decide) ?_
    refine lv_goto (tgt := 10) hx hb dX7_lowest_6 (by decide) ?_
    cases hf
    exact w_iret hx hb hr hlocks hP hS dX7_lowest_10
def F_X7_highest (fu : Nat) (a1 : Int32) (mm : Mem) : Option (Int32 × Mem) := if a1 = 1 then (some (60, mm)) else (if a1 = 3 then (some (4, mm)) else (some (20, mm)))
set_option maxHeartbeats 4000000 in
set_option maxRecDepth 100000 in
theorem c_X7_highest (l : Launch) (D : va_G) (ad : Nat → Nat) (cI cR : ClassId) (hi : inj ad) (fu : Nat) (a1 : Int32)  (mm : Mem) (r0 : Int32) (m9 : Mem) (hf : F_X7_highest fu a1 mm = some (r0, m9)) : MI l yX7_highest wsX7_highest { frames := 0, cells := 0, slots := 0, locals := 0 } D ad cI cR [.int a1] mm r0 m9 := by
  refine Met.ofW (cc := cX7_highest) (maxL := 1) (ret := (some .int)) (by decide) rfl ?_
  intro p e s m args below meth c s₁ B hml hv
  obtain ⟨rfl, hP, hK, hN⟩ := hv
  have hx := B.exec
  have hb := B.bytes
  have hr := B.returns
  have hts := atoms_spec (ws := wsX7_highest) B.pre
  have hown : s.vm.findClass RX7 = some m.cls := findClass_of_methodNamed B.named
  have hlocks := B.notSynchronized
  have hA : ∀ q, AA ad q → AA ad q := fun _ h => h
  have hS : va_S (AA ad) s.heap s.heap [] := va_S.rf
  have hl := lv_entry ([.int a1]) (n := 1) (Nat.le_of_ble_eq_true rfl)
  rw [lg_entry_eq]
  generalize (lg_sl ([.int a1]) ++ List.replicate (1 - (lg_sl ([.int a1])).length) Slot.unset).toArray = ls at hl ⊢
  have hl : lv_has ls 1 [(0, .int a1)] := hl
  unfold F_X7_highest at hf
  refine lv_iload_n hx hb dX7_highest_0 rfl (lv_at hl 0 rfl) ?_
  refine lv_iconst (v := 1) hx hb dX7_highest_1 (by decide) ?_
  refine lv_icmp_ne (tgt := 10) hx hb dX7_highest_2 (by decide) (fun c3 => ?_) (fun c3 => ?_)
  · rw [if_neg c3] at hf
    refine lv_iload_n hx hb dX7_highest_10 rfl (lv_at hl 0 rfl) ?_
    refine lv_iconst (v := 3) hx hb dX7_highest_11 (by decide) ?_
    refine lv_icmp_ne (tgt := 19) hx hb dX7_highest_12 (by decide) (fun c4 => ?_) (fun c4 => ?_)
    · rw [if_neg c4] at hf
      refine lv_bipush (v := 20) hx hb dX7_highest_19 (by decide) ?_
      cases hf
      exact w_iret hx hb hr hlocks hP hS dX7_highest_21
    · rw [if_pos c4] at hf
      refine lv_iconst (v := 4) hx hb dX7_highest_15 (by decide) ?_
      refine lv_goto (tgt := 21) hx hb dX7_highest_16 (by decide) ?_
      cases hf
      exact w_iret hx hb hr hlocks hP hS dX7_highest_21
  · rw [if_pos c3] at hf
    refine lv_bipush (v := 60) hx hb dX7_highest_5 (by decide) ?_
    refine lv_goto (tgt := 21) hx hb dX7_highest_7 (by decide) ?_
    cases hf
    exact w_iret hx hb hr hlocks hP hS dX7_highest_21
def F_X7_set (fu : Nat) (a1 : Int32) (a2 : Int32) (mm : Mem) : Option (Int32 × Mem) := ob (F_X7_in fu a1 0 3 mm) fun r15 m16 => if r15 = 0 then (some ((-100001), m16)) else (ob (F_X7_lowest fu a1 m16) fun r18 m19 => ob (F_X7_highest fu a1 m19) fun r20 m21 => ob (F_X7_in fu a2 r18 r20 m21) fun r22 m23 => if r22 = 0 then (some ((-100002), m23)) else (ov (F_X7_record fu  m23) fun m25 => bd (0 + a1) fun v26 => gd (inb v26 395) (bd (0 + a1) fun v27 => gd (inb v27 395) (bd (mput m25 360 v27.toNatClampNeg a2) fun m28 => some ((m25 360 v26.toNatClampNeg), m28)))))
set_option maxHeartbeats 4000000 in
set_option maxRecDepth 100000 in
theorem c_X7_set (l : Launch) (D : va_G) (ad : Nat → Nat) (cI cR : ClassId) (hi : inj ad) (fu : Nat) (a1 : Int32) (a2 : Int32)  (mm : Mem) (r0 : Int32) (m9 : Mem) (hf : F_X7_set fu a1 a2 mm = some (r0, m9)) : MI l yX7_set wsX7_set { frames := 1, cells := 0, slots := 0, locals := 22 } D ad cI cR [.ref (ad 359), .int a1, .int a2] mm r0 m9 := by
  refine Met.ofW (cc := cX7_set) (maxL := 4) (ret := (some .int)) (by decide) rfl ?_
  intro p e s m args below meth c s₁ B hml hv
  obtain ⟨rfl, hP, hK, hN⟩ := hv
  have hx := B.exec
  have hb := B.bytes
  have hr := B.returns
  have hts := atoms_spec (ws := wsX7_set) B.pre
  have hown : s.vm.findClass RX7 = some m.cls := findClass_of_methodNamed B.named
  have hlocks := B.notSynchronized
  have hA : ∀ q, AA ad q → AA ad q := fun _ h => h
  have hS : va_S (AA ad) s.heap s.heap [] := va_S.rf
  have hinX7 : ∀ w ∈ wsX70, w ∈ wsX7_set := (fun _ h => List.mem_cons_of_mem _ (List.mem_append_right _ h))
  have hl := lv_entry ([.ref (ad 359), .int a1, .int a2]) (n := 4) (Nat.le_of_ble_eq_true rfl)
  rw [lg_entry_eq]
  generalize (lg_sl ([.ref (ad 359), .int a1, .int a2]) ++ List.replicate (4 - (lg_sl ([.ref (ad 359), .int a1, .int a2])).length) Slot.unset).toArray = ls at hl ⊢
  have hl : lv_has ls 4 [(0, .ref (ad 359)), (1, .int a1), (2, .int a2)] := hl
  unfold F_X7_set at hf
  refine lv_iload_n hx hb dX7_set_0 rfl (lv_at hl 1 rfl) ?_
  refine lv_iconst (v := 0) hx hb dX7_set_1 (by decide) ?_
  refine lv_iconst (v := 3) hx hb dX7_set_2 (by decide) ?_
  obtain ⟨r15, m16, hq, hf⟩ := ob_e hf
  refine w_ci (va_runS (As := [.int a1, .int 0, .int 3]) (rest := []) ⟨hx, hb, hml, hown, hts⟩ (c_X7_in l D ad cI cR hi fu a1 0 3 mm r15 m16 hq) (va_cwS 3 hts gX7_set_X7_in rfl rfl rfl (by decide +kernel) ⟨Nat.le_of_ble_eq_true rfl, Nat.le_of_ble_eq_true rfl⟩) (w_preS hK hP hN) rfl rfl hl.1 rfl (lv_room (Nat.le_of_ble_eq_true rfl)) dX7_set_3 ⟨Nat.zero_le _, Nat.zero_le _⟩) hA hS (fun H locs hP hS => ?_)
  refine lv_if_ne (tgt := 12) hx hb dX7_set_6 (by decide) (fun c17 => ?_) (fun c17 => ?_)
  · rw [if_neg c17] at hf
    refine lv_iload_n hx hb dX7_set_12 rfl (lv_at hl 2 rfl) ?_
    refine lv_iload_n hx hb dX7_set_13 rfl (lv_at hl 1 rfl) ?_
    obtain ⟨r18, m19, hq, hf⟩ := ob_e hf
    refine w_ci (va_runS (As := [.int a1]) (rest := [.int a2]) ⟨hx, hb, hml, hown, hts⟩ (c_X7_lowest l D ad cI cR hi fu a1 m16 r18 m19 hq) (va_cwS 1 hts gX7_set_X7_lowest rfl rfl rfl (by decide +kernel) ⟨Nat.le_of_ble_eq_true rfl, Nat.le_of_ble_eq_true rfl⟩) (w_preS hK hP hN) rfl rfl hl.1 rfl (lv_room (Nat.le_of_ble_eq_true rfl)) dX7_set_14 ⟨Nat.zero_le _, Nat.zero_le _⟩) hA hS (fun H locs hP hS => ?_)
    refine lv_iload_n hx hb dX7_set_17 rfl (lv_at hl 1 rfl) ?_
    obtain ⟨r20, m21, hq, hf⟩ := ob_e hf
    refine w_ci (va_runS (As := [.int a1]) (rest := [.int r18, .int a2]) ⟨hx, hb, hml, hown, hts⟩ (c_X7_highest l D ad cI cR hi fu a1 m19 r20 m21 hq) (va_cwS 1 hts gX7_set_X7_highest rfl rfl rfl (by decide +kernel) ⟨Nat.le_of_ble_eq_true rfl, Nat.le_of_ble_eq_true rfl⟩) (w_preS hK hP hN) rfl rfl hl.1 rfl (lv_room (Nat.le_of_ble_eq_true rfl)) dX7_set_18 ⟨Nat.zero_le _, Nat.zero_le _⟩) hA hS (fun H locs hP hS => ?_)
    obtain ⟨r22, m23, hq, hf⟩ := ob_e hf
    refine w_ci (va_runS (As := [.int a2, .int r18, .int r20]) (rest := []) ⟨hx, hb, hml, hown, hts⟩ (c_X7_in l D ad cI cR hi fu a2 r18 r20 m21 r22 m23 hq) (va_cwS 3 hts gX7_set_X7_in rfl rfl rfl (by decide +kernel) ⟨Nat.le_of_ble_eq_true rfl, Nat.le_of_ble_eq_true rfl⟩) (w_preS hK hP hN) rfl rfl hl.1 rfl (lv_room (Nat.le_of_ble_eq_true rfl)) dX7_set_21 ⟨Nat.zero_le _, Nat.zero_le _⟩) hA hS (fun H locs hP hS => ?_)
    refine lv_if_ne (tgt := 30) hx hb dX7_set_24 (by decide) (fun c24 => ?_) (fun c24 => ?_)
    · rw [if_neg c24] at hf
      refine lv_aload_n hx hb dX7_set_30 rfl (lv_at hl 0 rfl) ?_
      obtain ⟨m25, hq, hf⟩ := ov_e hf
      refine w_cv (va_runV (As := []) (rest := []) ⟨hx, hb, hml, hown, hts⟩ (c_X7_record l D ad cI cR hi fu  m23 m25 hq) (cwV 0 hts gX7_set_X7_record rfl rfl rfl (by decide +kernel) ⟨Nat.le_of_ble_eq_true rfl, Nat.le_of_ble_eq_true rfl⟩) (w_preV (ci := 7) hK hP hN (S_mod ad cI cR).1 (S_mod ad cI cR).2 rfl) rfl rfl hl.1 rfl (lv_room (Nat.le_of_ble_eq_true rfl)) dX7_set_31 ⟨Nat.zero_le _, Nat.zero_le _⟩) hA hS (fun H locs hP hS => ?_)
      refine lv_aload_n hx hb dX7_set_34 rfl (lv_at hl 0 rfl) ?_
      refine w_get (C := RX7) (T := TX7) (N := 9) (ci := 7) (v := .ref (ad 360)) hx hb hts hinX7 hown hK hP (S_mod ad cI cR).1 (S_mod ad cI cR).2 rfl 0 (by decide) (hts (.fieldLink RX7 7 "AdmissionControlModel" "z" "[I") (List.mem_of_getElem? (i := 3) rfl)) (fun _ h9 => h9) rfl dX7_set_35 ?_
      refine lv_iconst (v := 0) hx hb dX7_set_38 (by decide) ?_
      refine lv_iload_n hx hb dX7_set_39 rfl (lv_at hl 1 rfl) ?_
      obtain ⟨v26, ev26, hf⟩ := bd_e hf
      refine lv_iadd hx hb dX7_set_40 ?_
      refine w_top ev26 ?_
      obtain ⟨hnb, hf⟩ := gd_e hf
      refine w_ald hx hb hK hP (S_z ad cI cR) hnb dX7_set_41 ?_
      refine lv_istore_n (lv' := [(3, .int (m25 360 v26.toNatClampNeg)), (0, .ref (ad 359)), (1, .int a1), (2, .int a2)]) hx hb dX7_set_42 rfl hl (by decide) rfl (fun ls hl => ?_)
      refine lv_aload_n hx hb dX7_set_43 rfl (lv_at hl 1 rfl) ?_
      refine w_get (C := RX7) (T := TX7) (N := 9) (ci := 7) (v := .ref (ad 360)) hx hb hts hinX7 hown hK hP (S_mod ad cI cR).1 (S_mod ad cI cR).2 rfl 0 (by decide) (hts (.fieldLink RX7 7 "AdmissionControlModel" "z" "[I") (List.mem_of_getElem? (i := 3) rfl)) (fun _ h9 => h9) rfl dX7_set_44 ?_
      refine lv_iconst (v := 0) hx hb dX7_set_47 (by decide) ?_
      refine lv_iload_n hx hb dX7_set_48 rfl (lv_at hl 2 rfl) ?_
      obtain ⟨v27, ev27, hf⟩ := bd_e hf
      refine lv_iadd hx hb dX7_set_49 ?_
      refine w_top ev27 ?_
      refine lv_iload_n hx hb dX7_set_50 rfl (lv_at hl 3 rfl) ?_
      obtain ⟨hnb, hf⟩ := gd_e hf
      obtain ⟨m28, em28, hf⟩ := bd_e hf
      refine w_ast hx hb hi hA hK hP hS (S_z ad cI cR) hnb dX7_set_51 (fun H locs hP hS => ?_)
      rw [← em28] at hP
      refine lv_iload_n hx hb dX7_set_52 rfl (lv_at hl 0 rfl) ?_
      cases hf
      exact w_iret hx hb hr hlocks hP hS dX7_set_53
    · rw [if_pos c24] at hf
      refine lv_ldc (v := (-100002)) hx hb hown (hts (.constant RX7 90 (-100002)) (List.mem_of_getElem? (i := 2) rfl)) dX7_set_27 ?_
      cases hf
      exact w_iret hx hb hr hlocks hP hS dX7_set_29
  · rw [if_pos c17] at hf
    refine lv_ldc (v := (-100001)) hx hb hown (hts (.constant RX7 83 (-100001)) (List.mem_of_getElem? (i := 1) rfl)) dX7_set_9 ?_
    cases hf
    exact w_iret hx hb hr hlocks hP hS dX7_set_11
def F_X7_highestOfClass (fu : Nat) (a1 : Int32) (mm : Mem) : Option (Int32 × Mem) := if a1 = 0 then (some (9, mm)) else (if a1 = 1 then (some (20, mm)) else (some (99, mm)))
set_option maxHeartbeats 4000000 in
set_option maxRecDepth 100000 in
theorem c_X7_highestOfClass (l : Launch) (D : va_G) (ad : Nat → Nat) (cI cR : ClassId) (hi : inj ad) (fu : Nat) (a1 : Int32)  (mm : Mem) (r0 : Int32) (m9 : Mem) (hf : F_X7_highestOfClass fu a1 mm = some (r0, m9)) : MI l yX7_highestOfClass wsX7_highestOfClass { frames := 0, cells := 0, slots := 0, locals := 0 } D ad cI cR [.int a1] mm r0 m9 := by
  refine Met.ofW (cc := cX7_highestOfClass) (maxL := 1) (ret := (some .int)) (by decide) rfl ?_
  intro p e s m args below meth c s₁ B hml hv
  obtain ⟨rfl, hP, hK, hN⟩ := hv
  have hx := B.exec
  have hb := B.bytes
  have hr := B.returns
  have hts := atoms_spec (ws := wsX7_highestOfClass) B.pre
  have hown : s.vm.findClass RX7 = some m.cls := findClass_of_methodNamed B.named
  have hlocks := B.notSynchronized
  have hA : ∀ q, AA ad q → AA ad q := fun _ h => h
  have hS : va_S (AA ad) s.heap s.heap [] := va_S.rf
  have hl := lv_entry ([.int a1]) (n := 1) (Nat.le_of_ble_eq_true rfl)
  rw [lg_entry_eq]
  generalize (lg_sl ([.int a1]) ++ List.replicate (1 - (lg_sl ([.int a1])).length) Slot.unset).toArray = ls at hl ⊢
  have hl : lv_has ls 1 [(0, .int a1)] := hl
  unfold F_X7_highestOfClass at hf
  refine lv_iload_n hx hb dX7_highestOfClass_0 rfl (lv_at hl 0 rfl) ?_
  refine lv_if_ne (tgt := 9) hx hb dX7_highestOfClass_1 (by decide) (fun c3 => ?_) (fun c3 => ?_)
  · rw [if_neg c3] at hf
    refine lv_iload_n hx hb dX7_highestOfClass_9 rfl (lv_at hl 0 rfl) ?_
    refine lv_iconst (v := 1) hx hb dX7_highestOfClass_10 (by decide) ?_
    refine lv_icmp_ne (tgt := 19) hx hb dX7_highestOfClass_11 (by decide) (fun c4 => ?_) (fun c4 => ?_)
    · rw [if_neg c4] at hf
      refine lv_bipush (v := 99) hx hb dX7_highestOfClass_19 (by decide) ?_
      cases hf
      exact w_iret hx hb hr hlocks hP hS dX7_highestOfClass_21
    · rw [if_pos c4] at hf
      refine lv_bipush (v := 20) hx hb dX7_highestOfClass_14 (by decide) ?_
      refine lv_goto (tgt := 21) hx hb dX7_highestOfClass_16 (by decide) ?_
      cases hf
      exact w_iret hx hb hr hlocks hP hS dX7_highestOfClass_21
  · rw [if_pos c3] at hf
    refine lv_bipush (v := 9) hx hb dX7_highestOfClass_4 (by decide) ?_
    refine lv_goto (tgt := 21) hx hb dX7_highestOfClass_6 (by decide) ?_
    cases hf
    exact w_iret hx hb hr hlocks hP hS dX7_highestOfClass_21
def F_X7_setClass_L30 (fu : Nat) (a1 : Int32) (a2 : Int32) (a3 : Int32)  (p0 : Int32) (mm : Mem) : Option (Int32 × Mem) := ob (F_X7_highestOfClass fu a2 mm) fun r32 m33 => ob (F_X7_in fu a3 p0 r32 m33) fun r34 m35 => if r34 = 0 then (some ((-100002), m35)) else (ov (F_X7_record fu  m35) fun m37 => ob (F_X7_ofClass fu a1 a2 m37) fun r38 m39 => bd (4 * a1) fun v40 => bd (4 + v40) fun v41 => bd (v41 + a2) fun v42 => gd (inb v42 395) (bd (mput m39 360 v42.toNatClampNeg a3) fun m43 => some (r38, m43)))
def F_X7_setClass (fu : Nat) (a1 : Int32) (a2 : Int32) (a3 : Int32) (mm : Mem) : Option (Int32 × Mem) := ob (F_X7_isClass fu a1 mm) fun r44 m45 => if r44 = 0 then (some ((-100001), m45)) else (ob (F_X7_in fu a2 0 3 m45) fun r47 m48 => if r47 = 0 then (some ((-100001), m48)) else (if a2 = 1 then (F_X7_setClass_L30 fu a1 a2 a3 0 m48) else (F_X7_setClass_L30 fu a1 a2 a3 1 m48)))
set_option maxHeartbeats 4000000 in
set_option maxRecDepth 100000 in
theorem c_X7_setClass (l : Launch) (D : va_G) (ad : Nat → Nat) (cI cR : ClassId) (hi : inj ad) (fu : Nat) (a1 : Int32) (a2 : Int32) (a3 : Int32)  (mm : Mem) (r0 : Int32) (m9 : Mem) (hf : F_X7_setClass fu a1 a2 a3 mm = some (r0, m9)) : MI l yX7_setClass wsX7_setClass { frames := 2, cells := 0, slots := 0, locals := 42 } D ad cI cR [.ref (ad 359), .int a1, .int a2, .int a3] mm r0 m9 := by
  refine Met.ofW (cc := cX7_setClass) (maxL := 5) (ret := (some .int)) (by decide) rfl ?_
  intro p e s m args below meth c s₁ B hml hv
  obtain ⟨rfl, hP, hK, hN⟩ := hv
  have hx := B.exec
  have hb := B.bytes
  have hr := B.returns
  have hts := atoms_spec (ws := wsX7_setClass) B.pre
  have hown : s.vm.findClass RX7 = some m.cls := findClass_of_methodNamed B.named
  have hlocks := B.notSynchronized
  have hA : ∀ q, AA ad q → AA ad q := fun _ h => h
  have hS : va_S (AA ad) s.heap s.heap [] := va_S.rf
  have hinX7 : ∀ w ∈ wsX70, w ∈ wsX7_setClass := (fun _ h => List.mem_cons_of_mem _ (List.mem_append_right _ h))
  have hL30 : ∀ (p0 : Int32)  (mm : Mem) (H : Heap) (locs : List Loc) (ls : Array Slot), F_X7_setClass_L30 fu a1 a2 a3  p0 mm = some (r0, m9) → va_P D vwCl (cw ad cI cR mm) H → va_S (AA ad) s.heap H locs → lv_has ls 5 [(0, .ref (ad 359)), (1, .int a1), (2, .int a2), (3, .int a3)] → W p l e (headSpec wsX7_setClass { frames := 2, cells := 0, slots := 0, locals := 42 }).room s m ([.ref (ad 359), .int a1, .int a2, .int a3] : List Value).toArray below meth c H locs 0 0 (MQ below (va_Qi (fun (r' : Int32) (u : Mem) => r' = r0 ∧ u = m9) (KB D ad cI cR) (AA ad)) ([.ref (ad 359), .int a1, .int a2, .int a3] : List Value).toArray s 0 0 (AA ad)) (F0 m 30 ls [.int p0, .int a3]) := by
    intro p0 mm H locs ls hf hP hS hl
    unfold F_X7_setClass_L30 at hf
    refine lv_iload_n hx hb dX7_setClass_30 rfl (lv_at hl 2 rfl) ?_
    obtain ⟨r32, m33, hq, hf⟩ := ob_e hf
    refine w_ci (va_runS (As := [.int a2]) (rest := [.int p0, .int a3]) ⟨hx, hb, hml, hown, hts⟩ (c_X7_highestOfClass l D ad cI cR hi fu a2 mm r32 m33 hq) (va_cwS 1 hts gX7_setClass_X7_highestOfClass rfl rfl rfl (by decide +kernel) ⟨Nat.le_of_ble_eq_true rfl, Nat.le_of_ble_eq_true rfl⟩) (w_preS hK hP hN) rfl rfl hl.1 rfl (lv_room (Nat.le_of_ble_eq_true rfl)) dX7_setClass_31 ⟨Nat.zero_le _, Nat.zero_le _⟩) hA hS (fun H locs hP hS => ?_)
    obtain ⟨r34, m35, hq, hf⟩ := ob_e hf
    refine w_ci (va_runS (As := [.int a3, .int p0, .int r32]) (rest := []) ⟨hx, hb, hml, hown, hts⟩ (c_X7_in l D ad cI cR hi fu a3 p0 r32 m33 r34 m35 hq) (va_cwS 3 hts gX7_setClass_X7_in rfl rfl rfl (by decide +kernel) ⟨Nat.le_of_ble_eq_true rfl, Nat.le_of_ble_eq_true rfl⟩) (w_preS hK hP hN) rfl rfl hl.1 rfl (lv_room (Nat.le_of_ble_eq_true rfl)) dX7_setClass_34 ⟨Nat.zero_le _, Nat.zero_le _⟩) hA hS (fun H locs hP hS => ?_)
    refine lv_if_ne (tgt := 43) hx hb dX7_setClass_37 (by decide) (fun c36 => ?_) (fun c36 => ?_)
    · rw [if_neg c36] at hf
      refine lv_aload_n hx hb dX7_setClass_43 rfl (lv_at hl 0 rfl) ?_
      obtain ⟨m37, hq, hf⟩ := ov_e hf
      refine w_cv (va_runV (As := []) (rest := []) ⟨hx, hb, hml, hown, hts⟩ (c_X7_record l D ad cI cR hi fu  m35 m37 hq) (cwV 0 hts gX7_setClass_X7_record rfl rfl rfl (by decide +kernel) ⟨Nat.le_of_ble_eq_true rfl, Nat.le_of_ble_eq_true rfl⟩) (w_preV (ci := 7) hK hP hN (S_mod ad cI cR).1 (S_mod ad cI cR).2 rfl) rfl rfl hl.1 rfl (lv_room (Nat.le_of_ble_eq_true rfl)) dX7_setClass_44 ⟨Nat.zero_le _, Nat.zero_le _⟩) hA hS (fun H locs hP hS => ?_)
      refine lv_aload_n hx hb dX7_setClass_47 rfl (lv_at hl 0 rfl) ?_
      refine lv_iload_n hx hb dX7_setClass_48 rfl (lv_at hl 1 rfl) ?_
      refine lv_iload_n hx hb dX7_setClass_49 rfl (lv_at hl 2 rfl) ?_
      obtain ⟨r38, m39, hq, hf⟩ := ob_e hf
      refine w_ci (va_runV (As := [.int a1, .int a2]) (rest := []) ⟨hx, hb, hml, hown, hts⟩ (c_X7_ofClass l D ad cI cR hi fu a1 a2 m37 r38 m39 hq) (cwV 2 hts gX7_setClass_X7_ofClass rfl rfl rfl (by decide +kernel) ⟨Nat.le_of_ble_eq_true rfl, Nat.le_of_ble_eq_true rfl⟩) (w_preV (ci := 7) hK hP hN (S_mod ad cI cR).1 (S_mod ad cI cR).2 rfl) rfl rfl hl.1 rfl (lv_room (Nat.le_of_ble_eq_true rfl)) dX7_setClass_50 ⟨Nat.zero_le _, Nat.zero_le _⟩) hA hS (fun H locs hP hS => ?_)
      refine lv_istore (lv' := [(4, .int r38), (0, .ref (ad 359)), (1, .int a1), (2, .int a2), (3, .int a3)]) hx hb dX7_setClass_53 hl (by decide) rfl (fun ls hl => ?_)
      refine lv_aload_n hx hb dX7_setClass_55 rfl (lv_at hl 1 rfl) ?_
      refine w_get (C := RX7) (T := TX7) (N := 9) (ci := 7) (v := .ref (ad 360)) hx hb hts hinX7 hown hK hP (S_mod ad cI cR).1 (S_mod ad cI cR).2 rfl 0 (by decide) (hts (.fieldLink RX7 7 "AdmissionControlModel" "z" "[I") (List.mem_of_getElem? (i := 3) rfl)) (fun _ h9 => h9) rfl dX7_setClass_56 ?_
      refine lv_iconst (v := 4) hx hb dX7_setClass_59 (by decide) ?_
      refine lv_iconst (v := 4) hx hb dX7_setClass_60 (by decide) ?_
      refine lv_iload_n hx hb dX7_setClass_61 rfl (lv_at hl 2 rfl) ?_
      obtain ⟨v40, ev40, hf⟩ := bd_e hf
      refine lv_imul hx hb dX7_setClass_62 ?_
      refine w_top ev40 ?_
      obtain ⟨v41, ev41, hf⟩ := bd_e hf
      refine lv_iadd hx hb dX7_setClass_63 ?_
      refine w_top ev41 ?_
      refine lv_iload_n hx hb dX7_setClass_64 rfl (lv_at hl 3 rfl) ?_
      obtain ⟨v42, ev42, hf⟩ := bd_e hf
      refine lv_iadd hx hb dX7_setClass_65 ?_
      refine w_top ev42 ?_
      refine lv_iload_n hx hb dX7_setClass_66 rfl (lv_at hl 4 rfl) ?_
      obtain ⟨hnb, hf⟩ := gd_e hf
      obtain ⟨m43, em43, hf⟩ := bd_e hf
      refine w_ast hx hb hi hA hK hP hS (S_z ad cI cR) hnb dX7_setClass_67 (fun H locs hP hS => ?_)
      rw [← em43] at hP
      refine lv_iload hx hb dX7_setClass_68 (lv_at hl 0 rfl) ?_
      cases hf
      exact w_iret hx hb hr hlocks hP hS dX7_setClass_70
    · rw [if_pos c36] at hf
      refine lv_ldc (v := (-100002)) hx hb hown (hts (.constant RX7 90 (-100002)) (List.mem_of_getElem? (i := 2) rfl)) dX7_setClass_40 ?_
      cases hf
      exact w_iret hx hb hr hlocks hP hS dX7_setClass_42
  have hl := lv_entry ([.ref (ad 359), .int a1, .int a2, .int a3]) (n := 5) (Nat.le_of_ble_eq_true rfl)
  rw [lg_entry_eq]
  generalize (lg_sl ([.ref (ad 359), .int a1, .int a2, .int a3]) ++ List.replicate (5 - (lg_sl ([.ref (ad 359), .int a1, .int a2, .int a3])).length) Slot.unset).toArray = ls at hl ⊢
  have hl : lv_has ls 5 [(0, .ref (ad 359)), (1, .int a1), (2, .int a2), (3, .int a3)] := hl
  unfold F_X7_setClass at hf
  refine lv_iload_n hx hb dX7_setClass_0 rfl (lv_at hl 1 rfl) ?_
  obtain ⟨r44, m45, hq, hf⟩ := ob_e hf
  refine w_ci (va_runS (As := [.int a1]) (rest := []) ⟨hx, hb, hml, hown, hts⟩ (c_X7_isClass l D ad cI cR hi fu a1 mm r44 m45 hq) (va_cwS 1 hts gX7_setClass_X7_isClass rfl rfl rfl (by decide +kernel) ⟨Nat.le_of_ble_eq_true rfl, Nat.le_of_ble_eq_true rfl⟩) (w_preS hK hP hN) rfl rfl hl.1 rfl (lv_room (Nat.le_of_ble_eq_true rfl)) dX7_setClass_1 ⟨Nat.zero_le _, Nat.zero_le _⟩) hA hS (fun H locs hP hS => ?_)
  refine lv_if_eq (tgt := 16) hx hb dX7_setClass_4 (by decide) (fun c46 => ?_) (fun c46 => ?_)
  · rw [if_pos c46] at hf
    refine lv_ldc (v := (-100001)) hx hb hown (hts (.constant RX7 83 (-100001)) (List.mem_of_getElem? (i := 1) rfl)) dX7_setClass_16 ?_
    cases hf
    exact w_iret hx hb hr hlocks hP hS dX7_setClass_18
  · rw [if_neg c46] at hf
    refine lv_iload_n hx hb dX7_setClass_7 rfl (lv_at hl 2 rfl) ?_
    refine lv_iconst (v := 0) hx hb dX7_setClass_8 (by decide) ?_
    refine lv_iconst (v := 3) hx hb dX7_setClass_9 (by decide) ?_
    obtain ⟨r47, m48, hq, hf⟩ := ob_e hf
    refine w_ci (va_runS (As := [.int a2, .int 0, .int 3]) (rest := []) ⟨hx, hb, hml, hown, hts⟩ (c_X7_in l D ad cI cR hi fu a2 0 3 m45 r47 m48 hq) (va_cwS 3 hts gX7_setClass_X7_in rfl rfl rfl (by decide +kernel) ⟨Nat.le_of_ble_eq_true rfl, Nat.le_of_ble_eq_true rfl⟩) (w_preS hK hP hN) rfl rfl hl.1 rfl (lv_room (Nat.le_of_ble_eq_true rfl)) dX7_setClass_10 ⟨Nat.zero_le _, Nat.zero_le _⟩) hA hS (fun H locs hP hS => ?_)
    refine lv_if_ne (tgt := 19) hx hb dX7_setClass_13 (by decide) (fun c49 => ?_) (fun c49 => ?_)
    · rw [if_neg c49] at hf
      refine lv_iload_n hx hb dX7_setClass_19 rfl (lv_at hl 3 rfl) ?_
      refine lv_iload_n hx hb dX7_setClass_20 rfl (lv_at hl 2 rfl) ?_
      refine lv_iconst (v := 1) hx hb dX7_setClass_21 (by decide) ?_
      refine lv_icmp_ne (tgt := 29) hx hb dX7_setClass_22 (by decide) (fun c50 => ?_) (fun c50 => ?_)
      · rw [if_neg c50] at hf
        refine lv_iconst (v := 1) hx hb dX7_setClass_29 (by decide) ?_
        exact hL30 1 m48 _ _ _ hf hP hS (lv_sub hl [0, 1, 2, 3] rfl)
      · rw [if_pos c50] at hf
        refine lv_iconst (v := 0) hx hb dX7_setClass_25 (by decide) ?_
        refine lv_goto (tgt := 30) hx hb dX7_setClass_26 (by decide) ?_
        exact hL30 0 m48 _ _ _ hf hP hS (lv_sub hl [0, 1, 2, 3] rfl)
    · rw [if_pos c49] at hf
      refine lv_ldc (v := (-100001)) hx hb hown (hts (.constant RX7 83 (-100001)) (List.mem_of_getElem? (i := 1) rfl)) dX7_setClass_16 ?_
      cases hf
      exact w_iret hx hb hr hlocks hP hS dX7_setClass_18
def F_X7_noOffer (fu : Nat) (a1 : Int32) (a2 : Int32) (a3 : Int32) (mm : Mem) : Option (Int32 × Mem) := ob (F_X7_isClass fu a1 mm) fun r11 m12 => if r11 = 0 then (some ((-100001), m12)) else (ob (F_X7_isShape fu a2 m12) fun r14 m15 => if r14 = 0 then (some ((-100001), m15)) else (ob (F_X7_in fu a3 1 60 m15) fun r17 m18 => if r17 = 0 then (some ((-100002), m18)) else (gd (inb 69 395) (if (m18 360 (69 : Int32).toNatClampNeg) = 32 then (some ((-100004), m18)) else (some (0, m18))))))
set_option maxHeartbeats 4000000 in
set_option maxRecDepth 100000 in
theorem c_X7_noOffer (l : Launch) (D : va_G) (ad : Nat → Nat) (cI cR : ClassId) (hi : inj ad) (fu : Nat) (a1 : Int32) (a2 : Int32) (a3 : Int32)  (mm : Mem) (r0 : Int32) (m9 : Mem) (hf : F_X7_noOffer fu a1 a2 a3 mm = some (r0, m9)) : MI l yX7_noOffer wsX7_noOffer { frames := 2, cells := 0, slots := 0, locals := 42 } D ad cI cR [.ref (ad 359), .int a1, .int a2, .int a3] mm r0 m9 := by
  refine Met.ofW (cc := cX7_noOffer) (maxL := 4) (ret := (some .int)) (by decide) rfl ?_
  intro p e s m args below meth c s₁ B hml hv
  obtain ⟨rfl, hP, hK, hN⟩ := hv
  have hx := B.exec
  have hb := B.bytes
  have hr := B.returns
  have hts := atoms_spec (ws := wsX7_noOffer) B.pre
  have hown : s.vm.findClass RX7 = some m.cls := findClass_of_methodNamed B.named
  have hlocks := B.notSynchronized
  have hA : ∀ q, AA ad q → AA ad q := fun _ h => h
  have hS : va_S (AA ad) s.heap s.heap [] := va_S.rf
  have hinX7 : ∀ w ∈ wsX70, w ∈ wsX7_noOffer := (fun _ h => List.mem_cons_of_mem _ (List.mem_append_right _ h))
  have hl := lv_entry ([.ref (ad 359), .int a1, .int a2, .int a3]) (n := 4) (Nat.le_of_ble_eq_true rfl)
  rw [lg_entry_eq]
  generalize (lg_sl ([.ref (ad 359), .int a1, .int a2, .int a3]) ++ List.replicate (4 - (lg_sl ([.ref (ad 359), .int a1, .int a2, .int a3])).length) Slot.unset).toArray = ls at hl ⊢
  have hl : lv_has ls 4 [(0, .ref (ad 359)), (1, .int a1), (2, .int a2), (3, .int a3)] := hl
  unfold F_X7_noOffer at hf
  refine lv_iload_n hx hb dX7_noOffer_0 rfl (lv_at hl 1 rfl) ?_
  obtain ⟨r11, m12, hq, hf⟩ := ob_e hf
  refine w_ci (va_runS (As := [.int a1]) (rest := []) ⟨hx, hb, hml, hown, hts⟩ (c_X7_isClass l D ad cI cR hi fu a1 mm r11 m12 hq) (va_cwS 1 hts gX7_noOffer_X7_isClass rfl rfl rfl (by decide +kernel) ⟨Nat.le_of_ble_eq_true rfl, Nat.le_of_ble_eq_true rfl⟩) (w_preS hK hP hN) rfl rfl hl.1 rfl (lv_room (Nat.le_of_ble_eq_true rfl)) dX7_noOffer_1 ⟨Nat.zero_le _, Nat.zero_le _⟩) hA hS (fun H locs hP hS => ?_)
  refine lv_if_eq (tgt := 14) hx hb dX7_noOffer_4 (by decide) (fun c13 => ?_) (fun c13 => ?_)
  · rw [if_pos c13] at hf
    refine lv_ldc (v := (-100001)) hx hb hown (hts (.constant RX7 83 (-100001)) (List.mem_of_getElem? (i := 1) rfl)) dX7_noOffer_14 ?_
    cases hf
    exact w_iret hx hb hr hlocks hP hS dX7_noOffer_16
  · rw [if_neg c13] at hf
    refine lv_iload_n hx hb dX7_noOffer_7 rfl (lv_at hl 2 rfl) ?_
    obtain ⟨r14, m15, hq, hf⟩ := ob_e hf
    refine w_ci (va_runS (As := [.int a2]) (rest := []) ⟨hx, hb, hml, hown, hts⟩ (c_X7_isShape l D ad cI cR hi fu a2 m12 r14 m15 hq) (va_cwS 1 hts gX7_noOffer_X7_isShape rfl rfl rfl (by decide +kernel) ⟨Nat.le_of_ble_eq_true rfl, Nat.le_of_ble_eq_true rfl⟩) (w_preS hK hP hN) rfl rfl hl.1 rfl (lv_room (Nat.le_of_ble_eq_true rfl)) dX7_noOffer_8 ⟨Nat.zero_le _, Nat.zero_le _⟩) hA hS (fun H locs hP hS => ?_)
    refine lv_if_ne (tgt := 17) hx hb dX7_noOffer_11 (by decide) (fun c16 => ?_) (fun c16 => ?_)
    · rw [if_neg c16] at hf
      refine lv_iload_n hx hb dX7_noOffer_17 rfl (lv_at hl 3 rfl) ?_
      refine lv_iconst (v := 1) hx hb dX7_noOffer_18 (by decide) ?_
      refine lv_bipush (v := 60) hx hb dX7_noOffer_19 (by decide) ?_
      obtain ⟨r17, m18, hq, hf⟩ := ob_e hf
      refine w_ci (va_runS (As := [.int a3, .int 1, .int 60]) (rest := []) ⟨hx, hb, hml, hown, hts⟩ (c_X7_in l D ad cI cR hi fu a3 1 60 m15 r17 m18 hq) (va_cwS 3 hts gX7_noOffer_X7_in rfl rfl rfl (by decide +kernel) ⟨Nat.le_of_ble_eq_true rfl, Nat.le_of_ble_eq_true rfl⟩) (w_preS hK hP hN) rfl rfl hl.1 rfl (lv_room (Nat.le_of_ble_eq_true rfl)) dX7_noOffer_21 ⟨Nat.zero_le _, Nat.zero_le _⟩) hA hS (fun H locs hP hS => ?_)
      refine lv_if_ne (tgt := 30) hx hb dX7_noOffer_24 (by decide) (fun c19 => ?_) (fun c19 => ?_)
      · rw [if_neg c19] at hf
        refine lv_aload_n hx hb dX7_noOffer_30 rfl (lv_at hl 0 rfl) ?_
        refine w_get (C := RX7) (T := TX7) (N := 9) (ci := 7) (v := .ref (ad 360)) hx hb hts hinX7 hown hK hP (S_mod ad cI cR).1 (S_mod ad cI cR).2 rfl 0 (by decide) (hts (.fieldLink RX7 7 "AdmissionControlModel" "z" "[I") (List.mem_of_getElem? (i := 3) rfl)) (fun _ h9 => h9) rfl dX7_noOffer_31 ?_
        refine lv_bipush (v := 69) hx hb dX7_noOffer_34 (by decide) ?_
        obtain ⟨hnb, hf⟩ := gd_e hf
        refine w_ald hx hb hK hP (S_z ad cI cR) hnb dX7_noOffer_36 ?_
        refine lv_bipush (v := 32) hx hb dX7_noOffer_37 (by decide) ?_
        refine lv_icmp_ne (tgt := 47) hx hb dX7_noOffer_39 (by decide) (fun c20 => ?_) (fun c20 => ?_)
        · rw [if_neg c20] at hf
          refine lv_iconst (v := 0) hx hb dX7_noOffer_47 (by decide) ?_
          cases hf
          exact w_iret hx hb hr hlocks hP hS dX7_noOffer_48
        · rw [if_pos c20] at hf
          refine lv_ldc (v := (-100004)) hx hb hown (hts (.constant RX7 103 (-100004)) (List.mem_of_getElem? (i := 4) rfl)) dX7_noOffer_42 ?_
          refine lv_goto (tgt := 48) hx hb dX7_noOffer_44 (by decide) ?_
          cases hf
          exact w_iret hx hb hr hlocks hP hS dX7_noOffer_48
      · rw [if_pos c19] at hf
        refine lv_ldc (v := (-100002)) hx hb hown (hts (.constant RX7 90 (-100002)) (List.mem_of_getElem? (i := 2) rfl)) dX7_noOffer_27 ?_
        cases hf
        exact w_iret hx hb hr hlocks hP hS dX7_noOffer_29
    · rw [if_pos c16] at hf
      refine lv_ldc (v := (-100001)) hx hb hown (hts (.constant RX7 83 (-100001)) (List.mem_of_getElem? (i := 1) rfl)) dX7_noOffer_14 ?_
      cases hf
      exact w_iret hx hb hr hlocks hP hS dX7_noOffer_16
def F_X7_doOffer (fu : Nat) (a1 : Int32) (a2 : Int32) (a3 : Int32) (mm : Mem) : Option (Int32 × Mem) := gd (inb 69 395) (gd (inb 69 395) (bd ((mm 360 (69 : Int32).toNatClampNeg) + 1) fun v11 => gd (inb 69 395) (bd (mput mm 360 (69 : Int32).toNatClampNeg v11) fun m12 => ov (F_X7_put fu (mm 360 (69 : Int32).toNatClampNeg) 0 a1 m12) fun m13 => ov (F_X7_put fu (mm 360 (69 : Int32).toNatClampNeg) 1 a2 m13) fun m14 => ov (F_X7_put fu (mm 360 (69 : Int32).toNatClampNeg) 2 a3 m14) fun m15 => ov (F_X7_put fu (mm 360 (69 : Int32).toNatClampNeg) 5 0 m15) fun m16 => ov (F_X7_put fu (mm 360 (69 : Int32).toNatClampNeg) 6 0 m16) fun m17 => ov (F_X7_put fu (mm 360 (69 : Int32).toNatClampNeg) 7 0 m17) fun m18 => ob (F_X7_offerNow fu (mm 360 (69 : Int32).toNatClampNeg) m18) fun r19 m20 => some (r19, m20))))
set_option maxHeartbeats 4000000 in
set_option maxRecDepth 100000 in
theorem c_X7_doOffer (l : Launch) (D : va_G) (ad : Nat → Nat) (cI cR : ClassId) (hi : inj ad) (fu : Nat) (a1 : Int32) (a2 : Int32) (a3 : Int32)  (mm : Mem) (r0 : Int32) (m9 : Mem) (hf : F_X7_doOffer fu a1 a2 a3 mm = some (r0, m9)) : MI l yX7_doOffer wsX7_doOffer { frames := 4, cells := 0, slots := 0, locals := 92 } D ad cI cR [.ref (ad 359), .int a1, .int a2, .int a3] mm r0 m9 := by
  refine Met.ofW (cc := cX7_doOffer) (maxL := 5) (ret := (some .int)) (by decide) rfl ?_
  intro p e s m args below meth c s₁ B hml hv
  obtain ⟨rfl, hP, hK, hN⟩ := hv
  have hx := B.exec
  have hb := B.bytes
  have hr := B.returns
  have hts := atoms_spec (ws := wsX7_doOffer) B.pre
  have hown : s.vm.findClass RX7 = some m.cls := findClass_of_methodNamed B.named
  have hlocks := B.notSynchronized
  have hA : ∀ q, AA ad q → AA ad q := fun _ h => h
  have hS : va_S (AA ad) s.heap s.heap [] := va_S.rf
  have hinX7 : ∀ w ∈ wsX70, w ∈ wsX7_doOffer := (fun _ h => List.mem_cons_of_mem _ (List.mem_append_right _ h))
  have hl := lv_entry ([.ref (ad 359), .int a1, .int a2, .int a3]) (n := 5) (Nat.le_of_ble_eq_true rfl)
  rw [lg_entry_eq]
  generalize (lg_sl ([.ref (ad 359), .int a1, .int a2, .int a3]) ++ List.replicate (5 - (lg_sl ([.ref (ad 359), .int a1, .int a2, .int a3])).length) Slot.unset).toArray = ls at hl ⊢
  have hl : lv_has ls 5 [(0, .ref (ad 359)), (1, .int a1), (2, .int a2), (3, .int a3)] := hl
  unfold F_X7_doOffer at hf
  refine lv_aload_n hx hb dX7_doOffer_0 rfl (lv_at hl 0 rfl) ?_
  refine w_get (C := RX7) (T := TX7) (N := 9) (ci := 7) (v := .ref (ad 360)) hx hb hts hinX7 hown hK hP (S_mod ad cI cR).1 (S_mod ad cI cR).2 rfl 0 (by decide) (hts (.fieldLink RX7 7 "AdmissionControlModel" "z" "[I") (List.mem_of_getElem? (i := 1) rfl)) (fun _ h9 => h9) rfl dX7_doOffer_1 ?_
  refine lv_bipush (v := 69) hx hb dX7_doOffer_4 (by decide) ?_
  obtain ⟨hnb, hf⟩ := gd_e hf
  refine w_ald hx hb hK hP (S_z ad cI cR) hnb dX7_doOffer_6 ?_
  refine lv_istore (lv' := [(4, .int (mm 360 (69 : Int32).toNatClampNeg)), (0, .ref (ad 359)), (1, .int a1), (2, .int a2), (3, .int a3)]) hx hb dX7_doOffer_7 hl (by decide) rfl (fun ls hl => ?_)
  refine lv_aload_n hx hb dX7_doOffer_9 rfl (lv_at hl 1 rfl) ?_
  refine w_get (C := RX7) (T := TX7) (N := 9) (ci := 7) (v := .ref (ad 360)) hx hb hts hinX7 hown hK hP (S_mod ad cI cR).1 (S_mod ad cI cR).2 rfl 0 (by decide) (hts (.fieldLink RX7 7 "AdmissionControlModel" "z" "[I") (List.mem_of_getElem? (i := 1) rfl)) (fun _ h9 => h9) rfl dX7_doOffer_10 ?_
  refine lv_bipush (v := 69) hx hb dX7_doOffer_13 (by decide) ?_
  refine lv_dup2_11 hx hb dX7_doOffer_15 rfl rfl ?_
  obtain ⟨hnb, hf⟩ := gd_e hf
  refine w_ald hx hb hK hP (S_z ad cI cR) hnb dX7_doOffer_16 ?_
  refine lv_iconst (v := 1) hx hb dX7_doOffer_17 (by decide) ?_
  obtain ⟨v11, ev11, hf⟩ := bd_e hf
  refine lv_iadd hx hb dX7_doOffer_18 ?_
  refine w_top ev11 ?_
  obtain ⟨hnb, hf⟩ := gd_e hf
  obtain ⟨m12, em12, hf⟩ := bd_e hf
  refine w_ast hx hb hi hA hK hP hS (S_z ad cI cR) hnb dX7_doOffer_19 (fun H locs hP hS => ?_)
  rw [← em12] at hP
  refine lv_aload_n hx hb dX7_doOffer_20 rfl (lv_at hl 1 rfl) ?_
  refine lv_iload hx hb dX7_doOffer_21 (lv_at hl 0 rfl) ?_
  refine lv_iconst (v := 0) hx hb dX7_doOffer_23 (by decide) ?_
  refine lv_iload_n hx hb dX7_doOffer_24 rfl (lv_at hl 2 rfl) ?_
  obtain ⟨m13, hq, hf⟩ := ov_e hf
  refine w_cv (va_runV (As := [.int (mm 360 (69 : Int32).toNatClampNeg), .int 0, .int a1]) (rest := []) ⟨hx, hb, hml, hown, hts⟩ (c_X7_put l D ad cI cR hi fu (mm 360 (69 : Int32).toNatClampNeg) 0 a1 m12 m13 hq) (cwV 3 hts gX7_doOffer_X7_put rfl rfl rfl (by decide +kernel) ⟨Nat.le_of_ble_eq_true rfl, Nat.le_of_ble_eq_true rfl⟩) (w_preV (ci := 7) hK hP hN (S_mod ad cI cR).1 (S_mod ad cI cR).2 rfl) rfl rfl hl.1 rfl (lv_room (Nat.le_of_ble_eq_true rfl)) dX7_doOffer_25 ⟨Nat.zero_le _, Nat.zero_le _⟩) hA hS (fun H locs hP hS => ?_)
  refine lv_aload_n hx hb dX7_doOffer_28 rfl (lv_at hl 1 rfl) ?_
  refine lv_iload hx hb dX7_doOffer_29 (lv_at hl 0 rfl) ?_
  refine lv_iconst (v := 1) hx hb dX7_doOffer_31 (by decide) ?_
  refine lv_iload_n hx hb dX7_doOffer_32 rfl (lv_at hl 3 rfl) ?_
  obtain ⟨m14, hq, hf⟩ := ov_e hf
  refine w_cv (va_runV (As := [.int (mm 360 (69 : Int32).toNatClampNeg), .int 1, .int a2]) (rest := []) ⟨hx, hb, hml, hown, hts⟩ (c_X7_put l D ad cI cR hi fu (mm 360 (69 : Int32).toNatClampNeg) 1 a2 m13 m14 hq) (cwV 3 hts gX7_doOffer_X7_put rfl rfl rfl (by decide +kernel) ⟨Nat.le_of_ble_eq_true rfl, Nat.le_of_ble_eq_true rfl⟩) (w_preV (ci := 7) hK hP hN (S_mod ad cI cR).1 (S_mod ad cI cR).2 rfl) rfl rfl hl.1 rfl (lv_room (Nat.le_of_ble_eq_true rfl)) dX7_doOffer_33 ⟨Nat.zero_le _, Nat.zero_le _⟩) hA hS (fun H locs hP hS => ?_)
  refine lv_aload_n hx hb dX7_doOffer_36 rfl (lv_at hl 1 rfl) ?_
  refine lv_iload hx hb dX7_doOffer_37 (lv_at hl 0 rfl) ?_
  refine lv_iconst (v := 2) hx hb dX7_doOffer_39 (by decide) ?_
  refine lv_iload_n hx hb dX7_doOffer_40 rfl (lv_at hl 4 rfl) ?_
  obtain ⟨m15, hq, hf⟩ := ov_e hf
  refine w_cv (va_runV (As := [.int (mm 360 (69 : Int32).toNatClampNeg), .int 2, .int a3]) (rest := []) ⟨hx, hb, hml, hown, hts⟩ (c_X7_put l D ad cI cR hi fu (mm 360 (69 : Int32).toNatClampNeg) 2 a3 m14 m15 hq) (cwV 3 hts gX7_doOffer_X7_put rfl rfl rfl (by decide +kernel) ⟨Nat.le_of_ble_eq_true rfl, Nat.le_of_ble_eq_true rfl⟩) (w_preV (ci := 7) hK hP hN (S_mod ad cI cR).1 (S_mod ad cI cR).2 rfl) rfl rfl hl.1 rfl (lv_room (Nat.le_of_ble_eq_true rfl)) dX7_doOffer_41 ⟨Nat.zero_le _, Nat.zero_le _⟩) hA hS (fun H locs hP hS => ?_)
  refine lv_aload_n hx hb dX7_doOffer_44 rfl (lv_at hl 1 rfl) ?_
  refine lv_iload hx hb dX7_doOffer_45 (lv_at hl 0 rfl) ?_
  refine lv_iconst (v := 5) hx hb dX7_doOffer_47 (by decide) ?_
  refine lv_iconst (v := 0) hx hb dX7_doOffer_48 (by decide) ?_
  obtain ⟨m16, hq, hf⟩ := ov_e hf
  refine w_cv (va_runV (As := [.int (mm 360 (69 : Int32).toNatClampNeg), .int 5, .int 0]) (rest := []) ⟨hx, hb, hml, hown, hts⟩ (c_X7_put l D ad cI cR hi fu (mm 360 (69 : Int32).toNatClampNeg) 5 0 m15 m16 hq) (cwV 3 hts gX7_doOffer_X7_put rfl rfl rfl (by decide +kernel) ⟨Nat.le_of_ble_eq_true rfl, Nat.le_of_ble_eq_true rfl⟩) (w_preV (ci := 7) hK hP hN (S_mod ad cI cR).1 (S_mod ad cI cR).2 rfl) rfl rfl hl.1 rfl (lv_room (Nat.le_of_ble_eq_true rfl)) dX7_doOffer_49 ⟨Nat.zero_le _, Nat.zero_le _⟩) hA hS (fun H locs hP hS => ?_)
  refine lv_aload_n hx hb dX7_doOffer_52 rfl (lv_at hl 1 rfl) ?_
  refine lv_iload hx hb dX7_doOffer_53 (lv_at hl 0 rfl) ?_
  refine lv_bipush (v := 6) hx hb dX7_doOffer_55 (by decide) ?_
  refine lv_iconst (v := 0) hx hb dX7_doOffer_57 (by decide) ?_
  obtain ⟨m17, hq, hf⟩ := ov_e hf
  refine w_cv (va_runV (As := [.int (mm 360 (69 : Int32).toNatClampNeg), .int 6, .int 0]) (rest := []) ⟨hx, hb, hml, hown, hts⟩ (c_X7_put l D ad cI cR hi fu (mm 360 (69 : Int32).toNatClampNeg) 6 0 m16 m17 hq) (cwV 3 hts gX7_doOffer_X7_put rfl rfl rfl (by decide +kernel) ⟨Nat.le_of_ble_eq_true rfl, Nat.le_of_ble_eq_true rfl⟩) (w_preV (ci := 7) hK hP hN (S_mod ad cI cR).1 (S_mod ad cI cR).2 rfl) rfl rfl hl.1 rfl (lv_room (Nat.le_of_ble_eq_true rfl)) dX7_doOffer_58 ⟨Nat.zero_le _, Nat.zero_le _⟩) hA hS (fun H locs hP hS => ?_)
  refine lv_aload_n hx hb dX7_doOffer_61 rfl (lv_at hl 1 rfl) ?_
  refine lv_iload hx hb dX7_doOffer_62 (lv_at hl 0 rfl) ?_
  refine lv_bipush (v := 7) hx hb dX7_doOffer_64 (by decide) ?_
  refine lv_iconst (v := 0) hx hb dX7_doOffer_66 (by decide) ?_
  obtain ⟨m18, hq, hf⟩ := ov_e hf
  refine w_cv (va_runV (As := [.int (mm 360 (69 : Int32).toNatClampNeg), .int 7, .int 0]) (rest := []) ⟨hx, hb, hml, hown, hts⟩ (c_X7_put l D ad cI cR hi fu (mm 360 (69 : Int32).toNatClampNeg) 7 0 m17 m18 hq) (cwV 3 hts gX7_doOffer_X7_put rfl rfl rfl (by decide +kernel) ⟨Nat.le_of_ble_eq_true rfl, Nat.le_of_ble_eq_true rfl⟩) (w_preV (ci := 7) hK hP hN (S_mod ad cI cR).1 (S_mod ad cI cR).2 rfl) rfl rfl hl.1 rfl (lv_room (Nat.le_of_ble_eq_true rfl)) dX7_doOffer_67 ⟨Nat.zero_le _, Nat.zero_le _⟩) hA hS (fun H locs hP hS => ?_)
  refine lv_aload_n hx hb dX7_doOffer_70 rfl (lv_at hl 1 rfl) ?_
  refine lv_iload hx hb dX7_doOffer_71 (lv_at hl 0 rfl) ?_
  obtain ⟨r19, m20, hq, hf⟩ := ob_e hf
  refine w_ci (va_runV (As := [.int (mm 360 (69 : Int32).toNatClampNeg)]) (rest := []) ⟨hx, hb, hml, hown, hts⟩ (c_X7_offerNow l D ad cI cR hi fu (mm 360 (69 : Int32).toNatClampNeg) m18 r19 m20 hq) (cwV 1 hts gX7_doOffer_X7_offerNow rfl rfl rfl (by decide +kernel) ⟨Nat.le_of_ble_eq_true rfl, Nat.le_of_ble_eq_true rfl⟩) (w_preV (ci := 7) hK hP hN (S_mod ad cI cR).1 (S_mod ad cI cR).2 rfl) rfl rfl hl.1 rfl (lv_room (Nat.le_of_ble_eq_true rfl)) dX7_doOffer_73 ⟨Nat.zero_le _, Nat.zero_le _⟩) hA hS (fun H locs hP hS => ?_)
  cases hf
  exact w_iret hx hb hr hlocks hP hS dX7_doOffer_76
def F_X7_offer (fu : Nat) (a1 : Int32) (a2 : Int32) (a3 : Int32) (mm : Mem) : Option (Int32 × Mem) := ob (F_X7_noOffer fu a1 a2 a3 mm) fun r7 m8 => if 0 ≤ r7 then (ov (F_X7_record fu  m8) fun m10 => ob (F_X7_doOffer fu a1 a2 a3 m10) fun r11 m12 => some (r11, m12)) else (some (r7, m8))
set_option maxHeartbeats 4000000 in
set_option maxRecDepth 100000 in
theorem c_X7_offer (l : Launch) (D : va_G) (ad : Nat → Nat) (cI cR : ClassId) (hi : inj ad) (fu : Nat) (a1 : Int32) (a2 : Int32) (a3 : Int32)  (mm : Mem) (r0 : Int32) (m9 : Mem) (hf : F_X7_offer fu a1 a2 a3 mm = some (r0, m9)) : MI l yX7_offer wsX7_offer { frames := 5, cells := 0, slots := 0, locals := 116 } D ad cI cR [.ref (ad 359), .int a1, .int a2, .int a3] mm r0 m9 := by
  refine Met.ofW (cc := cX7_offer) (maxL := 5) (ret := (some .int)) (by decide) rfl ?_
  intro p e s m args below meth c s₁ B hml hv
  obtain ⟨rfl, hP, hK, hN⟩ := hv
  have hx := B.exec
  have hb := B.bytes
  have hr := B.returns
  have hts := atoms_spec (ws := wsX7_offer) B.pre
  have hown : s.vm.findClass RX7 = some m.cls := findClass_of_methodNamed B.named
  have hlocks := B.notSynchronized
  have hA : ∀ q, AA ad q → AA ad q := fun _ h => h
  have hS : va_S (AA ad) s.heap s.heap [] := va_S.rf
  have hl := lv_entry ([.ref (ad 359), .int a1, .int a2, .int a3]) (n := 5) (Nat.le_of_ble_eq_true rfl)
  rw [lg_entry_eq]
  generalize (lg_sl ([.ref (ad 359), .int a1, .int a2, .int a3]) ++ List.replicate (5 - (lg_sl ([.ref (ad 359), .int a1, .int a2, .int a3])).length) Slot.unset).toArray = ls at hl ⊢
  have hl : lv_has ls 5 [(0, .ref (ad 359)), (1, .int a1), (2, .int a2), (3, .int a3)] := hl
  unfold F_X7_offer at hf
  refine lv_aload_n hx hb dX7_offer_0 rfl (lv_at hl 0 rfl) ?_
  refine lv_iload_n hx hb dX7_offer_1 rfl (lv_at hl 1 rfl) ?_
  refine lv_iload_n hx hb dX7_offer_2 rfl (lv_at hl 2 rfl) ?_
  refine lv_iload_n hx hb dX7_offer_3 rfl (lv_at hl 3 rfl) ?_
  obtain ⟨r7, m8, hq, hf⟩ := ob_e hf
  refine w_ci (va_runV (As := [.int a1, .int a2, .int a3]) (rest := []) ⟨hx, hb, hml, hown, hts⟩ (c_X7_noOffer l D ad cI cR hi fu a1 a2 a3 mm r7 m8 hq) (cwV 3 hts gX7_offer_X7_noOffer rfl rfl rfl (by decide +kernel) ⟨Nat.le_of_ble_eq_true rfl, Nat.le_of_ble_eq_true rfl⟩) (w_preV (ci := 7) hK hP hN (S_mod ad cI cR).1 (S_mod ad cI cR).2 rfl) rfl rfl hl.1 rfl (lv_room (Nat.le_of_ble_eq_true rfl)) dX7_offer_4 ⟨Nat.zero_le _, Nat.zero_le _⟩) hA hS (fun H locs hP hS => ?_)
  refine lv_istore (lv' := [(4, .int r7), (0, .ref (ad 359)), (1, .int a1), (2, .int a2), (3, .int a3)]) hx hb dX7_offer_7 hl (by decide) rfl (fun ls hl => ?_)
  refine lv_iload hx hb dX7_offer_9 (lv_at hl 0 rfl) ?_
  refine lv_if_ge (tgt := 17) hx hb dX7_offer_11 (by decide) (fun c9 => ?_) (fun c9 => ?_)
  · rw [if_pos c9] at hf
    refine lv_aload_n hx hb dX7_offer_17 rfl (lv_at hl 1 rfl) ?_
    obtain ⟨m10, hq, hf⟩ := ov_e hf
    refine w_cv (va_runV (As := []) (rest := []) ⟨hx, hb, hml, hown, hts⟩ (c_X7_record l D ad cI cR hi fu  m8 m10 hq) (cwV 0 hts gX7_offer_X7_record rfl rfl rfl (by decide +kernel) ⟨Nat.le_of_ble_eq_true rfl, Nat.le_of_ble_eq_true rfl⟩) (w_preV (ci := 7) hK hP hN (S_mod ad cI cR).1 (S_mod ad cI cR).2 rfl) rfl rfl hl.1 rfl (lv_room (Nat.le_of_ble_eq_true rfl)) dX7_offer_18 ⟨Nat.zero_le _, Nat.zero_le _⟩) hA hS (fun H locs hP hS => ?_)
    refine lv_aload_n hx hb dX7_offer_21 rfl (lv_at hl 1 rfl) ?_
    refine lv_iload_n hx hb dX7_offer_22 rfl (lv_at hl 2 rfl) ?_
    refine lv_iload_n hx hb dX7_offer_23 rfl (lv_at hl 3 rfl) ?_
    refine lv_iload_n hx hb dX7_offer_24 rfl (lv_at hl 4 rfl) ?_
    obtain ⟨r11, m12, hq, hf⟩ := ob_e hf
    refine w_ci (va_runV (As := [.int a1, .int a2, .int a3]) (rest := []) ⟨hx, hb, hml, hown, hts⟩ (c_X7_doOffer l D ad cI cR hi fu a1 a2 a3 m10 r11 m12 hq) (cwV 3 hts gX7_offer_X7_doOffer rfl rfl rfl (by decide +kernel) ⟨Nat.le_of_ble_eq_true rfl, Nat.le_of_ble_eq_true rfl⟩) (w_preV (ci := 7) hK hP hN (S_mod ad cI cR).1 (S_mod ad cI cR).2 rfl) rfl rfl hl.1 rfl (lv_room (Nat.le_of_ble_eq_true rfl)) dX7_offer_25 ⟨Nat.zero_le _, Nat.zero_le _⟩) hA hS (fun H locs hP hS => ?_)
    cases hf
    exact w_iret hx hb hr hlocks hP hS dX7_offer_28
  · rw [if_neg c9] at hf
    refine lv_iload hx hb dX7_offer_14 (lv_at hl 0 rfl) ?_
    cases hf
    exact w_iret hx hb hr hlocks hP hS dX7_offer_16
def F_X7_noAdvance (fu : Nat) (a1 : Int32) (mm : Mem) : Option (Int32 × Mem) := ob (F_X7_in fu a1 1 99 mm) fun r6 m7 => if r6 = 0 then (some ((-100002), m7)) else (gd (inb 67 395) (bd ((m7 360 (67 : Int32).toNatClampNeg) + a1) fun v9 => if v9 ≤ 999 then (some (0, m7)) else (some ((-100004), m7))))
set_option maxHeartbeats 4000000 in
set_option maxRecDepth 100000 in
theorem c_X7_noAdvance (l : Launch) (D : va_G) (ad : Nat → Nat) (cI cR : ClassId) (hi : inj ad) (fu : Nat) (a1 : Int32)  (mm : Mem) (r0 : Int32) (m9 : Mem) (hf : F_X7_noAdvance fu a1 mm = some (r0, m9)) : MI l yX7_noAdvance wsX7_noAdvance { frames := 1, cells := 0, slots := 0, locals := 22 } D ad cI cR [.ref (ad 359), .int a1] mm r0 m9 := by
  refine Met.ofW (cc := cX7_noAdvance) (maxL := 2) (ret := (some .int)) (by decide) rfl ?_
  intro p e s m args below meth c s₁ B hml hv
  obtain ⟨rfl, hP, hK, hN⟩ := hv
  have hx := B.exec
  have hb := B.bytes
  have hr := B.returns
  have hts := atoms_spec (ws := wsX7_noAdvance) B.pre
  have hown : s.vm.findClass RX7 = some m.cls := findClass_of_methodNamed B.named
  have hlocks := B.notSynchronized
  have hA : ∀ q, AA ad q → AA ad q := fun _ h => h
  have hS : va_S (AA ad) s.heap s.heap [] := va_S.rf
  have hinX7 : ∀ w ∈ wsX70, w ∈ wsX7_noAdvance := (fun _ h => List.mem_cons_of_mem _ (List.mem_append_right _ h))
  have hl := lv_entry ([.ref (ad 359), .int a1]) (n := 2) (Nat.le_of_ble_eq_true rfl)
  rw [lg_entry_eq]
  generalize (lg_sl ([.ref (ad 359), .int a1]) ++ List.replicate (2 - (lg_sl ([.ref (ad 359), .int a1])).length) Slot.unset).toArray = ls at hl ⊢
  have hl : lv_has ls 2 [(0, .ref (ad 359)), (1, .int a1)] := hl
  unfold F_X7_noAdvance at hf
  refine lv_iload_n hx hb dX7_noAdvance_0 rfl (lv_at hl 1 rfl) ?_
  refine lv_iconst (v := 1) hx hb dX7_noAdvance_1 (by decide) ?_
  refine lv_bipush (v := 99) hx hb dX7_noAdvance_2 (by decide) ?_
  obtain ⟨r6, m7, hq, hf⟩ := ob_e hf
  refine w_ci (va_runS (As := [.int a1, .int 1, .int 99]) (rest := []) ⟨hx, hb, hml, hown, hts⟩ (c_X7_in l D ad cI cR hi fu a1 1 99 mm r6 m7 hq) (va_cwS 3 hts gX7_noAdvance_X7_in rfl rfl rfl (by decide +kernel) ⟨Nat.le_of_ble_eq_true rfl, Nat.le_of_ble_eq_true rfl⟩) (w_preS hK hP hN) rfl rfl hl.1 rfl (lv_room (Nat.le_of_ble_eq_true rfl)) dX7_noAdvance_4 ⟨Nat.zero_le _, Nat.zero_le _⟩) hA hS (fun H locs hP hS => ?_)
  refine lv_if_ne (tgt := 15) hx hb dX7_noAdvance_7 (by decide) (fun c8 => ?_) (fun c8 => ?_)
  · rw [if_neg c8] at hf
    refine lv_aload_n hx hb dX7_noAdvance_15 rfl (lv_at hl 0 rfl) ?_
    refine w_get (C := RX7) (T := TX7) (N := 9) (ci := 7) (v := .ref (ad 360)) hx hb hts hinX7 hown hK hP (S_mod ad cI cR).1 (S_mod ad cI cR).2 rfl 0 (by decide) (hts (.fieldLink RX7 7 "AdmissionControlModel" "z" "[I") (List.mem_of_getElem? (i := 2) rfl)) (fun _ h9 => h9) rfl dX7_noAdvance_16 ?_
    refine lv_bipush (v := 67) hx hb dX7_noAdvance_19 (by decide) ?_
    obtain ⟨hnb, hf⟩ := gd_e hf
    refine w_ald hx hb hK hP (S_z ad cI cR) hnb dX7_noAdvance_21 ?_
    refine lv_iload_n hx hb dX7_noAdvance_22 rfl (lv_at hl 1 rfl) ?_
    obtain ⟨v9, ev9, hf⟩ := bd_e hf
    refine lv_iadd hx hb dX7_noAdvance_23 ?_
    refine w_top ev9 ?_
    refine lv_sipush (v := 999) hx hb dX7_noAdvance_24 (by decide) ?_
    refine lv_icmp_le (tgt := 35) hx hb dX7_noAdvance_27 (by decide) (fun c10 => ?_) (fun c10 => ?_)
    · rw [if_pos c10] at hf
      refine lv_iconst (v := 0) hx hb dX7_noAdvance_35 (by decide) ?_
      cases hf
      exact w_iret hx hb hr hlocks hP hS dX7_noAdvance_36
    · rw [if_neg c10] at hf
      refine lv_ldc (v := (-100004)) hx hb hown (hts (.constant RX7 103 (-100004)) (List.mem_of_getElem? (i := 3) rfl)) dX7_noAdvance_30 ?_
      refine lv_goto (tgt := 36) hx hb dX7_noAdvance_32 (by decide) ?_
      cases hf
      exact w_iret hx hb hr hlocks hP hS dX7_noAdvance_36
  · rw [if_pos c8] at hf
    refine lv_ldc (v := (-100002)) hx hb hown (hts (.constant RX7 90 (-100002)) (List.mem_of_getElem? (i := 1) rfl)) dX7_noAdvance_10 ?_
    refine lv_goto (tgt := 36) hx hb dX7_noAdvance_12 (by decide) ?_
    cases hf
    exact w_iret hx hb hr hlocks hP hS dX7_noAdvance_36
def F_X7_doAdvance_L4 (fu : Nat) (a1 : Int32)  : Nat → Int32 → Int32 → Mem → Option (Int32 × Mem)
  | 0, _, _, _ => none
  | n + 1, x2, x3, mm => if a1 ≤ x3 then (some (x2, mm)) else (ob (F_X7_tick fu  mm) fun r12 m13 => bd (x2 + r12) fun v14 => bd (x3 + 1) fun v15 => F_X7_doAdvance_L4 fu a1 n v14 v15 m13)
def F_X7_doAdvance (fu : Nat) (a1 : Int32) (mm : Mem) : Option (Int32 × Mem) := F_X7_doAdvance_L4 fu a1 fu 0 0 mm
set_option maxHeartbeats 4000000 in
set_option maxRecDepth 100000 in
theorem c_X7_doAdvance (l : Launch) (D : va_G) (ad : Nat → Nat) (cI cR : ClassId) (hi : inj ad) (fu : Nat) (a1 : Int32)  (mm : Mem) (r0 : Int32) (m9 : Mem) (hf : F_X7_doAdvance fu a1 mm = some (r0, m9)) : MI l yX7_doAdvance wsX7_doAdvance { frames := 5, cells := 0, slots := 0, locals := 115 } D ad cI cR [.ref (ad 359), .int a1] mm r0 m9 := by
  refine Met.ofW (cc := cX7_doAdvance) (maxL := 4) (ret := (some .int)) (by decide) rfl ?_
  intro p e s m args below meth c s₁ B hml hv
  obtain ⟨rfl, hP, hK, hN⟩ := hv
  have hx := B.exec
  have hb := B.bytes
  have hr := B.returns
  have hts := atoms_spec (ws := wsX7_doAdvance) B.pre
  have hown : s.vm.findClass RX7 = some m.cls := findClass_of_methodNamed B.named
  have hlocks := B.notSynchronized
  have hA : ∀ q, AA ad q → AA ad q := fun _ h => h
  have hS : va_S (AA ad) s.heap s.heap [] := va_S.rf
  have hL4 : ∀ (n : Nat) (x2 : Int32) (x3 : Int32)  (mm : Mem) (H : Heap) (locs : List Loc) (ls : Array Slot), F_X7_doAdvance_L4 fu a1  n x2 x3 mm = some (r0, m9) → va_P D vwCl (cw ad cI cR mm) H → va_S (AA ad) s.heap H locs → lv_has ls 4 [(0, .ref (ad 359)), (1, .int a1), (2, .int x2), (3, .int x3)] → W p l e (headSpec wsX7_doAdvance { frames := 5, cells := 0, slots := 0, locals := 115 }).room s m ([.ref (ad 359), .int a1] : List Value).toArray below meth c H locs 0 0 (MQ below (va_Qi (fun (r' : Int32) (u : Mem) => r' = r0 ∧ u = m9) (KB D ad cI cR) (AA ad)) ([.ref (ad 359), .int a1] : List Value).toArray s 0 0 (AA ad)) (F0 m 4 ls []) := by
    intro n
    induction n with
    | zero =>
      intro x2 x3 mm H locs ls hf hP hS hl
      rw [F_X7_doAdvance_L4] at hf
      cases hf
    | succ n4 ih4 =>
      intro x2 x3 mm H locs ls hf hP hS hl
      rw [F_X7_doAdvance_L4] at hf
      refine lv_iload_n hx hb dX7_doAdvance_4 rfl (lv_at hl 3 rfl) ?_
      refine lv_iload_n hx hb dX7_doAdvance_5 rfl (lv_at hl 1 rfl) ?_
      refine lv_icmp_ge (tgt := 22) hx hb dX7_doAdvance_6 (by decide) (fun c11 => ?_) (fun c11 => ?_)
      · rw [if_pos c11] at hf
        refine lv_iload_n hx hb dX7_doAdvance_22 rfl (lv_at hl 2 rfl) ?_
        cases hf
        exact w_iret hx hb hr hlocks hP hS dX7_doAdvance_23
      · rw [if_neg c11] at hf
        refine lv_iload_n hx hb dX7_doAdvance_9 rfl (lv_at hl 2 rfl) ?_
        refine lv_aload_n hx hb dX7_doAdvance_10 rfl (lv_at hl 0 rfl) ?_
        obtain ⟨r12, m13, hq, hf⟩ := ob_e hf
        refine w_ci (va_runV (As := []) (rest := [.int x2]) ⟨hx, hb, hml, hown, hts⟩ (c_X7_tick l D ad cI cR hi fu  mm r12 m13 hq) (cwV 0 hts gX7_doAdvance_X7_tick rfl rfl rfl (by decide +kernel) ⟨Nat.le_of_ble_eq_true rfl, Nat.le_of_ble_eq_true rfl⟩) (w_preV (ci := 7) hK hP hN (S_mod ad cI cR).1 (S_mod ad cI cR).2 rfl) rfl rfl hl.1 rfl (lv_room (Nat.le_of_ble_eq_true rfl)) dX7_doAdvance_11 ⟨Nat.zero_le _, Nat.zero_le _⟩) hA hS (fun H locs hP hS => ?_)
        obtain ⟨v14, ev14, hf⟩ := bd_e hf
        refine lv_iadd hx hb dX7_doAdvance_14 ?_
        refine w_top ev14 ?_
        refine lv_istore_n (lv' := [(2, .int v14), (0, .ref (ad 359)), (1, .int a1), (3, .int x3)]) hx hb dX7_doAdvance_15 rfl hl (by decide) rfl (fun ls hl => ?_)
        obtain ⟨v15, ev15, hf⟩ := bd_e hf
        refine lv_iinc (v := v15) (lv' := [(3, .int v15), (2, .int v14), (0, .ref (ad 359)), (1, .int a1)]) hx hb dX7_doAdvance_16 hl (k := 3) rfl (by rw [ev15]; rfl) (by decide) rfl (fun ls hl => ?_)
        refine lv_goto (tgt := 4) hx hb dX7_doAdvance_19 (by decide) ?_
        exact ih4 v14 v15 m13 _ _ _ hf hP hS (lv_sub hl [2, 3, 1, 0] rfl)
  have hl := lv_entry ([.ref (ad 359), .int a1]) (n := 4) (Nat.le_of_ble_eq_true rfl)
  rw [lg_entry_eq]
  generalize (lg_sl ([.ref (ad 359), .int a1]) ++ List.replicate (4 - (lg_sl ([.ref (ad 359), .int a1])).length) Slot.unset).toArray = ls at hl ⊢
  have hl : lv_has ls 4 [(0, .ref (ad 359)), (1, .int a1)] := hl
  unfold F_X7_doAdvance at hf
  refine lv_iconst (v := 0) hx hb dX7_doAdvance_0 (by decide) ?_
  refine lv_istore_n (lv' := [(2, .int 0), (0, .ref (ad 359)), (1, .int a1)]) hx hb dX7_doAdvance_1 rfl hl (by decide) rfl (fun ls hl => ?_)
  refine lv_iconst (v := 0) hx hb dX7_doAdvance_2 (by decide) ?_
  refine lv_istore_n (lv' := [(3, .int 0), (2, .int 0), (0, .ref (ad 359)), (1, .int a1)]) hx hb dX7_doAdvance_3 rfl hl (by decide) rfl (fun ls hl => ?_)
  exact hL4 fu 0 0 mm _ _ _ hf hP hS (lv_sub hl [2, 3, 1, 0] rfl)
def F_X7_advance (fu : Nat) (a1 : Int32) (mm : Mem) : Option (Int32 × Mem) := ob (F_X7_noAdvance fu a1 mm) fun r7 m8 => if 0 ≤ r7 then (ov (F_X7_record fu  m8) fun m10 => ob (F_X7_doAdvance fu a1 m10) fun r11 m12 => some (r11, m12)) else (some (r7, m8))
set_option maxHeartbeats 4000000 in
set_option maxRecDepth 100000 in
theorem c_X7_advance (l : Launch) (D : va_G) (ad : Nat → Nat) (cI cR : ClassId) (hi : inj ad) (fu : Nat) (a1 : Int32)  (mm : Mem) (r0 : Int32) (m9 : Mem) (hf : F_X7_advance fu a1 mm = some (r0, m9)) : MI l yX7_advance wsX7_advance { frames := 6, cells := 0, slots := 0, locals := 138 } D ad cI cR [.ref (ad 359), .int a1] mm r0 m9 := by
  refine Met.ofW (cc := cX7_advance) (maxL := 3) (ret := (some .int)) (by decide) rfl ?_
  intro p e s m args below meth c s₁ B hml hv
  obtain ⟨rfl, hP, hK, hN⟩ := hv
  have hx := B.exec
  have hb := B.bytes
  have hr := B.returns
  have hts := atoms_spec (ws := wsX7_advance) B.pre
  have hown : s.vm.findClass RX7 = some m.cls := findClass_of_methodNamed B.named
  have hlocks := B.notSynchronized
  have hA : ∀ q, AA ad q → AA ad q := fun _ h => h
  have hS : va_S (AA ad) s.heap s.heap [] := va_S.rf
  have hl := lv_entry ([.ref (ad 359), .int a1]) (n := 3) (Nat.le_of_ble_eq_true rfl)
  rw [lg_entry_eq]
  generalize (lg_sl ([.ref (ad 359), .int a1]) ++ List.replicate (3 - (lg_sl ([.ref (ad 359), .int a1])).length) Slot.unset).toArray = ls at hl ⊢
  have hl : lv_has ls 3 [(0, .ref (ad 359)), (1, .int a1)] := hl
  unfold F_X7_advance at hf
  refine lv_aload_n hx hb dX7_advance_0 rfl (lv_at hl 0 rfl) ?_
  refine lv_iload_n hx hb dX7_advance_1 rfl (lv_at hl 1 rfl) ?_
  obtain ⟨r7, m8, hq, hf⟩ := ob_e hf
  refine w_ci (va_runV (As := [.int a1]) (rest := []) ⟨hx, hb, hml, hown, hts⟩ (c_X7_noAdvance l D ad cI cR hi fu a1 mm r7 m8 hq) (cwV 1 hts gX7_advance_X7_noAdvance rfl rfl rfl (by decide +kernel) ⟨Nat.le_of_ble_eq_true rfl, Nat.le_of_ble_eq_true rfl⟩) (w_preV (ci := 7) hK hP hN (S_mod ad cI cR).1 (S_mod ad cI cR).2 rfl) rfl rfl hl.1 rfl (lv_room (Nat.le_of_ble_eq_true rfl)) dX7_advance_2 ⟨Nat.zero_le _, Nat.zero_le _⟩) hA hS (fun H locs hP hS => ?_)
  refine lv_istore_n (lv' := [(2, .int r7), (0, .ref (ad 359)), (1, .int a1)]) hx hb dX7_advance_5 rfl hl (by decide) rfl (fun ls hl => ?_)
  refine lv_iload_n hx hb dX7_advance_6 rfl (lv_at hl 0 rfl) ?_
  refine lv_if_ge (tgt := 12) hx hb dX7_advance_7 (by decide) (fun c9 => ?_) (fun c9 => ?_)
  · rw [if_pos c9] at hf
    refine lv_aload_n hx hb dX7_advance_12 rfl (lv_at hl 1 rfl) ?_
    obtain ⟨m10, hq, hf⟩ := ov_e hf
    refine w_cv (va_runV (As := []) (rest := []) ⟨hx, hb, hml, hown, hts⟩ (c_X7_record l D ad cI cR hi fu  m8 m10 hq) (cwV 0 hts gX7_advance_X7_record rfl rfl rfl (by decide +kernel) ⟨Nat.le_of_ble_eq_true rfl, Nat.le_of_ble_eq_true rfl⟩) (w_preV (ci := 7) hK hP hN (S_mod ad cI cR).1 (S_mod ad cI cR).2 rfl) rfl rfl hl.1 rfl (lv_room (Nat.le_of_ble_eq_true rfl)) dX7_advance_13 ⟨Nat.zero_le _, Nat.zero_le _⟩) hA hS (fun H locs hP hS => ?_)
    refine lv_aload_n hx hb dX7_advance_16 rfl (lv_at hl 1 rfl) ?_
    refine lv_iload_n hx hb dX7_advance_17 rfl (lv_at hl 2 rfl) ?_
    obtain ⟨r11, m12, hq, hf⟩ := ob_e hf
    refine w_ci (va_runV (As := [.int a1]) (rest := []) ⟨hx, hb, hml, hown, hts⟩ (c_X7_doAdvance l D ad cI cR hi fu a1 m10 r11 m12 hq) (cwV 1 hts gX7_advance_X7_doAdvance rfl rfl rfl (by decide +kernel) ⟨Nat.le_of_ble_eq_true rfl, Nat.le_of_ble_eq_true rfl⟩) (w_preV (ci := 7) hK hP hN (S_mod ad cI cR).1 (S_mod ad cI cR).2 rfl) rfl rfl hl.1 rfl (lv_room (Nat.le_of_ble_eq_true rfl)) dX7_advance_18 ⟨Nat.zero_le _, Nat.zero_le _⟩) hA hS (fun H locs hP hS => ?_)
    cases hf
    exact w_iret hx hb hr hlocks hP hS dX7_advance_21
  · rw [if_neg c9] at hf
    refine lv_iload_n hx hb dX7_advance_10 rfl (lv_at hl 0 rfl) ?_
    cases hf
    exact w_iret hx hb hr hlocks hP hS dX7_advance_11
