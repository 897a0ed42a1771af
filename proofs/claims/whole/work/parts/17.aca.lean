def F_X6_takeStep (fu : Nat) (a1 : Int32) (mm : Mem) : Option (Int32 × Mem) := ob (F_X3_at fu (356 + 1) 80 a1 mm) fun r27 m28 => if r27 = 43 then (bd (a1 + 1) fun v45 => ob (F_X5_numberAt fu v45 m28) fun r46 m47 => ob (F_X4_errorOfTicks fu 1 r46 m47) fun r48 m49 => if r48 = 0 then (ob (F_X4_letPass fu 1 r46 m49) fun r51 m52 => some (1, m52)) else (some (0, m49))) else (ob (F_X3_at fu (356 + 1) 80 a1 m28) fun r30 m31 => bd (r30 - 48) fun v32 => bd (a1 + 1) fun v33 => ob (F_X3_at fu (356 + 1) 80 v33 m31) fun r34 m35 => bd (r34 - 97) fun v36 => bd (a1 + 2) fun v37 => ob (F_X5_numberAt fu v37 m35) fun r38 m39 => ob (F_X4_errorOfOffer fu 1 v32 v36 r38 m39) fun r40 m41 => if r40 = 0 then (ob (F_X4_offerNew fu 1 v32 v36 r38 m41) fun r43 m44 => some (1, m44)) else (some (0, m41)))
set_option maxHeartbeats 4000000 in
set_option maxRecDepth 100000 in
theorem c_X6_takeStep (l : Launch) (D : va_G) (ad : Nat → Nat) (cI cR : ClassId) (hi : inj ad) (fu : Nat) (a1 : Int32)  (mm : Mem) (r0 : Int32) (m9 : Mem) (hf : F_X6_takeStep fu a1 mm = some (r0, m9)) : MI l yX6_takeStep wsX6_takeStep { frames := 6, cells := 0, slots := 0, locals := 137 } D ad cI cR [.ref (ad 0), .int a1] mm r0 m9 := by
  refine Met.ofW (cc := cX6_takeStep) (maxL := 5) (ret := (some .boolean)) (by decide) rfl ?_
  intro p e s m args below meth c s₁ B hml hv
  obtain ⟨rfl, hP, hK, hN⟩ := hv
  have hx := B.exec
  have hb := B.bytes
  have hr := B.returns
  have hts := atoms_spec (ws := wsX6_takeStep) B.pre
  have hown : s.vm.findClass RX6 = some m.cls := findClass_of_methodNamed B.named
  have hlocks := B.notSynchronized
  have hA : ∀ q, AA ad q → AA ad q := fun _ h => h
  have hS : va_S (AA ad) s.heap s.heap [] := va_S.rf
  have hinX5 : ∀ w ∈ wsX50, w ∈ wsX6_takeStep := (fun _ h => List.mem_cons_of_mem _ (List.mem_append_left _ (List.mem_append_left _ (List.mem_append_left _ (List.mem_append_left _ (List.mem_append_right _ h))))))
  have hinX6 : ∀ w ∈ wsX60, w ∈ wsX6_takeStep := (fun _ h => List.mem_cons_of_mem _ (List.mem_append_left _ (List.mem_append_left _ (List.mem_append_left _ (List.mem_append_left _ (List.mem_append_left _ (List.mem_append_right _ h)))))))
  have hl := lv_entry ([.ref (ad 0), .int a1]) (n := 5) (Nat.le_of_ble_eq_true rfl)
  rw [lg_entry_eq]
  generalize (lg_sl ([.ref (ad 0), .int a1]) ++ List.replicate (5 - (lg_sl ([.ref (ad 0), .int a1])).length) Slot.unset).toArray = ls at hl ⊢
  have hl : lv_has ls 5 [(0, .ref (ad 0)), (1, .int a1)] := hl
  unfold F_X6_takeStep at hf
  refine lv_aload_n hx hb dX6_takeStep_0 rfl (lv_at hl 0 rfl) ?_
  refine w_get (C := RX6) (T := TX6) (N := 4) (ci := 6) (v := .ref (ad 356)) hx hb hts hinX6 hown hK hP (S_ac ad cI cR).1 (S_ac ad cI cR).2 rfl 3 (by decide) (hts (.fieldLink RX6 29 "AdmissionControl" "text" "LAdmissionControl$Text;") (List.mem_of_getElem? (i := 1) rfl)) (fun _ h9 => h9) rfl dX6_takeStep_1 ?_
  refine w_get (C := RX5) (T := TX5) (N := 2) (ci := 5) (v := .ref (ad (356 + 1))) hx hb hts hinX5 hown hK hP (S_text ad cI cR).1 (S_text ad cI cR).2.1 rfl 0 (by decide) (hts (.fieldLink RX6 198 "AdmissionControl$Text" "characters" "LAdmissionControl$Row;") (List.mem_of_getElem? (i := 2) rfl)) (fun _ h9 => h9) rfl dX6_takeStep_4 ?_
  refine lv_iload_n hx hb dX6_takeStep_7 rfl (lv_at hl 1 rfl) ?_
  obtain ⟨r27, m28, hq, hf⟩ := ob_e hf
  refine w_ci (va_runV (As := [.int a1]) (rest := []) ⟨hx, hb, hml, hown, hts⟩ (c_X3_at l D ad cI cR hi fu (356 + 1) 80 a1 (S_text ad cI cR).2.2 mm r27 m28 hq) (cwV 1 hts gX6_takeStep_X3_at rfl rfl rfl (by decide +kernel) ⟨Nat.le_of_ble_eq_true rfl, Nat.le_of_ble_eq_true rfl⟩) (w_preV (ci := 3) hK hP hN (S_text ad cI cR).2.2.1 (S_text ad cI cR).2.2.2.1 rfl) rfl rfl hl.1 rfl (lv_room (Nat.le_of_ble_eq_true rfl)) dX6_takeStep_8 ⟨Nat.zero_le _, Nat.zero_le _⟩) hA hS (fun H locs hP hS => ?_)
  refine lv_bipush (v := 43) hx hb dX6_takeStep_11 (by decide) ?_
  refine lv_icmp_ne (tgt := 51) hx hb dX6_takeStep_13 (by decide) (fun c29 => ?_) (fun c29 => ?_)
  · rw [if_neg c29] at hf
    refine lv_aload_n hx hb dX6_takeStep_51 rfl (lv_at hl 0 rfl) ?_
    refine w_get (C := RX6) (T := TX6) (N := 4) (ci := 6) (v := .ref (ad 356)) hx hb hts hinX6 hown hK hP (S_ac ad cI cR).1 (S_ac ad cI cR).2 rfl 3 (by decide) (hts (.fieldLink RX6 29 "AdmissionControl" "text" "LAdmissionControl$Text;") (List.mem_of_getElem? (i := 1) rfl)) (fun _ h9 => h9) rfl dX6_takeStep_52 ?_
    refine w_get (C := RX5) (T := TX5) (N := 2) (ci := 5) (v := .ref (ad (356 + 1))) hx hb hts hinX5 hown hK hP (S_text ad cI cR).1 (S_text ad cI cR).2.1 rfl 0 (by decide) (hts (.fieldLink RX6 198 "AdmissionControl$Text" "characters" "LAdmissionControl$Row;") (List.mem_of_getElem? (i := 2) rfl)) (fun _ h9 => h9) rfl dX6_takeStep_55 ?_
    refine lv_iload_n hx hb dX6_takeStep_58 rfl (lv_at hl 1 rfl) ?_
    obtain ⟨r30, m31, hq, hf⟩ := ob_e hf
    refine w_ci (va_runV (As := [.int a1]) (rest := []) ⟨hx, hb, hml, hown, hts⟩ (c_X3_at l D ad cI cR hi fu (356 + 1) 80 a1 (S_text ad cI cR).2.2 m28 r30 m31 hq) (cwV 1 hts gX6_takeStep_X3_at rfl rfl rfl (by decide +kernel) ⟨Nat.le_of_ble_eq_true rfl, Nat.le_of_ble_eq_true rfl⟩) (w_preV (ci := 3) hK hP hN (S_text ad cI cR).2.2.1 (S_text ad cI cR).2.2.2.1 rfl) rfl rfl hl.1 rfl (lv_room (Nat.le_of_ble_eq_true rfl)) dX6_takeStep_59 ⟨Nat.zero_le _, Nat.zero_le _⟩) hA hS (fun H locs hP hS => ?_)
    refine lv_bipush (v := 48) hx hb dX6_takeStep_62 (by decide) ?_
    obtain ⟨v32, ev32, hf⟩ := bd_e hf
    refine lv_isub hx hb dX6_takeStep_64 ?_
    refine w_top ev32 ?_
    refine lv_istore_n (lv' := [(2, .int v32), (0, .ref (ad 0)), (1, .int a1)]) hx hb dX6_takeStep_65 rfl hl (by decide) rfl (fun ls hl => ?_)
    refine lv_aload_n hx hb dX6_takeStep_66 rfl (lv_at hl 1 rfl) ?_
    refine w_get (C := RX6) (T := TX6) (N := 4) (ci := 6) (v := .ref (ad 356)) hx hb hts hinX6 hown hK hP (S_ac ad cI cR).1 (S_ac ad cI cR).2 rfl 3 (by decide) (hts (.fieldLink RX6 29 "AdmissionControl" "text" "LAdmissionControl$Text;") (List.mem_of_getElem? (i := 1) rfl)) (fun _ h9 => h9) rfl dX6_takeStep_67 ?_
    refine w_get (C := RX5) (T := TX5) (N := 2) (ci := 5) (v := .ref (ad (356 + 1))) hx hb hts hinX5 hown hK hP (S_text ad cI cR).1 (S_text ad cI cR).2.1 rfl 0 (by decide) (hts (.fieldLink RX6 198 "AdmissionControl$Text" "characters" "LAdmissionControl$Row;") (List.mem_of_getElem? (i := 2) rfl)) (fun _ h9 => h9) rfl dX6_takeStep_70 ?_
    refine lv_iload_n hx hb dX6_takeStep_73 rfl (lv_at hl 2 rfl) ?_
    refine lv_iconst (v := 1) hx hb dX6_takeStep_74 (by decide) ?_
    obtain ⟨v33, ev33, hf⟩ := bd_e hf
    refine lv_iadd hx hb dX6_takeStep_75 ?_
    refine w_top ev33 ?_
    obtain ⟨r34, m35, hq, hf⟩ := ob_e hf
    refine w_ci (va_runV (As := [.int v33]) (rest := []) ⟨hx, hb, hml, hown, hts⟩ (c_X3_at l D ad cI cR hi fu (356 + 1) 80 v33 (S_text ad cI cR).2.2 m31 r34 m35 hq) (cwV 1 hts gX6_takeStep_X3_at rfl rfl rfl (by decide +kernel) ⟨Nat.le_of_ble_eq_true rfl, Nat.le_of_ble_eq_true rfl⟩) (w_preV (ci := 3) hK hP hN (S_text ad cI cR).2.2.1 (S_text ad cI cR).2.2.2.1 rfl) rfl rfl hl.1 rfl (lv_room (Nat.le_of_ble_eq_true rfl)) dX6_takeStep_76 ⟨Nat.zero_le _, Nat.zero_le _⟩) hA hS (fun H locs hP hS => ?_)
    refine lv_bipush (v := 97) hx hb dX6_takeStep_79 (by decide) ?_
    obtain ⟨v36, ev36, hf⟩ := bd_e hf
    refine lv_isub hx hb dX6_takeStep_81 ?_
    refine w_top ev36 ?_
    refine lv_istore_n (lv' := [(3, .int v36), (2, .int v32), (0, .ref (ad 0)), (1, .int a1)]) hx hb dX6_takeStep_82 rfl hl (by decide) rfl (fun ls hl => ?_)
    refine lv_aload_n hx hb dX6_takeStep_83 rfl (lv_at hl 2 rfl) ?_
    refine w_get (C := RX6) (T := TX6) (N := 4) (ci := 6) (v := .ref (ad 356)) hx hb hts hinX6 hown hK hP (S_ac ad cI cR).1 (S_ac ad cI cR).2 rfl 3 (by decide) (hts (.fieldLink RX6 29 "AdmissionControl" "text" "LAdmissionControl$Text;") (List.mem_of_getElem? (i := 1) rfl)) (fun _ h9 => h9) rfl dX6_takeStep_84 ?_
    refine lv_iload_n hx hb dX6_takeStep_87 rfl (lv_at hl 3 rfl) ?_
    refine lv_iconst (v := 2) hx hb dX6_takeStep_88 (by decide) ?_
    obtain ⟨v37, ev37, hf⟩ := bd_e hf
    refine lv_iadd hx hb dX6_takeStep_89 ?_
    refine w_top ev37 ?_
    obtain ⟨r38, m39, hq, hf⟩ := ob_e hf
    refine w_ci (va_runV (As := [.int v37]) (rest := []) ⟨hx, hb, hml, hown, hts⟩ (c_X5_numberAt l D ad cI cR hi fu v37 m35 r38 m39 hq) (cwV 1 hts gX6_takeStep_X5_numberAt rfl rfl rfl (by decide +kernel) ⟨Nat.le_of_ble_eq_true rfl, Nat.le_of_ble_eq_true rfl⟩) (w_preV (ci := 5) hK hP hN (S_text ad cI cR).1 (S_text ad cI cR).2.1 rfl) rfl rfl hl.1 rfl (lv_room (Nat.le_of_ble_eq_true rfl)) dX6_takeStep_90 ⟨Nat.zero_le _, Nat.zero_le _⟩) hA hS (fun H locs hP hS => ?_)
    refine lv_istore (lv' := [(4, .int r38), (3, .int v36), (2, .int v32), (0, .ref (ad 0)), (1, .int a1)]) hx hb dX6_takeStep_93 hl (by decide) rfl (fun ls hl => ?_)
    refine lv_aload_n hx hb dX6_takeStep_95 rfl (lv_at hl 3 rfl) ?_
    refine w_get (C := RX6) (T := TX6) (N := 4) (ci := 6) (v := .ref (ad 1)) hx hb hts hinX6 hown hK hP (S_ac ad cI cR).1 (S_ac ad cI cR).2 rfl 0 (by decide) (hts (.fieldLink RX6 10 "AdmissionControl" "server" "LAdmissionControl$Server;") (List.mem_of_getElem? (i := 3) rfl)) (fun _ h9 => h9) rfl dX6_takeStep_96 ?_
    refine lv_iload_n hx hb dX6_takeStep_99 rfl (lv_at hl 2 rfl) ?_
    refine lv_iload_n hx hb dX6_takeStep_100 rfl (lv_at hl 1 rfl) ?_
    refine lv_iload hx hb dX6_takeStep_101 (lv_at hl 0 rfl) ?_
    obtain ⟨r40, m41, hq, hf⟩ := ob_e hf
    refine w_ci (va_runV (As := [.int v32, .int v36, .int r38]) (rest := []) ⟨hx, hb, hml, hown, hts⟩ (c_X4_errorOfOffer l D ad cI cR hi fu 1 v32 v36 r38 (S_srv1 ad cI cR) m39 r40 m41 hq) (cwV 3 hts gX6_takeStep_X4_errorOfOffer rfl rfl rfl (by decide +kernel) ⟨Nat.le_of_ble_eq_true rfl, Nat.le_of_ble_eq_true rfl⟩) (w_preV (ci := 4) hK hP hN (S_srv1 ad cI cR).1 (S_srv1 ad cI cR).2.1 rfl) rfl rfl hl.1 rfl (lv_room (Nat.le_of_ble_eq_true rfl)) dX6_takeStep_103 ⟨Nat.zero_le _, Nat.zero_le _⟩) hA hS (fun H locs hP hS => ?_)
    refine lv_if_eq (tgt := 111) hx hb dX6_takeStep_106 (by decide) (fun c42 => ?_) (fun c42 => ?_)
    · rw [if_pos c42] at hf
      refine lv_aload_n hx hb dX6_takeStep_111 rfl (lv_at hl 3 rfl) ?_
      refine w_get (C := RX6) (T := TX6) (N := 4) (ci := 6) (v := .ref (ad 1)) hx hb hts hinX6 hown hK hP (S_ac ad cI cR).1 (S_ac ad cI cR).2 rfl 0 (by decide) (hts (.fieldLink RX6 10 "AdmissionControl" "server" "LAdmissionControl$Server;") (List.mem_of_getElem? (i := 3) rfl)) (fun _ h9 => h9) rfl dX6_takeStep_112 ?_
      refine lv_iload_n hx hb dX6_takeStep_115 rfl (lv_at hl 2 rfl) ?_
      refine lv_iload_n hx hb dX6_takeStep_116 rfl (lv_at hl 1 rfl) ?_
      refine lv_iload hx hb dX6_takeStep_117 (lv_at hl 0 rfl) ?_
      obtain ⟨r43, m44, hq, hf⟩ := ob_e hf
      refine w_ci (va_runV (As := [.int v32, .int v36, .int r38]) (rest := []) ⟨hx, hb, hml, hown, hts⟩ (c_X4_offerNew l D ad cI cR hi fu 1 v32 v36 r38 (S_srv1 ad cI cR) m41 r43 m44 hq) (cwV 3 hts gX6_takeStep_X4_offerNew rfl rfl rfl (by decide +kernel) ⟨Nat.le_of_ble_eq_true rfl, Nat.le_of_ble_eq_true rfl⟩) (w_preV (ci := 4) hK hP hN (S_srv1 ad cI cR).1 (S_srv1 ad cI cR).2.1 rfl) rfl rfl hl.1 rfl (lv_room (Nat.le_of_ble_eq_true rfl)) dX6_takeStep_119 ⟨Nat.zero_le _, Nat.zero_le _⟩) hA hS (fun H locs hP hS => ?_)
      refine lv_pop hx hb dX6_takeStep_122 rfl ?_
      refine lv_iconst (v := 1) hx hb dX6_takeStep_123 (by decide) ?_
      cases hf
      exact w_zret hx hb hr hlocks rfl hP hS dX6_takeStep_124
    · rw [if_neg c42] at hf
      refine lv_iconst (v := 0) hx hb dX6_takeStep_109 (by decide) ?_
      cases hf
      exact w_zret hx hb hr hlocks rfl hP hS dX6_takeStep_110
  · rw [if_pos c29] at hf
    refine lv_aload_n hx hb dX6_takeStep_16 rfl (lv_at hl 0 rfl) ?_
    refine w_get (C := RX6) (T := TX6) (N := 4) (ci := 6) (v := .ref (ad 356)) hx hb hts hinX6 hown hK hP (S_ac ad cI cR).1 (S_ac ad cI cR).2 rfl 3 (by decide) (hts (.fieldLink RX6 29 "AdmissionControl" "text" "LAdmissionControl$Text;") (List.mem_of_getElem? (i := 1) rfl)) (fun _ h9 => h9) rfl dX6_takeStep_17 ?_
    refine lv_iload_n hx hb dX6_takeStep_20 rfl (lv_at hl 1 rfl) ?_
    refine lv_iconst (v := 1) hx hb dX6_takeStep_21 (by decide) ?_
    obtain ⟨v45, ev45, hf⟩ := bd_e hf
    refine lv_iadd hx hb dX6_takeStep_22 ?_
    refine w_top ev45 ?_
    obtain ⟨r46, m47, hq, hf⟩ := ob_e hf
    refine w_ci (va_runV (As := [.int v45]) (rest := []) ⟨hx, hb, hml, hown, hts⟩ (c_X5_numberAt l D ad cI cR hi fu v45 m28 r46 m47 hq) (cwV 1 hts gX6_takeStep_X5_numberAt rfl rfl rfl (by decide +kernel) ⟨Nat.le_of_ble_eq_true rfl, Nat.le_of_ble_eq_true rfl⟩) (w_preV (ci := 5) hK hP hN (S_text ad cI cR).1 (S_text ad cI cR).2.1 rfl) rfl rfl hl.1 rfl (lv_room (Nat.le_of_ble_eq_true rfl)) dX6_takeStep_23 ⟨Nat.zero_le _, Nat.zero_le _⟩) hA hS (fun H locs hP hS => ?_)
    refine lv_istore_n (lv' := [(2, .int r46), (0, .ref (ad 0)), (1, .int a1)]) hx hb dX6_takeStep_26 rfl hl (by decide) rfl (fun ls hl => ?_)
    refine lv_aload_n hx hb dX6_takeStep_27 rfl (lv_at hl 1 rfl) ?_
    refine w_get (C := RX6) (T := TX6) (N := 4) (ci := 6) (v := .ref (ad 1)) hx hb hts hinX6 hown hK hP (S_ac ad cI cR).1 (S_ac ad cI cR).2 rfl 0 (by decide) (hts (.fieldLink RX6 10 "AdmissionControl" "server" "LAdmissionControl$Server;") (List.mem_of_getElem? (i := 3) rfl)) (fun _ h9 => h9) rfl dX6_takeStep_28 ?_
    refine lv_iload_n hx hb dX6_takeStep_31 rfl (lv_at hl 0 rfl) ?_
    obtain ⟨r48, m49, hq, hf⟩ := ob_e hf
    refine w_ci (va_runV (As := [.int r46]) (rest := []) ⟨hx, hb, hml, hown, hts⟩ (c_X4_errorOfTicks l D ad cI cR hi fu 1 r46 (S_srv1 ad cI cR) m47 r48 m49 hq) (cwV 1 hts gX6_takeStep_X4_errorOfTicks rfl rfl rfl (by decide +kernel) ⟨Nat.le_of_ble_eq_true rfl, Nat.le_of_ble_eq_true rfl⟩) (w_preV (ci := 4) hK hP hN (S_srv1 ad cI cR).1 (S_srv1 ad cI cR).2.1 rfl) rfl rfl hl.1 rfl (lv_room (Nat.le_of_ble_eq_true rfl)) dX6_takeStep_32 ⟨Nat.zero_le _, Nat.zero_le _⟩) hA hS (fun H locs hP hS => ?_)
    refine lv_if_eq (tgt := 40) hx hb dX6_takeStep_35 (by decide) (fun c50 => ?_) (fun c50 => ?_)
    · rw [if_pos c50] at hf
      refine lv_aload_n hx hb dX6_takeStep_40 rfl (lv_at hl 1 rfl) ?_
      refine w_get (C := RX6) (T := TX6) (N := 4) (ci := 6) (v := .ref (ad 1)) hx hb hts hinX6 hown hK hP (S_ac ad cI cR).1 (S_ac ad cI cR).2 rfl 0 (by decide) (hts (.fieldLink RX6 10 "AdmissionControl" "server" "LAdmissionControl$Server;") (List.mem_of_getElem? (i := 3) rfl)) (fun _ h9 => h9) rfl dX6_takeStep_41 ?_
      refine lv_iload_n hx hb dX6_takeStep_44 rfl (lv_at hl 0 rfl) ?_
      obtain ⟨r51, m52, hq, hf⟩ := ob_e hf
      refine w_ci (va_runV (As := [.int r46]) (rest := []) ⟨hx, hb, hml, hown, hts⟩ (c_X4_letPass l D ad cI cR hi fu 1 r46 (S_srv1 ad cI cR) m49 r51 m52 hq) (cwV 1 hts gX6_takeStep_X4_letPass rfl rfl rfl (by decide +kernel) ⟨Nat.le_of_ble_eq_true rfl, Nat.le_of_ble_eq_true rfl⟩) (w_preV (ci := 4) hK hP hN (S_srv1 ad cI cR).1 (S_srv1 ad cI cR).2.1 rfl) rfl rfl hl.1 rfl (lv_room (Nat.le_of_ble_eq_true rfl)) dX6_takeStep_45 ⟨Nat.zero_le _, Nat.zero_le _⟩) hA hS (fun H locs hP hS => ?_)
      refine lv_pop hx hb dX6_takeStep_48 rfl ?_
      refine lv_iconst (v := 1) hx hb dX6_takeStep_49 (by decide) ?_
      cases hf
      exact w_zret hx hb hr hlocks rfl hP hS dX6_takeStep_50
    · rw [if_neg c50] at hf
      refine lv_iconst (v := 0) hx hb dX6_takeStep_38 (by decide) ?_
      cases hf
      exact w_zret hx hb hr hlocks rfl hP hS dX6_takeStep_39
def F_X6_beginTrial (fu : Nat) (a1 : Int32) (mm : Mem) : Option (Mem) := ov (F_X4_copyFrom fu 60 1 mm) fun m3 => ov (F_X3_put fu (60 + 1) 4 0 a1 m3) fun m4 => some m4
set_option maxHeartbeats 4000000 in
set_option maxRecDepth 100000 in
theorem c_X6_beginTrial (l : Launch) (D : va_G) (ad : Nat → Nat) (cI cR : ClassId) (hi : inj ad) (fu : Nat) (a1 : Int32)  (mm : Mem) (m9 : Mem) (hf : F_X6_beginTrial fu a1 mm = some m9) : MV l yX6_beginTrial wsX6_beginTrial { frames := 3, cells := 0, slots := 0, locals := 67 } D ad cI cR [.ref (ad 0), .int a1] mm m9 := by
  refine Met.ofW (cc := cX6_beginTrial) (maxL := 2) (ret := none) (by decide) rfl ?_
  intro p e s m args below meth c s₁ B hml hv
  obtain ⟨rfl, hP, hK, hN⟩ := hv
  have hx := B.exec
  have hb := B.bytes
  have hr := B.returns
  have hts := atoms_spec (ws := wsX6_beginTrial) B.pre
  have hown : s.vm.findClass RX6 = some m.cls := findClass_of_methodNamed B.named
  have hlocks := B.notSynchronized
  have hA : ∀ q, AA ad q → AA ad q := fun _ h => h
  have hS : va_S (AA ad) s.heap s.heap [] := va_S.rf
  have hinX4 : ∀ w ∈ wsX40, w ∈ wsX6_beginTrial := (fun _ h => List.mem_cons_of_mem _ (List.mem_append_left _ (List.mem_append_left _ (List.mem_append_left _ (List.mem_append_right _ h)))))
  have hinX6 : ∀ w ∈ wsX60, w ∈ wsX6_beginTrial := (fun _ h => List.mem_cons_of_mem _ (List.mem_append_left _ (List.mem_append_left _ (List.mem_append_left _ (List.mem_append_left _ (List.mem_append_right _ h))))))
  have hl := lv_entry ([.ref (ad 0), .int a1]) (n := 2) (Nat.le_of_ble_eq_true rfl)
  rw [lg_entry_eq]
  generalize (lg_sl ([.ref (ad 0), .int a1]) ++ List.replicate (2 - (lg_sl ([.ref (ad 0), .int a1])).length) Slot.unset).toArray = ls at hl ⊢
  have hl : lv_has ls 2 [(0, .ref (ad 0)), (1, .int a1)] := hl
  unfold F_X6_beginTrial at hf
  refine lv_aload_n hx hb dX6_beginTrial_0 rfl (lv_at hl 0 rfl) ?_
  refine w_get (C := RX6) (T := TX6) (N := 4) (ci := 6) (v := .ref (ad 60)) hx hb hts hinX6 hown hK hP (S_ac ad cI cR).1 (S_ac ad cI cR).2 rfl 1 (by decide) (hts (.fieldLink RX6 16 "AdmissionControl" "trial" "LAdmissionControl$Server;") (List.mem_of_getElem? (i := 1) rfl)) (fun _ h9 => h9) rfl dX6_beginTrial_1 ?_
  refine lv_aload_n hx hb dX6_beginTrial_4 rfl (lv_at hl 0 rfl) ?_
  refine w_get (C := RX6) (T := TX6) (N := 4) (ci := 6) (v := .ref (ad 1)) hx hb hts hinX6 hown hK hP (S_ac ad cI cR).1 (S_ac ad cI cR).2 rfl 0 (by decide) (hts (.fieldLink RX6 10 "AdmissionControl" "server" "LAdmissionControl$Server;") (List.mem_of_getElem? (i := 2) rfl)) (fun _ h9 => h9) rfl dX6_beginTrial_5 ?_
  obtain ⟨m3, hq, hf⟩ := ov_e hf
  refine w_cv (va_runV (As := [.ref (ad 1)]) (rest := []) ⟨hx, hb, hml, hown, hts⟩ (c_X4_copyFrom l D ad cI cR hi fu 60 1 (S_srv60 ad cI cR) (S_srv1 ad cI cR) mm m3 hq) (cwV 1 hts gX6_beginTrial_X4_copyFrom rfl rfl rfl (by decide +kernel) ⟨Nat.le_of_ble_eq_true rfl, Nat.le_of_ble_eq_true rfl⟩) (w_preV (ci := 4) hK hP hN (S_srv60 ad cI cR).1 (S_srv60 ad cI cR).2.1 rfl) rfl rfl hl.1 rfl (lv_room (Nat.le_of_ble_eq_true rfl)) dX6_beginTrial_8 ⟨Nat.zero_le _, Nat.zero_le _⟩) hA hS (fun H locs hP hS => ?_)
  refine lv_aload_n hx hb dX6_beginTrial_11 rfl (lv_at hl 0 rfl) ?_
  refine w_get (C := RX6) (T := TX6) (N := 4) (ci := 6) (v := .ref (ad 60)) hx hb hts hinX6 hown hK hP (S_ac ad cI cR).1 (S_ac ad cI cR).2 rfl 1 (by decide) (hts (.fieldLink RX6 16 "AdmissionControl" "trial" "LAdmissionControl$Server;") (List.mem_of_getElem? (i := 1) rfl)) (fun _ h9 => h9) rfl dX6_beginTrial_12 ?_
  refine w_get (C := RX4) (T := TX4) (N := 11) (ci := 4) (v := .ref (ad (60 + 1))) hx hb hts hinX4 hown hK hP (S_srv60 ad cI cR).1 (S_srv60 ad cI cR).2.1 rfl 0 (by decide) (hts (.fieldLink RX6 47 "AdmissionControl$Server" "settings" "LAdmissionControl$Row;") (List.mem_of_getElem? (i := 3) rfl)) (fun _ h9 => h9) rfl dX6_beginTrial_15 ?_
  refine lv_iconst (v := 0) hx hb dX6_beginTrial_18 (by decide) ?_
  refine lv_iload_n hx hb dX6_beginTrial_19 rfl (lv_at hl 1 rfl) ?_
  obtain ⟨m4, hq, hf⟩ := ov_e hf
  refine w_cv (va_runV (As := [.int 0, .int a1]) (rest := []) ⟨hx, hb, hml, hown, hts⟩ (c_X3_put l D ad cI cR hi fu (60 + 1) 4 0 a1 (S_srv60 ad cI cR).2.2.1 m3 m4 hq) (cwV 2 hts gX6_beginTrial_X3_put rfl rfl rfl (by decide +kernel) ⟨Nat.le_of_ble_eq_true rfl, Nat.le_of_ble_eq_true rfl⟩) (w_preV (ci := 3) hK hP hN (S_srv60 ad cI cR).2.2.1.1 (S_srv60 ad cI cR).2.2.1.2.1 rfl) rfl rfl hl.1 rfl (lv_room (Nat.le_of_ble_eq_true rfl)) dX6_beginTrial_20 ⟨Nat.zero_le _, Nat.zero_le _⟩) hA hS (fun H locs hP hS => ?_)
  cases hf
  exact w_vret hx hb hr hlocks hP hS dX6_beginTrial_23
def F_X6_ticksOfTrial_L38 (fu : Nat) (a1 : Int32)  (x2 : Int32) (mm : Mem) : Option (Int32 × Mem) := if (mm 60 7) = 0 then (some (x2, mm)) else (some ((-100005), mm))
def F_X6_ticksOfTrial_L7 (fu : Nat) (a1 : Int32)  : Nat → Int32 → Mem → Option (Int32 × Mem)
  | 0, _, _ => none
  | n + 1, x2, mm => if 400 ≤ x2 then (F_X6_ticksOfTrial_L38 fu a1 x2 mm) else (if (mm 60 7) ≤ 0 then (F_X6_ticksOfTrial_L38 fu a1 x2 mm) else (ob (F_X4_tick fu 60 mm) fun r17 m18 => bd (x2 + 1) fun v19 => F_X6_ticksOfTrial_L7 fu a1 n v19 m18))
def F_X6_ticksOfTrial (fu : Nat) (a1 : Int32) (mm : Mem) : Option (Int32 × Mem) := ov (F_X6_beginTrial fu a1 mm) fun m20 => F_X6_ticksOfTrial_L7 fu a1 fu 0 m20
set_option maxHeartbeats 4000000 in
set_option maxRecDepth 100000 in
theorem c_X6_ticksOfTrial (l : Launch) (D : va_G) (ad : Nat → Nat) (cI cR : ClassId) (hi : inj ad) (fu : Nat) (a1 : Int32)  (mm : Mem) (r0 : Int32) (m9 : Mem) (hf : F_X6_ticksOfTrial fu a1 mm = some (r0, m9)) : MI l yX6_ticksOfTrial wsX6_ticksOfTrial { frames := 5, cells := 0, slots := 0, locals := 114 } D ad cI cR [.ref (ad 0), .int a1] mm r0 m9 := by
  refine Met.ofW (cc := cX6_ticksOfTrial) (maxL := 3) (ret := (some .int)) (by decide) rfl ?_
  intro p e s m args below meth c s₁ B hml hv
  obtain ⟨rfl, hP, hK, hN⟩ := hv
  have hx := B.exec
  have hb := B.bytes
  have hr := B.returns
  have hts := atoms_spec (ws := wsX6_ticksOfTrial) B.pre
  have hown : s.vm.findClass RX6 = some m.cls := findClass_of_methodNamed B.named
  have hlocks := B.notSynchronized
  have hA : ∀ q, AA ad q → AA ad q := fun _ h => h
  have hS : va_S (AA ad) s.heap s.heap [] := va_S.rf
  have hinX4 : ∀ w ∈ wsX40, w ∈ wsX6_ticksOfTrial := (fun _ h => List.mem_cons_of_mem _ (List.mem_append_left _ (List.mem_append_left _ (List.mem_append_left _ (List.mem_append_right _ h)))))
  have hinX6 : ∀ w ∈ wsX60, w ∈ wsX6_ticksOfTrial := (fun _ h => List.mem_cons_of_mem _ (List.mem_append_left _ (List.mem_append_left _ (List.mem_append_left _ (List.mem_append_left _ (List.mem_append_right _ h))))))
  have hL38 : ∀ (x2 : Int32)  (mm : Mem) (H : Heap) (locs : List Loc) (ls : Array Slot), F_X6_ticksOfTrial_L38 fu a1  x2 mm = some (r0, m9) → va_P D vwCl (cw ad cI cR mm) H → va_S (AA ad) s.heap H locs → lv_has ls 3 [(0, .ref (ad 0)), (2, .int x2)] → W p l e (headSpec wsX6_ticksOfTrial { frames := 5, cells := 0, slots := 0, locals := 114 }).room s m ([.ref (ad 0), .int a1] : List Value).toArray below meth c H locs 0 0 (MQ below (va_Qi (fun (r' : Int32) (u : Mem) => r' = r0 ∧ u = m9) (KB D ad cI cR) (AA ad)) ([.ref (ad 0), .int a1] : List Value).toArray s 0 0 (AA ad)) (F0 m 38 ls []) := by
    intro x2 mm H locs ls hf hP hS hl
    unfold F_X6_ticksOfTrial_L38 at hf
    refine lv_aload_n hx hb dX6_ticksOfTrial_38 rfl (lv_at hl 0 rfl) ?_
    refine w_get (C := RX6) (T := TX6) (N := 4) (ci := 6) (v := .ref (ad 60)) hx hb hts hinX6 hown hK hP (S_ac ad cI cR).1 (S_ac ad cI cR).2 rfl 1 (by decide) (hts (.fieldLink RX6 16 "AdmissionControl" "trial" "LAdmissionControl$Server;") (List.mem_of_getElem? (i := 1) rfl)) (fun _ h9 => h9) rfl dX6_ticksOfTrial_39 ?_
    refine w_get (C := RX4) (T := TX4) (N := 11) (ci := 4) (v := .int (mm 60 7)) hx hb hts hinX4 hown hK hP (S_srv60 ad cI cR).1 (S_srv60 ad cI cR).2.1 rfl 7 (by decide) (hts (.fieldLink RX6 207 "AdmissionControl$Server" "open" "I") (List.mem_of_getElem? (i := 2) rfl)) (fun _ h9 => h9) rfl dX6_ticksOfTrial_42 ?_
    refine lv_if_ne (tgt := 52) hx hb dX6_ticksOfTrial_45 (by decide) (fun c14 => ?_) (fun c14 => ?_)
    · rw [if_neg c14] at hf
      refine lv_ldc (v := (-100005)) hx hb hown (hts (.constant RX6 100 (-100005)) (List.mem_of_getElem? (i := 3) rfl)) dX6_ticksOfTrial_52 ?_
      cases hf
      exact w_iret hx hb hr hlocks hP hS dX6_ticksOfTrial_54
    · rw [if_pos c14] at hf
      refine lv_iload_n hx hb dX6_ticksOfTrial_48 rfl (lv_at hl 1 rfl) ?_
      refine lv_goto (tgt := 54) hx hb dX6_ticksOfTrial_49 (by decide) ?_
      cases hf
      exact w_iret hx hb hr hlocks hP hS dX6_ticksOfTrial_54
  have hL7 : ∀ (n : Nat) (x2 : Int32)  (mm : Mem) (H : Heap) (locs : List Loc) (ls : Array Slot), F_X6_ticksOfTrial_L7 fu a1  n x2 mm = some (r0, m9) → va_P D vwCl (cw ad cI cR mm) H → va_S (AA ad) s.heap H locs → lv_has ls 3 [(0, .ref (ad 0)), (2, .int x2)] → W p l e (headSpec wsX6_ticksOfTrial { frames := 5, cells := 0, slots := 0, locals := 114 }).room s m ([.ref (ad 0), .int a1] : List Value).toArray below meth c H locs 0 0 (MQ below (va_Qi (fun (r' : Int32) (u : Mem) => r' = r0 ∧ u = m9) (KB D ad cI cR) (AA ad)) ([.ref (ad 0), .int a1] : List Value).toArray s 0 0 (AA ad)) (F0 m 7 ls []) := by
    intro n
    induction n with
    | zero =>
      intro x2 mm H locs ls hf hP hS hl
      rw [F_X6_ticksOfTrial_L7] at hf
      cases hf
    | succ n7 ih7 =>
      intro x2 mm H locs ls hf hP hS hl
      rw [F_X6_ticksOfTrial_L7] at hf
      refine lv_iload_n hx hb dX6_ticksOfTrial_7 rfl (lv_at hl 1 rfl) ?_
      refine lv_sipush (v := 400) hx hb dX6_ticksOfTrial_8 (by decide) ?_
      refine lv_icmp_ge (tgt := 38) hx hb dX6_ticksOfTrial_11 (by decide) (fun c15 => ?_) (fun c15 => ?_)
      · rw [if_pos c15] at hf
        exact hL38 x2 mm _ _ _ hf hP hS (lv_sub hl [0, 1] rfl)
      · rw [if_neg c15] at hf
        refine lv_aload_n hx hb dX6_ticksOfTrial_14 rfl (lv_at hl 0 rfl) ?_
        refine w_get (C := RX6) (T := TX6) (N := 4) (ci := 6) (v := .ref (ad 60)) hx hb hts hinX6 hown hK hP (S_ac ad cI cR).1 (S_ac ad cI cR).2 rfl 1 (by decide) (hts (.fieldLink RX6 16 "AdmissionControl" "trial" "LAdmissionControl$Server;") (List.mem_of_getElem? (i := 1) rfl)) (fun _ h9 => h9) rfl dX6_ticksOfTrial_15 ?_
        refine w_get (C := RX4) (T := TX4) (N := 11) (ci := 4) (v := .int (mm 60 7)) hx hb hts hinX4 hown hK hP (S_srv60 ad cI cR).1 (S_srv60 ad cI cR).2.1 rfl 7 (by decide) (hts (.fieldLink RX6 207 "AdmissionControl$Server" "open" "I") (List.mem_of_getElem? (i := 2) rfl)) (fun _ h9 => h9) rfl dX6_ticksOfTrial_18 ?_
        refine lv_if_le (tgt := 38) hx hb dX6_ticksOfTrial_21 (by decide) (fun c16 => ?_) (fun c16 => ?_)
        · rw [if_pos c16] at hf
          exact hL38 x2 mm _ _ _ hf hP hS (lv_sub hl [0, 1] rfl)
        · rw [if_neg c16] at hf
          refine lv_aload_n hx hb dX6_ticksOfTrial_24 rfl (lv_at hl 0 rfl) ?_
          refine w_get (C := RX6) (T := TX6) (N := 4) (ci := 6) (v := .ref (ad 60)) hx hb hts hinX6 hown hK hP (S_ac ad cI cR).1 (S_ac ad cI cR).2 rfl 1 (by decide) (hts (.fieldLink RX6 16 "AdmissionControl" "trial" "LAdmissionControl$Server;") (List.mem_of_getElem? (i := 1) rfl)) (fun _ h9 => h9) rfl dX6_ticksOfTrial_25 ?_
          obtain ⟨r17, m18, hq, hf⟩ := ob_e hf
          refine w_ci (va_runV (As := []) (rest := []) ⟨hx, hb, hml, hown, hts⟩ (c_X4_tick l D ad cI cR hi fu 60 (S_srv60 ad cI cR) mm r17 m18 hq) (cwV 0 hts gX6_ticksOfTrial_X4_tick rfl rfl rfl (by decide +kernel) ⟨Nat.le_of_ble_eq_true rfl, Nat.le_of_ble_eq_true rfl⟩) (w_preV (ci := 4) hK hP hN (S_srv60 ad cI cR).1 (S_srv60 ad cI cR).2.1 rfl) rfl rfl hl.1 rfl (lv_room (Nat.le_of_ble_eq_true rfl)) dX6_ticksOfTrial_28 ⟨Nat.zero_le _, Nat.zero_le _⟩) hA hS (fun H locs hP hS => ?_)
          refine lv_pop hx hb dX6_ticksOfTrial_31 rfl ?_
          obtain ⟨v19, ev19, hf⟩ := bd_e hf
          refine lv_iinc (v := v19) (lv' := [(2, .int v19), (0, .ref (ad 0))]) hx hb dX6_ticksOfTrial_32 hl (k := 1) rfl (by rw [ev19]; rfl) (by decide) rfl (fun ls hl => ?_)
          refine lv_goto (tgt := 7) hx hb dX6_ticksOfTrial_35 (by decide) ?_
          exact ih7 v19 m18 _ _ _ hf hP hS (lv_sub hl [1, 0] rfl)
  have hl := lv_entry ([.ref (ad 0), .int a1]) (n := 3) (Nat.le_of_ble_eq_true rfl)
  rw [lg_entry_eq]
  generalize (lg_sl ([.ref (ad 0), .int a1]) ++ List.replicate (3 - (lg_sl ([.ref (ad 0), .int a1])).length) Slot.unset).toArray = ls at hl ⊢
  have hl : lv_has ls 3 [(0, .ref (ad 0)), (1, .int a1)] := hl
  unfold F_X6_ticksOfTrial at hf
  refine lv_aload_n hx hb dX6_ticksOfTrial_0 rfl (lv_at hl 0 rfl) ?_
  refine lv_iload_n hx hb dX6_ticksOfTrial_1 rfl (lv_at hl 1 rfl) ?_
  obtain ⟨m20, hq, hf⟩ := ov_e hf
  refine w_cv (va_runV (As := [.int a1]) (rest := []) ⟨hx, hb, hml, hown, hts⟩ (c_X6_beginTrial l D ad cI cR hi fu a1 mm m20 hq) (cwV 1 hts gX6_ticksOfTrial_X6_beginTrial rfl rfl rfl (by decide +kernel) ⟨Nat.le_of_ble_eq_true rfl, Nat.le_of_ble_eq_true rfl⟩) (w_preV (ci := 6) hK hP hN (S_ac ad cI cR).1 (S_ac ad cI cR).2 rfl) rfl rfl hl.1 rfl (lv_room (Nat.le_of_ble_eq_true rfl)) dX6_ticksOfTrial_2 ⟨Nat.zero_le _, Nat.zero_le _⟩) hA hS (fun H locs hP hS => ?_)
  refine lv_iconst (v := 0) hx hb dX6_ticksOfTrial_5 (by decide) ?_
  refine lv_istore_n (lv' := [(2, .int 0), (0, .ref (ad 0)), (1, .int a1)]) hx hb dX6_ticksOfTrial_6 rfl hl (by decide) rfl (fun ls hl => ?_)
  exact hL7 fu 0 m20 _ _ _ hf hP hS (lv_sub hl [1, 0] rfl)
def F_X6_trialEndsWithoutRejection_L55 (fu : Nat) (a1 : Int32)   (mm : Mem) : Option (Int32 × Mem) := if (mm 60 7) = 0 then (if (mm 60 8) = (mm 1 8) then (some (1, mm)) else (some (0, mm))) else (some (0, mm))
def F_X6_trialEndsWithoutRejection_L7 (fu : Nat) (a1 : Int32)  : Nat → Int32 → Mem → Option (Int32 × Mem)
  | 0, _, _ => none
  | n + 1, x2, mm => if 400 ≤ x2 then (F_X6_trialEndsWithoutRejection_L55 fu a1 mm) else (if (mm 60 7) ≤ 0 then (F_X6_trialEndsWithoutRejection_L55 fu a1 mm) else (if (mm 60 8) = (mm 1 8) then (ob (F_X4_tick fu 60 mm) fun r21 m22 => bd (x2 + 1) fun v23 => F_X6_trialEndsWithoutRejection_L7 fu a1 n v23 m22) else (F_X6_trialEndsWithoutRejection_L55 fu a1 mm)))
def F_X6_trialEndsWithoutRejection (fu : Nat) (a1 : Int32) (mm : Mem) : Option (Int32 × Mem) := ov (F_X6_beginTrial fu a1 mm) fun m24 => F_X6_trialEndsWithoutRejection_L7 fu a1 fu 0 m24
set_option maxHeartbeats 4000000 in
set_option maxRecDepth 100000 in
theorem c_X6_trialEndsWithoutRejection (l : Launch) (D : va_G) (ad : Nat → Nat) (cI cR : ClassId) (hi : inj ad) (fu : Nat) (a1 : Int32)  (mm : Mem) (r0 : Int32) (m9 : Mem) (hf : F_X6_trialEndsWithoutRejection fu a1 mm = some (r0, m9)) : MI l yX6_trialEndsWithoutRejection wsX6_trialEndsWithoutRejection { frames := 5, cells := 0, slots := 0, locals := 114 } D ad cI cR [.ref (ad 0), .int a1] mm r0 m9 := by
  refine Met.ofW (cc := cX6_trialEndsWithoutRejection) (maxL := 3) (ret := (some .boolean)) (by decide) rfl ?_
  intro p e s m args below meth c s₁ B hml hv
  obtain ⟨rfl, hP, hK, hN⟩ := hv
  have hx := B.exec
  have hb := B.bytes
  have hr := B.returns
  have hts := atoms_spec (ws := wsX6_trialEndsWithoutRejection) B.pre
  have hown : s.vm.findClass RX6 = some m.cls := findClass_of_methodNamed B.named
  have hlocks := B.notSynchronized
  have hA : ∀ q, AA ad q → AA ad q := fun _ h => h
  have hS : va_S (AA ad) s.heap s.heap [] := va_S.rf
  have hinX4 : ∀ w ∈ wsX40, w ∈ wsX6_trialEndsWithoutRejection := (fun _ h => List.mem_cons_of_mem _ (List.mem_append_left _ (List.mem_append_left _ (List.mem_append_left _ (List.mem_append_right _ h)))))
  have hinX6 : ∀ w ∈ wsX60, w ∈ wsX6_trialEndsWithoutRejection := (fun _ h => List.mem_cons_of_mem _ (List.mem_append_left _ (List.mem_append_left _ (List.mem_append_left _ (List.mem_append_left _ (List.mem_append_right _ h))))))
  have hL55 : ∀   (mm : Mem) (H : Heap) (locs : List Loc) (ls : Array Slot), F_X6_trialEndsWithoutRejection_L55 fu a1   mm = some (r0, m9) → va_P D vwCl (cw ad cI cR mm) H → va_S (AA ad) s.heap H locs → lv_has ls 3 [(0, .ref (ad 0))] → W p l e (headSpec wsX6_trialEndsWithoutRejection { frames := 5, cells := 0, slots := 0, locals := 114 }).room s m ([.ref (ad 0), .int a1] : List Value).toArray below meth c H locs 0 0 (MQ below (va_Qi (fun (r' : Int32) (u : Mem) => r' = r0 ∧ u = m9) (KB D ad cI cR) (AA ad)) ([.ref (ad 0), .int a1] : List Value).toArray s 0 0 (AA ad)) (F0 m 55 ls []) := by
    intro  mm H locs ls hf hP hS hl
    unfold F_X6_trialEndsWithoutRejection_L55 at hf
    refine lv_aload_n hx hb dX6_trialEndsWithoutRejection_55 rfl (lv_at hl 0 rfl) ?_
    refine w_get (C := RX6) (T := TX6) (N := 4) (ci := 6) (v := .ref (ad 60)) hx hb hts hinX6 hown hK hP (S_ac ad cI cR).1 (S_ac ad cI cR).2 rfl 1 (by decide) (hts (.fieldLink RX6 16 "AdmissionControl" "trial" "LAdmissionControl$Server;") (List.mem_of_getElem? (i := 1) rfl)) (fun _ h9 => h9) rfl dX6_trialEndsWithoutRejection_56 ?_
    refine w_get (C := RX4) (T := TX4) (N := 11) (ci := 4) (v := .int (mm 60 7)) hx hb hts hinX4 hown hK hP (S_srv60 ad cI cR).1 (S_srv60 ad cI cR).2.1 rfl 7 (by decide) (hts (.fieldLink RX6 207 "AdmissionControl$Server" "open" "I") (List.mem_of_getElem? (i := 2) rfl)) (fun _ h9 => h9) rfl dX6_trialEndsWithoutRejection_59 ?_
    refine lv_if_ne (tgt := 86) hx hb dX6_trialEndsWithoutRejection_62 (by decide) (fun c16 => ?_) (fun c16 => ?_)
    · rw [if_neg c16] at hf
      refine lv_iconst (v := 0) hx hb dX6_trialEndsWithoutRejection_86 (by decide) ?_
      cases hf
      exact w_zret hx hb hr hlocks rfl hP hS dX6_trialEndsWithoutRejection_87
    · rw [if_pos c16] at hf
      refine lv_aload_n hx hb dX6_trialEndsWithoutRejection_65 rfl (lv_at hl 0 rfl) ?_
      refine w_get (C := RX6) (T := TX6) (N := 4) (ci := 6) (v := .ref (ad 60)) hx hb hts hinX6 hown hK hP (S_ac ad cI cR).1 (S_ac ad cI cR).2 rfl 1 (by decide) (hts (.fieldLink RX6 16 "AdmissionControl" "trial" "LAdmissionControl$Server;") (List.mem_of_getElem? (i := 1) rfl)) (fun _ h9 => h9) rfl dX6_trialEndsWithoutRejection_66 ?_
      refine w_get (C := RX4) (T := TX4) (N := 11) (ci := 4) (v := .int (mm 60 8)) hx hb hts hinX4 hown hK hP (S_srv60 ad cI cR).1 (S_srv60 ad cI cR).2.1 rfl 8 (by decide) (hts (.fieldLink RX6 210 "AdmissionControl$Server" "rejected" "I") (List.mem_of_getElem? (i := 3) rfl)) (fun _ h9 => h9) rfl dX6_trialEndsWithoutRejection_69 ?_
      refine lv_aload_n hx hb dX6_trialEndsWithoutRejection_72 rfl (lv_at hl 0 rfl) ?_
      refine w_get (C := RX6) (T := TX6) (N := 4) (ci := 6) (v := .ref (ad 1)) hx hb hts hinX6 hown hK hP (S_ac ad cI cR).1 (S_ac ad cI cR).2 rfl 0 (by decide) (hts (.fieldLink RX6 10 "AdmissionControl" "server" "LAdmissionControl$Server;") (List.mem_of_getElem? (i := 4) rfl)) (fun _ h9 => h9) rfl dX6_trialEndsWithoutRejection_73 ?_
      refine w_get (C := RX4) (T := TX4) (N := 11) (ci := 4) (v := .int (mm 1 8)) hx hb hts hinX4 hown hK hP (S_srv1 ad cI cR).1 (S_srv1 ad cI cR).2.1 rfl 8 (by decide) (hts (.fieldLink RX6 210 "AdmissionControl$Server" "rejected" "I") (List.mem_of_getElem? (i := 3) rfl)) (fun _ h9 => h9) rfl dX6_trialEndsWithoutRejection_76 ?_
      refine lv_icmp_ne (tgt := 86) hx hb dX6_trialEndsWithoutRejection_79 (by decide) (fun c17 => ?_) (fun c17 => ?_)
      · rw [if_neg c17] at hf
        refine lv_iconst (v := 0) hx hb dX6_trialEndsWithoutRejection_86 (by decide) ?_
        cases hf
        exact w_zret hx hb hr hlocks rfl hP hS dX6_trialEndsWithoutRejection_87
      · rw [if_pos c17] at hf
        refine lv_iconst (v := 1) hx hb dX6_trialEndsWithoutRejection_82 (by decide) ?_
        refine lv_goto (tgt := 87) hx hb dX6_trialEndsWithoutRejection_83 (by decide) ?_
        cases hf
        exact w_zret hx hb hr hlocks rfl hP hS dX6_trialEndsWithoutRejection_87
  have hL7 : ∀ (n : Nat) (x2 : Int32)  (mm : Mem) (H : Heap) (locs : List Loc) (ls : Array Slot), F_X6_trialEndsWithoutRejection_L7 fu a1  n x2 mm = some (r0, m9) → va_P D vwCl (cw ad cI cR mm) H → va_S (AA ad) s.heap H locs → lv_has ls 3 [(0, .ref (ad 0)), (2, .int x2)] → W p l e (headSpec wsX6_trialEndsWithoutRejection { frames := 5, cells := 0, slots := 0, locals := 114 }).room s m ([.ref (ad 0), .int a1] : List Value).toArray below meth c H locs 0 0 (MQ below (va_Qi (fun (r' : Int32) (u : Mem) => r' = r0 ∧ u = m9) (KB D ad cI cR) (AA ad)) ([.ref (ad 0), .int a1] : List Value).toArray s 0 0 (AA ad)) (F0 m 7 ls []) := by
    intro n
    induction n with
    | zero =>
      intro x2 mm H locs ls hf hP hS hl
      rw [F_X6_trialEndsWithoutRejection_L7] at hf
      cases hf
    | succ n7 ih7 =>
      intro x2 mm H locs ls hf hP hS hl
      rw [F_X6_trialEndsWithoutRejection_L7] at hf
      refine lv_iload_n hx hb dX6_trialEndsWithoutRejection_7 rfl (lv_at hl 1 rfl) ?_
      refine lv_sipush (v := 400) hx hb dX6_trialEndsWithoutRejection_8 (by decide) ?_
      refine lv_icmp_ge (tgt := 55) hx hb dX6_trialEndsWithoutRejection_11 (by decide) (fun c18 => ?_) (fun c18 => ?_)
      · rw [if_pos c18] at hf
        exact hL55  mm _ _ _ hf hP hS (lv_sub hl [0] rfl)
      · rw [if_neg c18] at hf
        refine lv_aload_n hx hb dX6_trialEndsWithoutRejection_14 rfl (lv_at hl 0 rfl) ?_
        refine w_get (C := RX6) (T := TX6) (N := 4) (ci := 6) (v := .ref (ad 60)) hx hb hts hinX6 hown hK hP (S_ac ad cI cR).1 (S_ac ad cI cR).2 rfl 1 (by decide) (hts (.fieldLink RX6 16 "AdmissionControl" "trial" "LAdmissionControl$Server;") (List.mem_of_getElem? (i := 1) rfl)) (fun _ h9 => h9) rfl dX6_trialEndsWithoutRejection_15 ?_
        refine w_get (C := RX4) (T := TX4) (N := 11) (ci := 4) (v := .int (mm 60 7)) hx hb hts hinX4 hown hK hP (S_srv60 ad cI cR).1 (S_srv60 ad cI cR).2.1 rfl 7 (by decide) (hts (.fieldLink RX6 207 "AdmissionControl$Server" "open" "I") (List.mem_of_getElem? (i := 2) rfl)) (fun _ h9 => h9) rfl dX6_trialEndsWithoutRejection_18 ?_
        refine lv_if_le (tgt := 55) hx hb dX6_trialEndsWithoutRejection_21 (by decide) (fun c19 => ?_) (fun c19 => ?_)
        · rw [if_pos c19] at hf
          exact hL55  mm _ _ _ hf hP hS (lv_sub hl [0] rfl)
        · rw [if_neg c19] at hf
          refine lv_aload_n hx hb dX6_trialEndsWithoutRejection_24 rfl (lv_at hl 0 rfl) ?_
          refine w_get (C := RX6) (T := TX6) (N := 4) (ci := 6) (v := .ref (ad 60)) hx hb hts hinX6 hown hK hP (S_ac ad cI cR).1 (S_ac ad cI cR).2 rfl 1 (by decide) (hts (.fieldLink RX6 16 "AdmissionControl" "trial" "LAdmissionControl$Server;") (List.mem_of_getElem? (i := 1) rfl)) (fun _ h9 => h9) rfl dX6_trialEndsWithoutRejection_25 ?_
          refine w_get (C := RX4) (T := TX4) (N := 11) (ci := 4) (v := .int (mm 60 8)) hx hb hts hinX4 hown hK hP (S_srv60 ad cI cR).1 (S_srv60 ad cI cR).2.1 rfl 8 (by decide) (hts (.fieldLink RX6 210 "AdmissionControl$Server" "rejected" "I") (List.mem_of_getElem? (i := 3) rfl)) (fun _ h9 => h9) rfl dX6_trialEndsWithoutRejection_28 ?_
          refine lv_aload_n hx hb dX6_trialEndsWithoutRejection_31 rfl (lv_at hl 0 rfl) ?_
          refine w_get (C := RX6) (T := TX6) (N := 4) (ci := 6) (v := .ref (ad 1)) hx hb hts hinX6 hown hK hP (S_ac ad cI cR).1 (S_ac ad cI cR).2 rfl 0 (by decide) (hts (.fieldLink RX6 10 "AdmissionControl" "server" "LAdmissionControl$Server;") (List.mem_of_getElem? (i := 4) rfl)) (fun _ h9 => h9) rfl dX6_trialEndsWithoutRejection_32 ?_
          refine w_get (C := RX4) (T := TX4) (N := 11) (ci := 4) (v := .int (mm 1 8)) hx hb hts hinX4 hown hK hP (S_srv1 ad cI cR).1 (S_srv1 ad cI cR).2.1 rfl 8 (by decide) (hts (.fieldLink RX6 210 "AdmissionControl$Server" "rejected" "I") (List.mem_of_getElem? (i := 3) rfl)) (fun _ h9 => h9) rfl dX6_trialEndsWithoutRejection_35 ?_
          refine lv_icmp_ne (tgt := 55) hx hb dX6_trialEndsWithoutRejection_38 (by decide) (fun c20 => ?_) (fun c20 => ?_)
          · rw [if_neg c20] at hf
            exact hL55  mm _ _ _ hf hP hS (lv_sub hl [0] rfl)
          · rw [if_pos c20] at hf
            refine lv_aload_n hx hb dX6_trialEndsWithoutRejection_41 rfl (lv_at hl 0 rfl) ?_
            refine w_get (C := RX6) (T := TX6) (N := 4) (ci := 6) (v := .ref (ad 60)) hx hb hts hinX6 hown hK hP (S_ac ad cI cR).1 (S_ac ad cI cR).2 rfl 1 (by decide) (hts (.fieldLink RX6 16 "AdmissionControl" "trial" "LAdmissionControl$Server;") (List.mem_of_getElem? (i := 1) rfl)) (fun _ h9 => h9) rfl dX6_trialEndsWithoutRejection_42 ?_
            obtain ⟨r21, m22, hq, hf⟩ := ob_e hf
            refine w_ci (va_runV (As := []) (rest := []) ⟨hx, hb, hml, hown, hts⟩ (c_X4_tick l D ad cI cR hi fu 60 (S_srv60 ad cI cR) mm r21 m22 hq) (cwV 0 hts gX6_trialEndsWithoutRejection_X4_tick rfl rfl rfl (by decide +kernel) ⟨Nat.le_of_ble_eq_true rfl, Nat.le_of_ble_eq_true rfl⟩) (w_preV (ci := 4) hK hP hN (S_srv60 ad cI cR).1 (S_srv60 ad cI cR).2.1 rfl) rfl rfl hl.1 rfl (lv_room (Nat.le_of_ble_eq_true rfl)) dX6_trialEndsWithoutRejection_45 ⟨Nat.zero_le _, Nat.zero_le _⟩) hA hS (fun H locs hP hS => ?_)
            refine lv_pop hx hb dX6_trialEndsWithoutRejection_48 rfl ?_
            obtain ⟨v23, ev23, hf⟩ := bd_e hf
            refine lv_iinc (v := v23) (lv' := [(2, .int v23), (0, .ref (ad 0))]) hx hb dX6_trialEndsWithoutRejection_49 hl (k := 1) rfl (by rw [ev23]; rfl) (by decide) rfl (fun ls hl => ?_)
            refine lv_goto (tgt := 7) hx hb dX6_trialEndsWithoutRejection_52 (by decide) ?_
            exact ih7 v23 m22 _ _ _ hf hP hS (lv_sub hl [1, 0] rfl)
  have hl := lv_entry ([.ref (ad 0), .int a1]) (n := 3) (Nat.le_of_ble_eq_true rfl)
  rw [lg_entry_eq]
  generalize (lg_sl ([.ref (ad 0), .int a1]) ++ List.replicate (3 - (lg_sl ([.ref (ad 0), .int a1])).length) Slot.unset).toArray = ls at hl ⊢
  have hl : lv_has ls 3 [(0, .ref (ad 0)), (1, .int a1)] := hl
  unfold F_X6_trialEndsWithoutRejection at hf
  refine lv_aload_n hx hb dX6_trialEndsWithoutRejection_0 rfl (lv_at hl 0 rfl) ?_
  refine lv_iload_n hx hb dX6_trialEndsWithoutRejection_1 rfl (lv_at hl 1 rfl) ?_
  obtain ⟨m24, hq, hf⟩ := ov_e hf
  refine w_cv (va_runV (As := [.int a1]) (rest := []) ⟨hx, hb, hml, hown, hts⟩ (c_X6_beginTrial l D ad cI cR hi fu a1 mm m24 hq) (cwV 1 hts gX6_trialEndsWithoutRejection_X6_beginTrial rfl rfl rfl (by decide +kernel) ⟨Nat.le_of_ble_eq_true rfl, Nat.le_of_ble_eq_true rfl⟩) (w_preV (ci := 6) hK hP hN (S_ac ad cI cR).1 (S_ac ad cI cR).2 rfl) rfl rfl hl.1 rfl (lv_room (Nat.le_of_ble_eq_true rfl)) dX6_trialEndsWithoutRejection_2 ⟨Nat.zero_le _, Nat.zero_le _⟩) hA hS (fun H locs hP hS => ?_)
  refine lv_iconst (v := 0) hx hb dX6_trialEndsWithoutRejection_5 (by decide) ?_
  refine lv_istore_n (lv' := [(2, .int 0), (0, .ref (ad 0)), (1, .int a1)]) hx hb dX6_trialEndsWithoutRejection_6 rfl hl (by decide) rfl (fun ls hl => ?_)
  exact hL7 fu 0 m24 _ _ _ hf hP hS (lv_sub hl [1, 0] rfl)
def F_X6_set (fu : Nat) (a1 : Int32) (a2 : Int32) (mm : Mem) : Option (Int32 × Mem) := ob (F_X6_isSetting fu a1 mm) fun r11 m12 => if r11 = 0 then (some ((-100001), m12)) else (ob (F_X6_isServerValue fu a1 a2 m12) fun r14 m15 => if r14 = 0 then (some ((-100002), m15)) else (ov (F_X0_keep fu 1 m15) fun m17 => ob (F_X3_at fu (1 + 1) 4 a1 m17) fun r18 m19 => ov (F_X3_put fu (1 + 1) 4 a1 a2 m19) fun m20 => some (r18, m20)))
set_option maxHeartbeats 4000000 in
set_option maxRecDepth 100000 in
theorem c_X6_set (l : Launch) (D : va_G) (ad : Nat → Nat) (cI cR : ClassId) (hi : inj ad) (fu : Nat) (a1 : Int32) (a2 : Int32)  (mm : Mem) (r0 : Int32) (m9 : Mem) (hf : F_X6_set fu a1 a2 mm = some (r0, m9)) : MI l yX6_set wsX6_set { frames := 4, cells := 0, slots := 0, locals := 89 } D ad cI cR [.ref (ad 0), .int a1, .int a2] mm r0 m9 := by
  refine Met.ofW (cc := cX6_set) (maxL := 4) (ret := (some .int)) (by decide) rfl ?_
  intro p e s m args below meth c s₁ B hml hv
  obtain ⟨rfl, hP, hK, hN⟩ := hv
  have hx := B.exec
  have hb := B.bytes
  have hr := B.returns
  have hts := atoms_spec (ws := wsX6_set) B.pre
  have hown : s.vm.findClass RX6 = some m.cls := findClass_of_methodNamed B.named
  have hlocks := B.notSynchronized
  have hA : ∀ q, AA ad q → AA ad q := fun _ h => h
  have hS : va_S (AA ad) s.heap s.heap [] := va_S.rf
  have hinX4 : ∀ w ∈ wsX40, w ∈ wsX6_set := (fun _ h => List.mem_cons_of_mem _ (List.mem_append_left _ (List.mem_append_left _ (List.mem_append_left _ (List.mem_append_left _ (List.mem_append_right _ h))))))
  have hinX6 : ∀ w ∈ wsX60, w ∈ wsX6_set := (fun _ h => List.mem_cons_of_mem _ (List.mem_append_left _ (List.mem_append_left _ (List.mem_append_left _ (List.mem_append_left _ (List.mem_append_left _ (List.mem_append_right _ h)))))))
  have hl := lv_entry ([.ref (ad 0), .int a1, .int a2]) (n := 4) (Nat.le_of_ble_eq_true rfl)
  rw [lg_entry_eq]
  generalize (lg_sl ([.ref (ad 0), .int a1, .int a2]) ++ List.replicate (4 - (lg_sl ([.ref (ad 0), .int a1, .int a2])).length) Slot.unset).toArray = ls at hl ⊢
  have hl : lv_has ls 4 [(0, .ref (ad 0)), (1, .int a1), (2, .int a2)] := hl
  unfold F_X6_set at hf
  refine lv_iload_n hx hb dX6_set_0 rfl (lv_at hl 1 rfl) ?_
  obtain ⟨r11, m12, hq, hf⟩ := ob_e hf
  refine w_ci (va_runS (As := [.int a1]) (rest := []) ⟨hx, hb, hml, hown, hts⟩ (c_X6_isSetting l D ad cI cR hi fu a1 mm r11 m12 hq) (va_cwS 1 hts gX6_set_X6_isSetting rfl rfl rfl (by decide +kernel) ⟨Nat.le_of_ble_eq_true rfl, Nat.le_of_ble_eq_true rfl⟩) (w_preS hK hP hN) rfl rfl hl.1 rfl (lv_room (Nat.le_of_ble_eq_true rfl)) dX6_set_1 ⟨Nat.zero_le _, Nat.zero_le _⟩) hA hS (fun H locs hP hS => ?_)
  refine lv_if_ne (tgt := 10) hx hb dX6_set_4 (by decide) (fun c13 => ?_) (fun c13 => ?_)
  · rw [if_neg c13] at hf
    refine lv_iload_n hx hb dX6_set_10 rfl (lv_at hl 1 rfl) ?_
    refine lv_iload_n hx hb dX6_set_11 rfl (lv_at hl 2 rfl) ?_
    obtain ⟨r14, m15, hq, hf⟩ := ob_e hf
    refine w_ci (va_runS (As := [.int a1, .int a2]) (rest := []) ⟨hx, hb, hml, hown, hts⟩ (c_X6_isServerValue l D ad cI cR hi fu a1 a2 m12 r14 m15 hq) (va_cwS 2 hts gX6_set_X6_isServerValue rfl rfl rfl (by decide +kernel) ⟨Nat.le_of_ble_eq_true rfl, Nat.le_of_ble_eq_true rfl⟩) (w_preS hK hP hN) rfl rfl hl.1 rfl (lv_room (Nat.le_of_ble_eq_true rfl)) dX6_set_12 ⟨Nat.zero_le _, Nat.zero_le _⟩) hA hS (fun H locs hP hS => ?_)
    refine lv_if_ne (tgt := 21) hx hb dX6_set_15 (by decide) (fun c16 => ?_) (fun c16 => ?_)
    · rw [if_neg c16] at hf
      refine lv_aload_n hx hb dX6_set_21 rfl (lv_at hl 0 rfl) ?_
      refine w_get (C := RX6) (T := TX6) (N := 4) (ci := 6) (v := .ref (ad 119)) hx hb hts hinX6 hown hK hP (S_ac ad cI cR).1 (S_ac ad cI cR).2 rfl 2 (by decide) (hts (.fieldLink RX6 22 "AdmissionControl" "history" "LAdmissionControl$History;") (List.mem_of_getElem? (i := 3) rfl)) (fun _ h9 => h9) rfl dX6_set_22 ?_
      refine lv_aload_n hx hb dX6_set_25 rfl (lv_at hl 0 rfl) ?_
      refine w_get (C := RX6) (T := TX6) (N := 4) (ci := 6) (v := .ref (ad 1)) hx hb hts hinX6 hown hK hP (S_ac ad cI cR).1 (S_ac ad cI cR).2 rfl 0 (by decide) (hts (.fieldLink RX6 10 "AdmissionControl" "server" "LAdmissionControl$Server;") (List.mem_of_getElem? (i := 4) rfl)) (fun _ h9 => h9) rfl dX6_set_26 ?_
      obtain ⟨m17, hq, hf⟩ := ov_e hf
      refine w_cv (va_runV (As := [.ref (ad 1)]) (rest := []) ⟨hx, hb, hml, hown, hts⟩ (c_X0_keep l D ad cI cR hi fu 1 (S_srv1 ad cI cR) m15 m17 hq) (cwV 1 hts gX6_set_X0_keep rfl rfl rfl (by decide +kernel) ⟨Nat.le_of_ble_eq_true rfl, Nat.le_of_ble_eq_true rfl⟩) (w_preV (ci := 0) hK hP hN (S_hist ad cI cR).1 (S_hist ad cI cR).2 rfl) rfl rfl hl.1 rfl (lv_room (Nat.le_of_ble_eq_true rfl)) dX6_set_29 ⟨Nat.zero_le _, Nat.zero_le _⟩) hA hS (fun H locs hP hS => ?_)
      refine lv_aload_n hx hb dX6_set_32 rfl (lv_at hl 0 rfl) ?_
      refine w_get (C := RX6) (T := TX6) (N := 4) (ci := 6) (v := .ref (ad 1)) hx hb hts hinX6 hown hK hP (S_ac ad cI cR).1 (S_ac ad cI cR).2 rfl 0 (by decide) (hts (.fieldLink RX6 10 "AdmissionControl" "server" "LAdmissionControl$Server;") (List.mem_of_getElem? (i := 4) rfl)) (fun _ h9 => h9) rfl dX6_set_33 ?_
      refine w_get (C := RX4) (T := TX4) (N := 11) (ci := 4) (v := .ref (ad (1 + 1))) hx hb hts hinX4 hown hK hP (S_srv1 ad cI cR).1 (S_srv1 ad cI cR).2.1 rfl 0 (by decide) (hts (.fieldLink RX6 47 "AdmissionControl$Server" "settings" "LAdmissionControl$Row;") (List.mem_of_getElem? (i := 5) rfl)) (fun _ h9 => h9) rfl dX6_set_36 ?_
      refine lv_iload_n hx hb dX6_set_39 rfl (lv_at hl 1 rfl) ?_
      obtain ⟨r18, m19, hq, hf⟩ := ob_e hf
      refine w_ci (va_runV (As := [.int a1]) (rest := []) ⟨hx, hb, hml, hown, hts⟩ (c_X3_at l D ad cI cR hi fu (1 + 1) 4 a1 (S_srv1 ad cI cR).2.2.1 m17 r18 m19 hq) (cwV 1 hts gX6_set_X3_at rfl rfl rfl (by decide +kernel) ⟨Nat.le_of_ble_eq_true rfl, Nat.le_of_ble_eq_true rfl⟩) (w_preV (ci := 3) hK hP hN (S_srv1 ad cI cR).2.2.1.1 (S_srv1 ad cI cR).2.2.1.2.1 rfl) rfl rfl hl.1 rfl (lv_room (Nat.le_of_ble_eq_true rfl)) dX6_set_40 ⟨Nat.zero_le _, Nat.zero_le _⟩) hA hS (fun H locs hP hS => ?_)
      refine lv_istore_n (lv' := [(3, .int r18), (0, .ref (ad 0)), (1, .int a1), (2, .int a2)]) hx hb dX6_set_43 rfl hl (by decide) rfl (fun ls hl => ?_)
      refine lv_aload_n hx hb dX6_set_44 rfl (lv_at hl 1 rfl) ?_
      refine w_get (C := RX6) (T := TX6) (N := 4) (ci := 6) (v := .ref (ad 1)) hx hb hts hinX6 hown hK hP (S_ac ad cI cR).1 (S_ac ad cI cR).2 rfl 0 (by decide) (hts (.fieldLink RX6 10 "AdmissionControl" "server" "LAdmissionControl$Server;") (List.mem_of_getElem? (i := 4) rfl)) (fun _ h9 => h9) rfl dX6_set_45 ?_
      refine w_get (C := RX4) (T := TX4) (N := 11) (ci := 4) (v := .ref (ad (1 + 1))) hx hb hts hinX4 hown hK hP (S_srv1 ad cI cR).1 (S_srv1 ad cI cR).2.1 rfl 0 (by decide) (hts (.fieldLink RX6 47 "AdmissionControl$Server" "settings" "LAdmissionControl$Row;") (List.mem_of_getElem? (i := 5) rfl)) (fun _ h9 => h9) rfl dX6_set_48 ?_
      refine lv_iload_n hx hb dX6_set_51 rfl (lv_at hl 2 rfl) ?_
      refine lv_iload_n hx hb dX6_set_52 rfl (lv_at hl 3 rfl) ?_
      obtain ⟨m20, hq, hf⟩ := ov_e hf
      refine w_cv (va_runV (As := [.int a1, .int a2]) (rest := []) ⟨hx, hb, hml, hown, hts⟩ (c_X3_put l D ad cI cR hi fu (1 + 1) 4 a1 a2 (S_srv1 ad cI cR).2.2.1 m19 m20 hq) (cwV 2 hts gX6_set_X3_put rfl rfl rfl (by decide +kernel) ⟨Nat.le_of_ble_eq_true rfl, Nat.le_of_ble_eq_true rfl⟩) (w_preV (ci := 3) hK hP hN (S_srv1 ad cI cR).2.2.1.1 (S_srv1 ad cI cR).2.2.1.2.1 rfl) rfl rfl hl.1 rfl (lv_room (Nat.le_of_ble_eq_true rfl)) dX6_set_53 ⟨Nat.zero_le _, Nat.zero_le _⟩) hA hS (fun H locs hP hS => ?_)
      refine lv_iload_n hx hb dX6_set_56 rfl (lv_at hl 0 rfl) ?_
      cases hf
      exact w_iret hx hb hr hlocks hP hS dX6_set_57
    · rw [if_pos c16] at hf
      refine lv_ldc (v := (-100002)) hx hb hown (hts (.constant RX6 42 (-100002)) (List.mem_of_getElem? (i := 2) rfl)) dX6_set_18 ?_
      cases hf
      exact w_iret hx hb hr hlocks hP hS dX6_set_20
  · rw [if_pos c13] at hf
    refine lv_ldc (v := (-100001)) hx hb hown (hts (.constant RX6 37 (-100001)) (List.mem_of_getElem? (i := 1) rfl)) dX6_set_7 ?_
    cases hf
    exact w_iret hx hb hr hlocks hP hS dX6_set_9
def F_X6_setClass (fu : Nat) (a1 : Int32) (a2 : Int32) (a3 : Int32) (mm : Mem) : Option (Int32 × Mem) := ob (F_X6_isKind fu a1 mm) fun r16 m17 => if r16 = 0 then (some ((-100001), m17)) else (ob (F_X6_isSetting fu a2 m17) fun r19 m20 => if r19 = 0 then (some ((-100001), m20)) else (ob (F_X6_isClassValue fu a2 a3 m20) fun r22 m23 => if r22 = 0 then (some ((-100002), m23)) else (ov (F_X0_keep fu 1 m23) fun m25 => oq (F_X4_lane fu 1 a1 m25) (fun m27 => none) (fun o26 m27 => ob (F_X3_at fu (o26 + 1) 4 a2 m27) fun r28 m29 => ov (F_X3_put fu (o26 + 1) 4 a2 a3 m29) fun m30 => some (r28, m30)))))
set_option maxHeartbeats 4000000 in
set_option maxRecDepth 100000 in
theorem c_X6_setClass (l : Launch) (D : va_G) (ad : Nat → Nat) (cI cR : ClassId) (hi : inj ad) (fu : Nat) (a1 : Int32) (a2 : Int32) (a3 : Int32)  (mm : Mem) (r0 : Int32) (m9 : Mem) (hf : F_X6_setClass fu a1 a2 a3 mm = some (r0, m9)) : MI l yX6_setClass wsX6_setClass { frames := 4, cells := 0, slots := 0, locals := 89 } D ad cI cR [.ref (ad 0), .int a1, .int a2, .int a3] mm r0 m9 := by
  refine Met.ofW (cc := cX6_setClass) (maxL := 6) (ret := (some .int)) (by decide) rfl ?_
  intro p e s m args below meth c s₁ B hml hv
  obtain ⟨rfl, hP, hK, hN⟩ := hv
  have hx := B.exec
  have hb := B.bytes
  have hr := B.returns
  have hts := atoms_spec (ws := wsX6_setClass) B.pre
  have hown : s.vm.findClass RX6 = some m.cls := findClass_of_methodNamed B.named
  have hlocks := B.notSynchronized
  have hA : ∀ q, AA ad q → AA ad q := fun _ h => h
  have hS : va_S (AA ad) s.heap s.heap [] := va_S.rf
  have hinX1 : ∀ w ∈ wsX10, w ∈ wsX6_setClass := (fun _ h => List.mem_cons_of_mem _ (List.mem_append_left _ (List.mem_append_left _ (List.mem_append_left _ (List.mem_append_left _ (List.mem_append_right _ h))))))
  have hinX6 : ∀ w ∈ wsX60, w ∈ wsX6_setClass := (fun _ h => List.mem_cons_of_mem _ (List.mem_append_left _ (List.mem_append_left _ (List.mem_append_left _ (List.mem_append_left _ (List.mem_append_left _ (List.mem_append_right _ h)))))))
  have hl := lv_entry ([.ref (ad 0), .int a1, .int a2, .int a3]) (n := 6) (Nat.le_of_ble_eq_true rfl)
  rw [lg_entry_eq]
  generalize (lg_sl ([.ref (ad 0), .int a1, .int a2, .int a3]) ++ List.replicate (6 - (lg_sl ([.ref (ad 0), .int a1, .int a2, .int a3])).length) Slot.unset).toArray = ls at hl ⊢
  have hl : lv_has ls 6 [(0, .ref (ad 0)), (1, .int a1), (2, .int a2), (3, .int a3)] := hl
  unfold F_X6_setClass at hf
  refine lv_iload_n hx hb dX6_setClass_0 rfl (lv_at hl 1 rfl) ?_
  obtain ⟨r16, m17, hq, hf⟩ := ob_e hf
  refine w_ci (va_runS (As := [.int a1]) (rest := []) ⟨hx, hb, hml, hown, hts⟩ (c_X6_isKind l D ad cI cR hi fu a1 mm r16 m17 hq) (va_cwS 1 hts gX6_setClass_X6_isKind rfl rfl rfl (by decide +kernel) ⟨Nat.le_of_ble_eq_true rfl, Nat.le_of_ble_eq_true rfl⟩) (w_preS hK hP hN) rfl rfl hl.1 rfl (lv_room (Nat.le_of_ble_eq_true rfl)) dX6_setClass_1 ⟨Nat.zero_le _, Nat.zero_le _⟩) hA hS (fun H locs hP hS => ?_)
  refine lv_if_eq (tgt := 14) hx hb dX6_setClass_4 (by decide) (fun c18 => ?_) (fun c18 => ?_)
  · rw [if_pos c18] at hf
    refine lv_ldc (v := (-100001)) hx hb hown (hts (.constant RX6 37 (-100001)) (List.mem_of_getElem? (i := 1) rfl)) dX6_setClass_14 ?_
    cases hf
    exact w_iret hx hb hr hlocks hP hS dX6_setClass_16
  · rw [if_neg c18] at hf
    refine lv_iload_n hx hb dX6_setClass_7 rfl (lv_at hl 2 rfl) ?_
    obtain ⟨r19, m20, hq, hf⟩ := ob_e hf
    refine w_ci (va_runS (As := [.int a2]) (rest := []) ⟨hx, hb, hml, hown, hts⟩ (c_X6_isSetting l D ad cI cR hi fu a2 m17 r19 m20 hq) (va_cwS 1 hts gX6_setClass_X6_isSetting rfl rfl rfl (by decide +kernel) ⟨Nat.le_of_ble_eq_true rfl, Nat.le_of_ble_eq_true rfl⟩) (w_preS hK hP hN) rfl rfl hl.1 rfl (lv_room (Nat.le_of_ble_eq_true rfl)) dX6_setClass_8 ⟨Nat.zero_le _, Nat.zero_le _⟩) hA hS (fun H locs hP hS => ?_)
    refine lv_if_ne (tgt := 17) hx hb dX6_setClass_11 (by decide) (fun c21 => ?_) (fun c21 => ?_)
    · rw [if_neg c21] at hf
      refine lv_iload_n hx hb dX6_setClass_17 rfl (lv_at hl 2 rfl) ?_
      refine lv_iload_n hx hb dX6_setClass_18 rfl (lv_at hl 3 rfl) ?_
      obtain ⟨r22, m23, hq, hf⟩ := ob_e hf
      refine w_ci (va_runS (As := [.int a2, .int a3]) (rest := []) ⟨hx, hb, hml, hown, hts⟩ (c_X6_isClassValue l D ad cI cR hi fu a2 a3 m20 r22 m23 hq) (va_cwS 2 hts gX6_setClass_X6_isClassValue rfl rfl rfl (by decide +kernel) ⟨Nat.le_of_ble_eq_true rfl, Nat.le_of_ble_eq_true rfl⟩) (w_preS hK hP hN) rfl rfl hl.1 rfl (lv_room (Nat.le_of_ble_eq_true rfl)) dX6_setClass_19 ⟨Nat.zero_le _, Nat.zero_le _⟩) hA hS (fun H locs hP hS => ?_)
      refine lv_if_ne (tgt := 28) hx hb dX6_setClass_22 (by decide) (fun c24 => ?_) (fun c24 => ?_)
      · rw [if_neg c24] at hf
        refine lv_aload_n hx hb dX6_setClass_28 rfl (lv_at hl 0 rfl) ?_
        refine w_get (C := RX6) (T := TX6) (N := 4) (ci := 6) (v := .ref (ad 119)) hx hb hts hinX6 hown hK hP (S_ac ad cI cR).1 (S_ac ad cI cR).2 rfl 2 (by decide) (hts (.fieldLink RX6 22 "AdmissionControl" "history" "LAdmissionControl$History;") (List.mem_of_getElem? (i := 3) rfl)) (fun _ h9 => h9) rfl dX6_setClass_29 ?_
        refine lv_aload_n hx hb dX6_setClass_32 rfl (lv_at hl 0 rfl) ?_
        refine w_get (C := RX6) (T := TX6) (N := 4) (ci := 6) (v := .ref (ad 1)) hx hb hts hinX6 hown hK hP (S_ac ad cI cR).1 (S_ac ad cI cR).2 rfl 0 (by decide) (hts (.fieldLink RX6 10 "AdmissionControl" "server" "LAdmissionControl$Server;") (List.mem_of_getElem? (i := 4) rfl)) (fun _ h9 => h9) rfl dX6_setClass_33 ?_
        obtain ⟨m25, hq, hf⟩ := ov_e hf
        refine w_cv (va_runV (As := [.ref (ad 1)]) (rest := []) ⟨hx, hb, hml, hown, hts⟩ (c_X0_keep l D ad cI cR hi fu 1 (S_srv1 ad cI cR) m23 m25 hq) (cwV 1 hts gX6_setClass_X0_keep rfl rfl rfl (by decide +kernel) ⟨Nat.le_of_ble_eq_true rfl, Nat.le_of_ble_eq_true rfl⟩) (w_preV (ci := 0) hK hP hN (S_hist ad cI cR).1 (S_hist ad cI cR).2 rfl) rfl rfl hl.1 rfl (lv_room (Nat.le_of_ble_eq_true rfl)) dX6_setClass_36 ⟨Nat.zero_le _, Nat.zero_le _⟩) hA hS (fun H locs hP hS => ?_)
        refine lv_aload_n hx hb dX6_setClass_39 rfl (lv_at hl 0 rfl) ?_
        refine w_get (C := RX6) (T := TX6) (N := 4) (ci := 6) (v := .ref (ad 1)) hx hb hts hinX6 hown hK hP (S_ac ad cI cR).1 (S_ac ad cI cR).2 rfl 0 (by decide) (hts (.fieldLink RX6 10 "AdmissionControl" "server" "LAdmissionControl$Server;") (List.mem_of_getElem? (i := 4) rfl)) (fun _ h9 => h9) rfl dX6_setClass_40 ?_
        refine lv_iload_n hx hb dX6_setClass_43 rfl (lv_at hl 1 rfl) ?_
        rcases oq_e hf with ⟨m27, hq, hf⟩ | ⟨o26, m27, hq, hf⟩
        · refine w_cqN (va_runV (As := [.int a1]) (rest := []) ⟨hx, hb, hml, hown, hts⟩ (c_X4_lane l D ad cI cR hi fu 1 a1 (S_srv1 ad cI cR) m25 none m27 hq) (cwV 1 hts gX6_setClass_X4_lane rfl rfl rfl (by decide +kernel) ⟨Nat.le_of_ble_eq_true rfl, Nat.le_of_ble_eq_true rfl⟩) (w_preV (ci := 4) hK hP hN (S_srv1 ad cI cR).1 (S_srv1 ad cI cR).2.1 rfl) rfl rfl hl.1 rfl (lv_room (Nat.le_of_ble_eq_true rfl)) dX6_setClass_44 ⟨Nat.zero_le _, Nat.zero_le _⟩) hA hS (fun H locs hP hS => ?_)
          refine lv_astoreN (lv' := [(4, .null), (0, .ref (ad 0)), (1, .int a1), (2, .int a2), (3, .int a3)]) hx hb dX6_setClass_47 hl (by decide) rfl (fun ls hl => ?_)
          refine lv_aloadN hx hb dX6_setClass_49 (lv_at hl 0 rfl) ?_
          cases hf
        · have ho26 := (t_X4_lane ad cI cR fu 1 a1 (S_srv1 ad cI cR) m25 o26 m27 hq)
          refine w_cqS (va_runV (As := [.int a1]) (rest := []) ⟨hx, hb, hml, hown, hts⟩ (c_X4_lane l D ad cI cR hi fu 1 a1 (S_srv1 ad cI cR) m25 (some o26) m27 hq) (cwV 1 hts gX6_setClass_X4_lane rfl rfl rfl (by decide +kernel) ⟨Nat.le_of_ble_eq_true rfl, Nat.le_of_ble_eq_true rfl⟩) (w_preV (ci := 4) hK hP hN (S_srv1 ad cI cR).1 (S_srv1 ad cI cR).2.1 rfl) rfl rfl hl.1 rfl (lv_room (Nat.le_of_ble_eq_true rfl)) dX6_setClass_44 ⟨Nat.zero_le _, Nat.zero_le _⟩) hA hS (fun H locs hP hS => ?_)
          refine lv_astore (lv' := [(4, .ref (ad o26)), (0, .ref (ad 0)), (1, .int a1), (2, .int a2), (3, .int a3)]) hx hb dX6_setClass_47 hl (by decide) rfl (fun ls hl => ?_)
          refine lv_aload hx hb dX6_setClass_49 (lv_at hl 0 rfl) ?_
          refine w_get (C := RX1) (T := TX1) (N := 7) (ci := 1) (v := .ref (ad (o26 + 1))) hx hb hts hinX1 hown hK hP ho26.1 ho26.2.1 rfl 0 (by decide) (hts (.fieldLink RX6 71 "AdmissionControl$Lane" "settings" "LAdmissionControl$Row;") (List.mem_of_getElem? (i := 5) rfl)) (fun _ h9 => h9) rfl dX6_setClass_51 ?_
          refine lv_iload_n hx hb dX6_setClass_54 rfl (lv_at hl 3 rfl) ?_
          obtain ⟨r28, m29, hq, hf⟩ := ob_e hf
          refine w_ci (va_runV (As := [.int a2]) (rest := []) ⟨hx, hb, hml, hown, hts⟩ (c_X3_at l D ad cI cR hi fu (o26 + 1) 4 a2 ho26.2.2.1 m27 r28 m29 hq) (cwV 1 hts gX6_setClass_X3_at rfl rfl rfl (by decide +kernel) ⟨Nat.le_of_ble_eq_true rfl, Nat.le_of_ble_eq_true rfl⟩) (w_preV (ci := 3) hK hP hN ho26.2.2.1.1 ho26.2.2.1.2.1 rfl) rfl rfl hl.1 rfl (lv_room (Nat.le_of_ble_eq_true rfl)) dX6_setClass_55 ⟨Nat.zero_le _, Nat.zero_le _⟩) hA hS (fun H locs hP hS => ?_)
          refine lv_istore (lv' := [(5, .int r28), (4, .ref (ad o26)), (0, .ref (ad 0)), (1, .int a1), (2, .int a2), (3, .int a3)]) hx hb dX6_setClass_58 hl (by decide) rfl (fun ls hl => ?_)
          refine lv_aload hx hb dX6_setClass_60 (lv_at hl 1 rfl) ?_
          refine w_get (C := RX1) (T := TX1) (N := 7) (ci := 1) (v := .ref (ad (o26 + 1))) hx hb hts hinX1 hown hK hP ho26.1 ho26.2.1 rfl 0 (by decide) (hts (.fieldLink RX6 71 "AdmissionControl$Lane" "settings" "LAdmissionControl$Row;") (List.mem_of_getElem? (i := 5) rfl)) (fun _ h9 => h9) rfl dX6_setClass_62 ?_
          refine lv_iload_n hx hb dX6_setClass_65 rfl (lv_at hl 4 rfl) ?_
          refine lv_iload_n hx hb dX6_setClass_66 rfl (lv_at hl 5 rfl) ?_
          obtain ⟨m30, hq, hf⟩ := ov_e hf
          refine w_cv (va_runV (As := [.int a2, .int a3]) (rest := []) ⟨hx, hb, hml, hown, hts⟩ (c_X3_put l D ad cI cR hi fu (o26 + 1) 4 a2 a3 ho26.2.2.1 m29 m30 hq) (cwV 2 hts gX6_setClass_X3_put rfl rfl rfl (by decide +kernel) ⟨Nat.le_of_ble_eq_true rfl, Nat.le_of_ble_eq_true rfl⟩) (w_preV (ci := 3) hK hP hN ho26.2.2.1.1 ho26.2.2.1.2.1 rfl) rfl rfl hl.1 rfl (lv_room (Nat.le_of_ble_eq_true rfl)) dX6_setClass_67 ⟨Nat.zero_le _, Nat.zero_le _⟩) hA hS (fun H locs hP hS => ?_)
          refine lv_iload hx hb dX6_setClass_70 (lv_at hl 0 rfl) ?_
          cases hf
          exact w_iret hx hb hr hlocks hP hS dX6_setClass_72
      · rw [if_pos c24] at hf
        refine lv_ldc (v := (-100002)) hx hb hown (hts (.constant RX6 42 (-100002)) (List.mem_of_getElem? (i := 2) rfl)) dX6_setClass_25 ?_
        cases hf
        exact w_iret hx hb hr hlocks hP hS dX6_setClass_27
    · rw [if_pos c21] at hf
      refine lv_ldc (v := (-100001)) hx hb hown (hts (.constant RX6 37 (-100001)) (List.mem_of_getElem? (i := 1) rfl)) dX6_setClass_14 ?_
      cases hf
      exact w_iret hx hb hr hlocks hP hS dX6_setClass_16
def F_X6_offer (fu : Nat) (a1 : Int32) (a2 : Int32) (a3 : Int32) (mm : Mem) : Option (Int32 × Mem) := ob (F_X4_errorOfOffer fu 1 a1 a2 a3 mm) fun r7 m8 => if r7 = 0 then (ov (F_X0_keep fu 1 m8) fun m10 => ob (F_X4_offerNew fu 1 a1 a2 a3 m10) fun r11 m12 => some (r11, m12)) else (some (r7, m8))
set_option maxHeartbeats 4000000 in
set_option maxRecDepth 100000 in
theorem c_X6_offer (l : Launch) (D : va_G) (ad : Nat → Nat) (cI cR : ClassId) (hi : inj ad) (fu : Nat) (a1 : Int32) (a2 : Int32) (a3 : Int32)  (mm : Mem) (r0 : Int32) (m9 : Mem) (hf : F_X6_offer fu a1 a2 a3 mm = some (r0, m9)) : MI l yX6_offer wsX6_offer { frames := 5, cells := 0, slots := 0, locals := 116 } D ad cI cR [.ref (ad 0), .int a1, .int a2, .int a3] mm r0 m9 := by
  refine Met.ofW (cc := cX6_offer) (maxL := 5) (ret := (some .int)) (by decide) rfl ?_
  intro p e s m args below meth c s₁ B hml hv
  obtain ⟨rfl, hP, hK, hN⟩ := hv
  have hx := B.exec
  have hb := B.bytes
  have hr := B.returns
  have hts := atoms_spec (ws := wsX6_offer) B.pre
  have hown : s.vm.findClass RX6 = some m.cls := findClass_of_methodNamed B.named
  have hlocks := B.notSynchronized
  have hA : ∀ q, AA ad q → AA ad q := fun _ h => h
  have hS : va_S (AA ad) s.heap s.heap [] := va_S.rf
  have hinX6 : ∀ w ∈ wsX60, w ∈ wsX6_offer := (fun _ h => List.mem_cons_of_mem _ (List.mem_append_left _ (List.mem_append_left _ (List.mem_append_left _ (List.mem_append_left _ (List.mem_append_left _ (List.mem_append_right _ h)))))))
  have hl := lv_entry ([.ref (ad 0), .int a1, .int a2, .int a3]) (n := 5) (Nat.le_of_ble_eq_true rfl)
  rw [lg_entry_eq]
  generalize (lg_sl ([.ref (ad 0), .int a1, .int a2, .int a3]) ++ List.replicate (5 - (lg_sl ([.ref (ad 0), .int a1, .int a2, .int a3])).length) Slot.unset).toArray = ls at hl ⊢
  have hl : lv_has ls 5 [(0, .ref (ad 0)), (1, .int a1), (2, .int a2), (3, .int a3)] := hl
  unfold F_X6_offer at hf
  refine lv_aload_n hx hb dX6_offer_0 rfl (lv_at hl 0 rfl) ?_
  refine w_get (C := RX6) (T := TX6) (N := 4) (ci := 6) (v := .ref (ad 1)) hx hb hts hinX6 hown hK hP (S_ac ad cI cR).1 (S_ac ad cI cR).2 rfl 0 (by decide) (hts (.fieldLink RX6 10 "AdmissionControl" "server" "LAdmissionControl$Server;") (List.mem_of_getElem? (i := 1) rfl)) (fun _ h9 => h9) rfl dX6_offer_1 ?_
  refine lv_iload_n hx hb dX6_offer_4 rfl (lv_at hl 1 rfl) ?_
  refine lv_iload_n hx hb dX6_offer_5 rfl (lv_at hl 2 rfl) ?_
  refine lv_iload_n hx hb dX6_offer_6 rfl (lv_at hl 3 rfl) ?_
  obtain ⟨r7, m8, hq, hf⟩ := ob_e hf
  refine w_ci (va_runV (As := [.int a1, .int a2, .int a3]) (rest := []) ⟨hx, hb, hml, hown, hts⟩ (c_X4_errorOfOffer l D ad cI cR hi fu 1 a1 a2 a3 (S_srv1 ad cI cR) mm r7 m8 hq) (cwV 3 hts gX6_offer_X4_errorOfOffer rfl rfl rfl (by decide +kernel) ⟨Nat.le_of_ble_eq_true rfl, Nat.le_of_ble_eq_true rfl⟩) (w_preV (ci := 4) hK hP hN (S_srv1 ad cI cR).1 (S_srv1 ad cI cR).2.1 rfl) rfl rfl hl.1 rfl (lv_room (Nat.le_of_ble_eq_true rfl)) dX6_offer_7 ⟨Nat.zero_le _, Nat.zero_le _⟩) hA hS (fun H locs hP hS => ?_)
  refine lv_istore (lv' := [(4, .int r7), (0, .ref (ad 0)), (1, .int a1), (2, .int a2), (3, .int a3)]) hx hb dX6_offer_10 hl (by decide) rfl (fun ls hl => ?_)
  refine lv_iload hx hb dX6_offer_12 (lv_at hl 0 rfl) ?_
  refine lv_if_eq (tgt := 20) hx hb dX6_offer_14 (by decide) (fun c9 => ?_) (fun c9 => ?_)
  · rw [if_pos c9] at hf
    refine lv_aload_n hx hb dX6_offer_20 rfl (lv_at hl 1 rfl) ?_
    refine w_get (C := RX6) (T := TX6) (N := 4) (ci := 6) (v := .ref (ad 119)) hx hb hts hinX6 hown hK hP (S_ac ad cI cR).1 (S_ac ad cI cR).2 rfl 2 (by decide) (hts (.fieldLink RX6 22 "AdmissionControl" "history" "LAdmissionControl$History;") (List.mem_of_getElem? (i := 2) rfl)) (fun _ h9 => h9) rfl dX6_offer_21 ?_
    refine lv_aload_n hx hb dX6_offer_24 rfl (lv_at hl 1 rfl) ?_
    refine w_get (C := RX6) (T := TX6) (N := 4) (ci := 6) (v := .ref (ad 1)) hx hb hts hinX6 hown hK hP (S_ac ad cI cR).1 (S_ac ad cI cR).2 rfl 0 (by decide) (hts (.fieldLink RX6 10 "AdmissionControl" "server" "LAdmissionControl$Server;") (List.mem_of_getElem? (i := 1) rfl)) (fun _ h9 => h9) rfl dX6_offer_25 ?_
    obtain ⟨m10, hq, hf⟩ := ov_e hf
    refine w_cv (va_runV (As := [.ref (ad 1)]) (rest := []) ⟨hx, hb, hml, hown, hts⟩ (c_X0_keep l D ad cI cR hi fu 1 (S_srv1 ad cI cR) m8 m10 hq) (cwV 1 hts gX6_offer_X0_keep rfl rfl rfl (by decide +kernel) ⟨Nat.le_of_ble_eq_true rfl, Nat.le_of_ble_eq_true rfl⟩) (w_preV (ci := 0) hK hP hN (S_hist ad cI cR).1 (S_hist ad cI cR).2 rfl) rfl rfl hl.1 rfl (lv_room (Nat.le_of_ble_eq_true rfl)) dX6_offer_28 ⟨Nat.zero_le _, Nat.zero_le _⟩) hA hS (fun H locs hP hS => ?_)
    refine lv_aload_n hx hb dX6_offer_31 rfl (lv_at hl 1 rfl) ?_
    refine w_get (C := RX6) (T := TX6) (N := 4) (ci := 6) (v := .ref (ad 1)) hx hb hts hinX6 hown hK hP (S_ac ad cI cR).1 (S_ac ad cI cR).2 rfl 0 (by decide) (hts (.fieldLink RX6 10 "AdmissionControl" "server" "LAdmissionControl$Server;") (List.mem_of_getElem? (i := 1) rfl)) (fun _ h9 => h9) rfl dX6_offer_32 ?_
    refine lv_iload_n hx hb dX6_offer_35 rfl (lv_at hl 2 rfl) ?_
    refine lv_iload_n hx hb dX6_offer_36 rfl (lv_at hl 3 rfl) ?_
    refine lv_iload_n hx hb dX6_offer_37 rfl (lv_at hl 4 rfl) ?_
    obtain ⟨r11, m12, hq, hf⟩ := ob_e hf
    refine w_ci (va_runV (As := [.int a1, .int a2, .int a3]) (rest := []) ⟨hx, hb, hml, hown, hts⟩ (c_X4_offerNew l D ad cI cR hi fu 1 a1 a2 a3 (S_srv1 ad cI cR) m10 r11 m12 hq) (cwV 3 hts gX6_offer_X4_offerNew rfl rfl rfl (by decide +kernel) ⟨Nat.le_of_ble_eq_true rfl, Nat.le_of_ble_eq_true rfl⟩) (w_preV (ci := 4) hK hP hN (S_srv1 ad cI cR).1 (S_srv1 ad cI cR).2.1 rfl) rfl rfl hl.1 rfl (lv_room (Nat.le_of_ble_eq_true rfl)) dX6_offer_38 ⟨Nat.zero_le _, Nat.zero_le _⟩) hA hS (fun H locs hP hS => ?_)
    cases hf
    exact w_iret hx hb hr hlocks hP hS dX6_offer_41
  · rw [if_neg c9] at hf
    refine lv_iload hx hb dX6_offer_17 (lv_at hl 0 rfl) ?_
    cases hf
    exact w_iret hx hb hr hlocks hP hS dX6_offer_19
def F_X6_advance (fu : Nat) (a1 : Int32) (mm : Mem) : Option (Int32 × Mem) := ob (F_X4_errorOfTicks fu 1 a1 mm) fun r7 m8 => if r7 = 0 then (ov (F_X0_keep fu 1 m8) fun m10 => ob (F_X4_letPass fu 1 a1 m10) fun r11 m12 => some (r11, m12)) else (some (r7, m8))
set_option maxHeartbeats 4000000 in
set_option maxRecDepth 100000 in
theorem c_X6_advance (l : Launch) (D : va_G) (ad : Nat → Nat) (cI cR : ClassId) (hi : inj ad) (fu : Nat) (a1 : Int32)  (mm : Mem) (r0 : Int32) (m9 : Mem) (hf : F_X6_advance fu a1 mm = some (r0, m9)) : MI l yX6_advance wsX6_advance { frames := 6, cells := 0, slots := 0, locals := 137 } D ad cI cR [.ref (ad 0), .int a1] mm r0 m9 := by
  refine Met.ofW (cc := cX6_advance) (maxL := 3) (ret := (some .int)) (by decide) rfl ?_
  intro p e s m args below meth c s₁ B hml hv
  obtain ⟨rfl, hP, hK, hN⟩ := hv
  have hx := B.exec
  have hb := B.bytes
  have hr := B.returns
  have hts := atoms_spec (ws := wsX6_advance) B.pre
  have hown : s.vm.findClass RX6 = some m.cls := findClass_of_methodNamed B.named
  have hlocks := B.notSynchronized
  have hA : ∀ q, AA ad q → AA ad q := fun _ h => h
  have hS : va_S (AA ad) s.heap s.heap [] := va_S.rf
  have hinX6 : ∀ w ∈ wsX60, w ∈ wsX6_advance := (fun _ h => List.mem_cons_of_mem _ (List.mem_append_left _ (List.mem_append_left _ (List.mem_append_left _ (List.mem_append_left _ (List.mem_append_left _ (List.mem_append_right _ h)))))))
  have hl := lv_entry ([.ref (ad 0), .int a1]) (n := 3) (Nat.le_of_ble_eq_true rfl)
  rw [lg_entry_eq]
  generalize (lg_sl ([.ref (ad 0), .int a1]) ++ List.replicate (3 - (lg_sl ([.ref (ad 0), .int a1])).length) Slot.unset).toArray = ls at hl ⊢
  have hl : lv_has ls 3 [(0, .ref (ad 0)), (1, .int a1)] := hl
  unfold F_X6_advance at hf
  refine lv_aload_n hx hb dX6_advance_0 rfl (lv_at hl 0 rfl) ?_
  refine w_get (C := RX6) (T := TX6) (N := 4) (ci := 6) (v := .ref (ad 1)) hx hb hts hinX6 hown hK hP (S_ac ad cI cR).1 (S_ac ad cI cR).2 rfl 0 (by decide) (hts (.fieldLink RX6 10 "AdmissionControl" "server" "LAdmissionControl$Server;") (List.mem_of_getElem? (i := 1) rfl)) (fun _ h9 => h9) rfl dX6_advance_1 ?_
  refine lv_iload_n hx hb dX6_advance_4 rfl (lv_at hl 1 rfl) ?_
  obtain ⟨r7, m8, hq, hf⟩ := ob_e hf
  refine w_ci (va_runV (As := [.int a1]) (rest := []) ⟨hx, hb, hml, hown, hts⟩ (c_X4_errorOfTicks l D ad cI cR hi fu 1 a1 (S_srv1 ad cI cR) mm r7 m8 hq) (cwV 1 hts gX6_advance_X4_errorOfTicks rfl rfl rfl (by decide +kernel) ⟨Nat.le_of_ble_eq_true rfl, Nat.le_of_ble_eq_true rfl⟩) (w_preV (ci := 4) hK hP hN (S_srv1 ad cI cR).1 (S_srv1 ad cI cR).2.1 rfl) rfl rfl hl.1 rfl (lv_room (Nat.le_of_ble_eq_true rfl)) dX6_advance_5 ⟨Nat.zero_le _, Nat.zero_le _⟩) hA hS (fun H locs hP hS => ?_)
  refine lv_istore_n (lv' := [(2, .int r7), (0, .ref (ad 0)), (1, .int a1)]) hx hb dX6_advance_8 rfl hl (by decide) rfl (fun ls hl => ?_)
  refine lv_iload_n hx hb dX6_advance_9 rfl (lv_at hl 0 rfl) ?_
  refine lv_if_eq (tgt := 15) hx hb dX6_advance_10 (by decide) (fun c9 => ?_) (fun c9 => ?_)
  · rw [if_pos c9] at hf
    refine lv_aload_n hx hb dX6_advance_15 rfl (lv_at hl 1 rfl) ?_
    refine w_get (C := RX6) (T := TX6) (N := 4) (ci := 6) (v := .ref (ad 119)) hx hb hts hinX6 hown hK hP (S_ac ad cI cR).1 (S_ac ad cI cR).2 rfl 2 (by decide) (hts (.fieldLink RX6 22 "AdmissionControl" "history" "LAdmissionControl$History;") (List.mem_of_getElem? (i := 2) rfl)) (fun _ h9 => h9) rfl dX6_advance_16 ?_
    refine lv_aload_n hx hb dX6_advance_19 rfl (lv_at hl 1 rfl) ?_
    refine w_get (C := RX6) (T := TX6) (N := 4) (ci := 6) (v := .ref (ad 1)) hx hb hts hinX6 hown hK hP (S_ac ad cI cR).1 (S_ac ad cI cR).2 rfl 0 (by decide) (hts (.fieldLink RX6 10 "AdmissionControl" "server" "LAdmissionControl$Server;") (List.mem_of_getElem? (i := 1) rfl)) (fun _ h9 => h9) rfl dX6_advance_20 ?_
    obtain ⟨m10, hq, hf⟩ := ov_e hf
    refine w_cv (va_runV (As := [.ref (ad 1)]) (rest := []) ⟨hx, hb, hml, hown, hts⟩ (c_X0_keep l D ad cI cR hi fu 1 (S_srv1 ad cI cR) m8 m10 hq) (cwV 1 hts gX6_advance_X0_keep rfl rfl rfl (by decide +kernel) ⟨Nat.le_of_ble_eq_true rfl, Nat.le_of_ble_eq_true rfl⟩) (w_preV (ci := 0) hK hP hN (S_hist ad cI cR).1 (S_hist ad cI cR).2 rfl) rfl rfl hl.1 rfl (lv_room (Nat.le_of_ble_eq_true rfl)) dX6_advance_23 ⟨Nat.zero_le _, Nat.zero_le _⟩) hA hS (fun H locs hP hS => ?_)
    refine lv_aload_n hx hb dX6_advance_26 rfl (lv_at hl 1 rfl) ?_
    refine w_get (C := RX6) (T := TX6) (N := 4) (ci := 6) (v := .ref (ad 1)) hx hb hts hinX6 hown hK hP (S_ac ad cI cR).1 (S_ac ad cI cR).2 rfl 0 (by decide) (hts (.fieldLink RX6 10 "AdmissionControl" "server" "LAdmissionControl$Server;") (List.mem_of_getElem? (i := 1) rfl)) (fun _ h9 => h9) rfl dX6_advance_27 ?_
    refine lv_iload_n hx hb dX6_advance_30 rfl (lv_at hl 2 rfl) ?_
    obtain ⟨r11, m12, hq, hf⟩ := ob_e hf
    refine w_ci (va_runV (As := [.int a1]) (rest := []) ⟨hx, hb, hml, hown, hts⟩ (c_X4_letPass l D ad cI cR hi fu 1 a1 (S_srv1 ad cI cR) m10 r11 m12 hq) (cwV 1 hts gX6_advance_X4_letPass rfl rfl rfl (by decide +kernel) ⟨Nat.le_of_ble_eq_true rfl, Nat.le_of_ble_eq_true rfl⟩) (w_preV (ci := 4) hK hP hN (S_srv1 ad cI cR).1 (S_srv1 ad cI cR).2.1 rfl) rfl rfl hl.1 rfl (lv_room (Nat.le_of_ble_eq_true rfl)) dX6_advance_31 ⟨Nat.zero_le _, Nat.zero_le _⟩) hA hS (fun H locs hP hS => ?_)
    cases hf
    exact w_iret hx hb hr hlocks hP hS dX6_advance_34
  · rw [if_neg c9] at hf
    refine lv_iload_n hx hb dX6_advance_13 rfl (lv_at hl 0 rfl) ?_
    cases hf
    exact w_iret hx hb hr hlocks hP hS dX6_advance_14
def F_X6_append (fu : Nat) (a1 : Int32) (mm : Mem) : Option (Int32 × Mem) := if a1 < 32 then (some ((-100002), mm)) else (if a1 ≤ 126 then (if (mm 356 1) < 80 then (ov (F_X5_add fu a1 mm) fun m8 => some ((m8 356 1), m8)) else (some ((-100004), mm))) else (some ((-100002), mm)))
set_option maxHeartbeats 4000000 in
set_option maxRecDepth 100000 in
theorem c_X6_append (l : Launch) (D : va_G) (ad : Nat → Nat) (cI cR : ClassId) (hi : inj ad) (fu : Nat) (a1 : Int32)  (mm : Mem) (r0 : Int32) (m9 : Mem) (hf : F_X6_append fu a1 mm = some (r0, m9)) : MI l yX6_append wsX6_append { frames := 2, cells := 0, slots := 0, locals := 43 } D ad cI cR [.ref (ad 0), .int a1] mm r0 m9 := by
  refine Met.ofW (cc := cX6_append) (maxL := 2) (ret := (some .int)) (by decide) rfl ?_
  intro p e s m args below meth c s₁ B hml hv
  obtain ⟨rfl, hP, hK, hN⟩ := hv
  have hx := B.exec
  have hb := B.bytes
  have hr := B.returns
  have hts := atoms_spec (ws := wsX6_append) B.pre
  have hown : s.vm.findClass RX6 = some m.cls := findClass_of_methodNamed B.named
  have hlocks := B.notSynchronized
  have hA : ∀ q, AA ad q → AA ad q := fun _ h => h
  have hS : va_S (AA ad) s.heap s.heap [] := va_S.rf
  have hinX5 : ∀ w ∈ wsX50, w ∈ wsX6_append := (fun _ h => List.mem_cons_of_mem _ (List.mem_append_left _ (List.mem_append_right _ h)))
  have hinX6 : ∀ w ∈ wsX60, w ∈ wsX6_append := (fun _ h => List.mem_cons_of_mem _ (List.mem_append_left _ (List.mem_append_left _ (List.mem_append_right _ h))))
  have hl := lv_entry ([.ref (ad 0), .int a1]) (n := 2) (Nat.le_of_ble_eq_true rfl)
  rw [lg_entry_eq]
  generalize (lg_sl ([.ref (ad 0), .int a1]) ++ List.replicate (2 - (lg_sl ([.ref (ad 0), .int a1])).length) Slot.unset).toArray = ls at hl ⊢
  have hl : lv_has ls 2 [(0, .ref (ad 0)), (1, .int a1)] := hl
  unfold F_X6_append at hf
  refine lv_iload_n hx hb dX6_append_0 rfl (lv_at hl 1 rfl) ?_
  refine lv_bipush (v := 32) hx hb dX6_append_1 (by decide) ?_
  refine lv_icmp_lt (tgt := 12) hx hb dX6_append_3 (by decide) (fun c5 => ?_) (fun c5 => ?_)
  · rw [if_pos c5] at hf
    refine lv_ldc (v := (-100002)) hx hb hown (hts (.constant RX6 42 (-100002)) (List.mem_of_getElem? (i := 1) rfl)) dX6_append_12 ?_
    cases hf
    exact w_iret hx hb hr hlocks hP hS dX6_append_14
  · rw [if_neg c5] at hf
    refine lv_iload_n hx hb dX6_append_6 rfl (lv_at hl 1 rfl) ?_
    refine lv_bipush (v := 126) hx hb dX6_append_7 (by decide) ?_
    refine lv_icmp_le (tgt := 15) hx hb dX6_append_9 (by decide) (fun c6 => ?_) (fun c6 => ?_)
    · rw [if_pos c6] at hf
      refine lv_aload_n hx hb dX6_append_15 rfl (lv_at hl 0 rfl) ?_
      refine w_get (C := RX6) (T := TX6) (N := 4) (ci := 6) (v := .ref (ad 356)) hx hb hts hinX6 hown hK hP (S_ac ad cI cR).1 (S_ac ad cI cR).2 rfl 3 (by decide) (hts (.fieldLink RX6 29 "AdmissionControl" "text" "LAdmissionControl$Text;") (List.mem_of_getElem? (i := 2) rfl)) (fun _ h9 => h9) rfl dX6_append_16 ?_
      refine w_get (C := RX5) (T := TX5) (N := 2) (ci := 5) (v := .int (mm 356 1)) hx hb hts hinX5 hown hK hP (S_text ad cI cR).1 (S_text ad cI cR).2.1 rfl 1 (by decide) (hts (.fieldLink RX6 87 "AdmissionControl$Text" "length" "I") (List.mem_of_getElem? (i := 3) rfl)) (fun _ h9 => h9) rfl dX6_append_19 ?_
      refine lv_bipush (v := 80) hx hb dX6_append_22 (by decide) ?_
      refine lv_icmp_lt (tgt := 30) hx hb dX6_append_24 (by decide) (fun c7 => ?_) (fun c7 => ?_)
      · rw [if_pos c7] at hf
        refine lv_aload_n hx hb dX6_append_30 rfl (lv_at hl 0 rfl) ?_
        refine w_get (C := RX6) (T := TX6) (N := 4) (ci := 6) (v := .ref (ad 356)) hx hb hts hinX6 hown hK hP (S_ac ad cI cR).1 (S_ac ad cI cR).2 rfl 3 (by decide) (hts (.fieldLink RX6 29 "AdmissionControl" "text" "LAdmissionControl$Text;") (List.mem_of_getElem? (i := 2) rfl)) (fun _ h9 => h9) rfl dX6_append_31 ?_
        refine lv_iload_n hx hb dX6_append_34 rfl (lv_at hl 1 rfl) ?_
        obtain ⟨m8, hq, hf⟩ := ov_e hf
        refine w_cv (va_runV (As := [.int a1]) (rest := []) ⟨hx, hb, hml, hown, hts⟩ (c_X5_add l D ad cI cR hi fu a1 mm m8 hq) (cwV 1 hts gX6_append_X5_add rfl rfl rfl (by decide +kernel) ⟨Nat.le_of_ble_eq_true rfl, Nat.le_of_ble_eq_true rfl⟩) (w_preV (ci := 5) hK hP hN (S_text ad cI cR).1 (S_text ad cI cR).2.1 rfl) rfl rfl hl.1 rfl (lv_room (Nat.le_of_ble_eq_true rfl)) dX6_append_35 ⟨Nat.zero_le _, Nat.zero_le _⟩) hA hS (fun H locs hP hS => ?_)
        refine lv_aload_n hx hb dX6_append_38 rfl (lv_at hl 0 rfl) ?_
        refine w_get (C := RX6) (T := TX6) (N := 4) (ci := 6) (v := .ref (ad 356)) hx hb hts hinX6 hown hK hP (S_ac ad cI cR).1 (S_ac ad cI cR).2 rfl 3 (by decide) (hts (.fieldLink RX6 29 "AdmissionControl" "text" "LAdmissionControl$Text;") (List.mem_of_getElem? (i := 2) rfl)) (fun _ h9 => h9) rfl dX6_append_39 ?_
        refine w_get (C := RX5) (T := TX5) (N := 2) (ci := 5) (v := .int (m8 356 1)) hx hb hts hinX5 hown hK hP (S_text ad cI cR).1 (S_text ad cI cR).2.1 rfl 1 (by decide) (hts (.fieldLink RX6 87 "AdmissionControl$Text" "length" "I") (List.mem_of_getElem? (i := 3) rfl)) (fun _ h9 => h9) rfl dX6_append_42 ?_
        cases hf
        exact w_iret hx hb hr hlocks hP hS dX6_append_45
      · rw [if_neg c7] at hf
        refine lv_ldc (v := (-100004)) hx hb hown (hts (.constant RX6 91 (-100004)) (List.mem_of_getElem? (i := 4) rfl)) dX6_append_27 ?_
        cases hf
        exact w_iret hx hb hr hlocks hP hS dX6_append_29
    · rw [if_neg c6] at hf
      refine lv_ldc (v := (-100002)) hx hb hown (hts (.constant RX6 42 (-100002)) (List.mem_of_getElem? (i := 1) rfl)) dX6_append_12 ?_
      cases hf
      exact w_iret hx hb hr hlocks hP hS dX6_append_14
def F_X6_clearText (fu : Nat)  (mm : Mem) : Option (Int32 × Mem) := bd (mput mm 356 1 0) fun m2 => some ((mm 356 1), m2)
set_option maxHeartbeats 4000000 in
set_option maxRecDepth 100000 in
theorem c_X6_clearText (l : Launch) (D : va_G) (ad : Nat → Nat) (cI cR : ClassId) (hi : inj ad) (fu : Nat)   (mm : Mem) (r0 : Int32) (m9 : Mem) (hf : F_X6_clearText fu  mm = some (r0, m9)) : MI l yX6_clearText wsX6_clearText { frames := 0, cells := 0, slots := 0, locals := 0 } D ad cI cR [.ref (ad 0)] mm r0 m9 := by
  refine Met.ofW (cc := cX6_clearText) (maxL := 2) (ret := (some .int)) (by decide) rfl ?_
  intro p e s m args below meth c s₁ B hml hv
  obtain ⟨rfl, hP, hK, hN⟩ := hv
  have hx := B.exec
  have hb := B.bytes
  have hr := B.returns
  have hts := atoms_spec (ws := wsX6_clearText) B.pre
  have hown : s.vm.findClass RX6 = some m.cls := findClass_of_methodNamed B.named
  have hlocks := B.notSynchronized
  have hA : ∀ q, AA ad q → AA ad q := fun _ h => h
  have hS : va_S (AA ad) s.heap s.heap [] := va_S.rf
  have hinX5 : ∀ w ∈ wsX50, w ∈ wsX6_clearText := (fun _ h => List.mem_cons_of_mem _ (List.mem_append_right _ h))
  have hinX6 : ∀ w ∈ wsX60, w ∈ wsX6_clearText := (fun _ h => List.mem_cons_of_mem _ (List.mem_append_left _ (List.mem_append_right _ h)))
  have hl := lv_entry ([.ref (ad 0)]) (n := 2) (Nat.le_of_ble_eq_true rfl)
  rw [lg_entry_eq]
  generalize (lg_sl ([.ref (ad 0)]) ++ List.replicate (2 - (lg_sl ([.ref (ad 0)])).length) Slot.unset).toArray = ls at hl ⊢
  have hl : lv_has ls 2 [(0, .ref (ad 0))] := hl
  unfold F_X6_clearText at hf
  refine lv_aload_n hx hb dX6_clearText_0 rfl (lv_at hl 0 rfl) ?_
  refine w_get (C := RX6) (T := TX6) (N := 4) (ci := 6) (v := .ref (ad 356)) hx hb hts hinX6 hown hK hP (S_ac ad cI cR).1 (S_ac ad cI cR).2 rfl 3 (by decide) (hts (.fieldLink RX6 29 "AdmissionControl" "text" "LAdmissionControl$Text;") (List.mem_of_getElem? (i := 1) rfl)) (fun _ h9 => h9) rfl dX6_clearText_1 ?_
  refine w_get (C := RX5) (T := TX5) (N := 2) (ci := 5) (v := .int (mm 356 1)) hx hb hts hinX5 hown hK hP (S_text ad cI cR).1 (S_text ad cI cR).2.1 rfl 1 (by decide) (hts (.fieldLink RX6 87 "AdmissionControl$Text" "length" "I") (List.mem_of_getElem? (i := 2) rfl)) (fun _ h9 => h9) rfl dX6_clearText_4 ?_
  refine lv_istore_n (lv' := [(1, .int (mm 356 1)), (0, .ref (ad 0))]) hx hb dX6_clearText_7 rfl hl (by decide) rfl (fun ls hl => ?_)
  refine lv_aload_n hx hb dX6_clearText_8 rfl (lv_at hl 1 rfl) ?_
  refine w_get (C := RX6) (T := TX6) (N := 4) (ci := 6) (v := .ref (ad 356)) hx hb hts hinX6 hown hK hP (S_ac ad cI cR).1 (S_ac ad cI cR).2 rfl 3 (by decide) (hts (.fieldLink RX6 29 "AdmissionControl" "text" "LAdmissionControl$Text;") (List.mem_of_getElem? (i := 1) rfl)) (fun _ h9 => h9) rfl dX6_clearText_9 ?_
  refine lv_iconst (v := 0) hx hb dX6_clearText_12 (by decide) ?_
  obtain ⟨m2, em2, hf⟩ := bd_e hf
  refine w_put (C := RX5) (T := TX5) (N := 2) (ci := 5) (x := 0) hx hb hts hinX5 tyX5 tyX5_ok nmX5 hown hi hA hK hP hS (S_text ad cI cR).1 (S_text ad cI cR).2.1 rfl 1 (by decide) (hts (.fieldLink RX6 87 "AdmissionControl$Text" "length" "I") (List.mem_of_getElem? (i := 2) rfl)) (fun _ h9 => h9) rfl rfl rfl (Nat.le_of_ble_eq_true rfl) rfl dX6_clearText_13 (fun H locs hP hS => ?_)
  rw [← em2] at hP
  refine lv_iload_n hx hb dX6_clearText_16 rfl (lv_at hl 0 rfl) ?_
  cases hf
  exact w_iret hx hb hr hlocks hP hS dX6_clearText_17
def F_X6_fault (fu : Nat)  (mm : Mem) : Option (Int32 × Mem) := ob (F_X5_firstFault fu  mm) fun r3 m4 => some (r3, m4)
set_option maxHeartbeats 4000000 in
set_option maxRecDepth 100000 in
theorem c_X6_fault (l : Launch) (D : va_G) (ad : Nat → Nat) (cI cR : ClassId) (hi : inj ad) (fu : Nat)   (mm : Mem) (r0 : Int32) (m9 : Mem) (hf : F_X6_fault fu  mm = some (r0, m9)) : MI l yX6_fault wsX6_fault { frames := 4, cells := 0, slots := 0, locals := 86 } D ad cI cR [.ref (ad 0)] mm r0 m9 := by
  refine Met.ofW (cc := cX6_fault) (maxL := 1) (ret := (some .int)) (by decide) rfl ?_
  intro p e s m args below meth c s₁ B hml hv
  obtain ⟨rfl, hP, hK, hN⟩ := hv
  have hx := B.exec
  have hb := B.bytes
  have hr := B.returns
  have hts := atoms_spec (ws := wsX6_fault) B.pre
  have hown : s.vm.findClass RX6 = some m.cls := findClass_of_methodNamed B.named
  have hlocks := B.notSynchronized
  have hA : ∀ q, AA ad q → AA ad q := fun _ h => h
  have hS : va_S (AA ad) s.heap s.heap [] := va_S.rf
  have hinX6 : ∀ w ∈ wsX60, w ∈ wsX6_fault := (fun _ h => List.mem_cons_of_mem _ (List.mem_append_left _ (List.mem_append_left _ (List.mem_append_right _ h))))
  have hl := lv_entry ([.ref (ad 0)]) (n := 1) (Nat.le_of_ble_eq_true rfl)
  rw [lg_entry_eq]
  generalize (lg_sl ([.ref (ad 0)]) ++ List.replicate (1 - (lg_sl ([.ref (ad 0)])).length) Slot.unset).toArray = ls at hl ⊢
  have hl : lv_has ls 1 [(0, .ref (ad 0))] := hl
  unfold F_X6_fault at hf
  refine lv_aload_n hx hb dX6_fault_0 rfl (lv_at hl 0 rfl) ?_
  refine w_get (C := RX6) (T := TX6) (N := 4) (ci := 6) (v := .ref (ad 356)) hx hb hts hinX6 hown hK hP (S_ac ad cI cR).1 (S_ac ad cI cR).2 rfl 3 (by decide) (hts (.fieldLink RX6 29 "AdmissionControl" "text" "LAdmissionControl$Text;") (List.mem_of_getElem? (i := 1) rfl)) (fun _ h9 => h9) rfl dX6_fault_1 ?_
  obtain ⟨r3, m4, hq, hf⟩ := ob_e hf
  refine w_ci (va_runV (As := []) (rest := []) ⟨hx, hb, hml, hown, hts⟩ (c_X5_firstFault l D ad cI cR hi fu  mm r3 m4 hq) (cwV 0 hts gX6_fault_X5_firstFault rfl rfl rfl (by decide +kernel) ⟨Nat.le_of_ble_eq_true rfl, Nat.le_of_ble_eq_true rfl⟩) (w_preV (ci := 5) hK hP hN (S_text ad cI cR).1 (S_text ad cI cR).2.1 rfl) rfl rfl hl.1 rfl (lv_room (Nat.le_of_ble_eq_true rfl)) dX6_fault_4 ⟨Nat.zero_le _, Nat.zero_le _⟩) hA hS (fun H locs hP hS => ?_)
  cases hf
  exact w_iret hx hb hr hlocks hP hS dX6_fault_7
def F_X6_run_L30 (fu : Nat)   : Nat → Int32 → Int32 → Mem → Option (Int32 × Mem)
  | 0, _, _, _ => none
  | n + 1, x1, x2, mm => if (mm 356 1) ≤ x2 then (some (x1, mm)) else (ob (F_X5_startsStep fu x2 mm) fun r36 m37 => if r36 = 0 then (bd (x2 + 1) fun v39 => F_X6_run_L30 fu  n x1 v39 m37) else (ob (F_X6_takeStep fu x2 m37) fun r40 m41 => if r40 = 0 then (some (x1, m41)) else (bd (x1 + 1) fun v43 => bd (x2 + 1) fun v44 => F_X6_run_L30 fu  n v43 v44 m41)))
def F_X6_run (fu : Nat)  (mm : Mem) : Option (Int32 × Mem) := ob (F_X5_firstFault fu  mm) fun r45 m46 => if r45 = (-100005) then (ov (F_X0_keep fu 1 m46) fun m48 => F_X6_run_L30 fu  fu 0 0 m48) else (some ((-100003), m46))
set_option maxHeartbeats 4000000 in
set_option maxRecDepth 100000 in
theorem c_X6_run (l : Launch) (D : va_G) (ad : Nat → Nat) (cI cR : ClassId) (hi : inj ad) (fu : Nat)   (mm : Mem) (r0 : Int32) (m9 : Mem) (hf : F_X6_run fu  mm = some (r0, m9)) : MI l yX6_run wsX6_run { frames := 7, cells := 0, slots := 0, locals := 161 } D ad cI cR [.ref (ad 0)] mm r0 m9 := by
  refine Met.ofW (cc := cX6_run) (maxL := 3) (ret := (some .int)) (by decide) rfl ?_
  intro p e s m args below meth c s₁ B hml hv
  obtain ⟨rfl, hP, hK, hN⟩ := hv
  have hx := B.exec
  have hb := B.bytes
  have hr := B.returns
  have hts := atoms_spec (ws := wsX6_run) B.pre
  have hown : s.vm.findClass RX6 = some m.cls := findClass_of_methodNamed B.named
  have hlocks := B.notSynchronized
  have hA : ∀ q, AA ad q → AA ad q := fun _ h => h
  have hS : va_S (AA ad) s.heap s.heap [] := va_S.rf
  have hinX5 : ∀ w ∈ wsX50, w ∈ wsX6_run := (fun _ h => List.mem_cons_of_mem _ (List.mem_append_left _ (List.mem_append_left _ (List.mem_append_left _ (List.mem_append_left _ (List.mem_append_left _ (List.mem_append_right _ h)))))))
  have hinX6 : ∀ w ∈ wsX60, w ∈ wsX6_run := (fun _ h => List.mem_cons_of_mem _ (List.mem_append_left _ (List.mem_append_left _ (List.mem_append_left _ (List.mem_append_left _ (List.mem_append_left _ (List.mem_append_left _ (List.mem_append_right _ h))))))))
  have hL30 : ∀ (n : Nat) (x1 : Int32) (x2 : Int32)  (mm : Mem) (H : Heap) (locs : List Loc) (ls : Array Slot), F_X6_run_L30 fu   n x1 x2 mm = some (r0, m9) → va_P D vwCl (cw ad cI cR mm) H → va_S (AA ad) s.heap H locs → lv_has ls 3 [(0, .ref (ad 0)), (1, .int x1), (2, .int x2)] → W p l e (headSpec wsX6_run { frames := 7, cells := 0, slots := 0, locals := 161 }).room s m ([.ref (ad 0)] : List Value).toArray below meth c H locs 0 0 (MQ below (va_Qi (fun (r' : Int32) (u : Mem) => r' = r0 ∧ u = m9) (KB D ad cI cR) (AA ad)) ([.ref (ad 0)] : List Value).toArray s 0 0 (AA ad)) (F0 m 30 ls []) := by
    intro n
    induction n with
    | zero =>
      intro x1 x2 mm H locs ls hf hP hS hl
      rw [F_X6_run_L30] at hf
      cases hf
    | succ n30 ih30 =>
      intro x1 x2 mm H locs ls hf hP hS hl
      rw [F_X6_run_L30] at hf
      refine lv_iload_n hx hb dX6_run_30 rfl (lv_at hl 2 rfl) ?_
      refine lv_aload_n hx hb dX6_run_31 rfl (lv_at hl 0 rfl) ?_
      refine w_get (C := RX6) (T := TX6) (N := 4) (ci := 6) (v := .ref (ad 356)) hx hb hts hinX6 hown hK hP (S_ac ad cI cR).1 (S_ac ad cI cR).2 rfl 3 (by decide) (hts (.fieldLink RX6 29 "AdmissionControl" "text" "LAdmissionControl$Text;") (List.mem_of_getElem? (i := 1) rfl)) (fun _ h9 => h9) rfl dX6_run_32 ?_
      refine w_get (C := RX5) (T := TX5) (N := 2) (ci := 5) (v := .int (mm 356 1)) hx hb hts hinX5 hown hK hP (S_text ad cI cR).1 (S_text ad cI cR).2.1 rfl 1 (by decide) (hts (.fieldLink RX6 87 "AdmissionControl$Text" "length" "I") (List.mem_of_getElem? (i := 6) rfl)) (fun _ h9 => h9) rfl dX6_run_35 ?_
      refine lv_icmp_ge (tgt := 71) hx hb dX6_run_38 (by decide) (fun c35 => ?_) (fun c35 => ?_)
      · rw [if_pos c35] at hf
        refine lv_iload_n hx hb dX6_run_71 rfl (lv_at hl 1 rfl) ?_
        cases hf
        exact w_iret hx hb hr hlocks hP hS dX6_run_72
      · rw [if_neg c35] at hf
        refine lv_aload_n hx hb dX6_run_41 rfl (lv_at hl 0 rfl) ?_
        refine w_get (C := RX6) (T := TX6) (N := 4) (ci := 6) (v := .ref (ad 356)) hx hb hts hinX6 hown hK hP (S_ac ad cI cR).1 (S_ac ad cI cR).2 rfl 3 (by decide) (hts (.fieldLink RX6 29 "AdmissionControl" "text" "LAdmissionControl$Text;") (List.mem_of_getElem? (i := 1) rfl)) (fun _ h9 => h9) rfl dX6_run_42 ?_
        refine lv_iload_n hx hb dX6_run_45 rfl (lv_at hl 2 rfl) ?_
        obtain ⟨r36, m37, hq, hf⟩ := ob_e hf
        refine w_ci (va_runV (As := [.int x2]) (rest := []) ⟨hx, hb, hml, hown, hts⟩ (c_X5_startsStep l D ad cI cR hi fu x2 mm r36 m37 hq) (cwV 1 hts gX6_run_X5_startsStep rfl rfl rfl (by decide +kernel) ⟨Nat.le_of_ble_eq_true rfl, Nat.le_of_ble_eq_true rfl⟩) (w_preV (ci := 5) hK hP hN (S_text ad cI cR).1 (S_text ad cI cR).2.1 rfl) rfl rfl hl.1 rfl (lv_room (Nat.le_of_ble_eq_true rfl)) dX6_run_46 ⟨Nat.zero_le _, Nat.zero_le _⟩) hA hS (fun H locs hP hS => ?_)
        refine lv_if_eq (tgt := 65) hx hb dX6_run_49 (by decide) (fun c38 => ?_) (fun c38 => ?_)
        · rw [if_pos c38] at hf
          obtain ⟨v39, ev39, hf⟩ := bd_e hf
          refine lv_iinc (v := v39) (lv' := [(2, .int v39), (0, .ref (ad 0)), (1, .int x1)]) hx hb dX6_run_65 hl (k := 2) rfl (by rw [ev39]; rfl) (by decide) rfl (fun ls hl => ?_)
          refine lv_goto (tgt := 30) hx hb dX6_run_68 (by decide) ?_
          exact ih30 x1 v39 m37 _ _ _ hf hP hS (lv_sub hl [1, 2, 0] rfl)
        · rw [if_neg c38] at hf
          refine lv_aload_n hx hb dX6_run_52 rfl (lv_at hl 0 rfl) ?_
          refine lv_iload_n hx hb dX6_run_53 rfl (lv_at hl 2 rfl) ?_
          obtain ⟨r40, m41, hq, hf⟩ := ob_e hf
          refine w_ci (va_runV (As := [.int x2]) (rest := []) ⟨hx, hb, hml, hown, hts⟩ (c_X6_takeStep l D ad cI cR hi fu x2 m37 r40 m41 hq) (cwV 1 hts gX6_run_X6_takeStep rfl rfl rfl (by decide +kernel) ⟨Nat.le_of_ble_eq_true rfl, Nat.le_of_ble_eq_true rfl⟩) (w_preV (ci := 6) hK hP hN (S_ac ad cI cR).1 (S_ac ad cI cR).2 rfl) rfl rfl hl.1 rfl (lv_room (Nat.le_of_ble_eq_true rfl)) dX6_run_54 ⟨Nat.zero_le _, Nat.zero_le _⟩) hA hS (fun H locs hP hS => ?_)
          refine lv_if_ne (tgt := 62) hx hb dX6_run_57 (by decide) (fun c42 => ?_) (fun c42 => ?_)
          · rw [if_neg c42] at hf
            obtain ⟨v43, ev43, hf⟩ := bd_e hf
            refine lv_iinc (v := v43) (lv' := [(1, .int v43), (0, .ref (ad 0)), (2, .int x2)]) hx hb dX6_run_62 hl (k := 1) rfl (by rw [ev43]; rfl) (by decide) rfl (fun ls hl => ?_)
            obtain ⟨v44, ev44, hf⟩ := bd_e hf
            refine lv_iinc (v := v44) (lv' := [(2, .int v44), (1, .int v43), (0, .ref (ad 0))]) hx hb dX6_run_65 hl (k := 2) rfl (by rw [ev44]; rfl) (by decide) rfl (fun ls hl => ?_)
            refine lv_goto (tgt := 30) hx hb dX6_run_68 (by decide) ?_
            exact ih30 v43 v44 m41 _ _ _ hf hP hS (lv_sub hl [2, 1, 0] rfl)
          · rw [if_pos c42] at hf
            refine lv_iload_n hx hb dX6_run_60 rfl (lv_at hl 1 rfl) ?_
            cases hf
            exact w_iret hx hb hr hlocks hP hS dX6_run_61
  have hl := lv_entry ([.ref (ad 0)]) (n := 3) (Nat.le_of_ble_eq_true rfl)
  rw [lg_entry_eq]
  generalize (lg_sl ([.ref (ad 0)]) ++ List.replicate (3 - (lg_sl ([.ref (ad 0)])).length) Slot.unset).toArray = ls at hl ⊢
  have hl : lv_has ls 3 [(0, .ref (ad 0))] := hl
  unfold F_X6_run at hf
  refine lv_aload_n hx hb dX6_run_0 rfl (lv_at hl 0 rfl) ?_
  refine w_get (C := RX6) (T := TX6) (N := 4) (ci := 6) (v := .ref (ad 356)) hx hb hts hinX6 hown hK hP (S_ac ad cI cR).1 (S_ac ad cI cR).2 rfl 3 (by decide) (hts (.fieldLink RX6 29 "AdmissionControl" "text" "LAdmissionControl$Text;") (List.mem_of_getElem? (i := 1) rfl)) (fun _ h9 => h9) rfl dX6_run_1 ?_
  obtain ⟨r45, m46, hq, hf⟩ := ob_e hf
  refine w_ci (va_runV (As := []) (rest := []) ⟨hx, hb, hml, hown, hts⟩ (c_X5_firstFault l D ad cI cR hi fu  mm r45 m46 hq) (cwV 0 hts gX6_run_X5_firstFault rfl rfl rfl (by decide +kernel) ⟨Nat.le_of_ble_eq_true rfl, Nat.le_of_ble_eq_true rfl⟩) (w_preV (ci := 5) hK hP hN (S_text ad cI cR).1 (S_text ad cI cR).2.1 rfl) rfl rfl hl.1 rfl (lv_room (Nat.le_of_ble_eq_true rfl)) dX6_run_4 ⟨Nat.zero_le _, Nat.zero_le _⟩) hA hS (fun H locs hP hS => ?_)
  refine lv_ldc (v := (-100005)) hx hb hown (hts (.constant RX6 100 (-100005)) (List.mem_of_getElem? (i := 2) rfl)) dX6_run_7 ?_
  refine lv_icmp_eq (tgt := 15) hx hb dX6_run_9 (by decide) (fun c47 => ?_) (fun c47 => ?_)
  · rw [if_pos c47] at hf
    refine lv_aload_n hx hb dX6_run_15 rfl (lv_at hl 0 rfl) ?_
    refine w_get (C := RX6) (T := TX6) (N := 4) (ci := 6) (v := .ref (ad 119)) hx hb hts hinX6 hown hK hP (S_ac ad cI cR).1 (S_ac ad cI cR).2 rfl 2 (by decide) (hts (.fieldLink RX6 22 "AdmissionControl" "history" "LAdmissionControl$History;") (List.mem_of_getElem? (i := 4) rfl)) (fun _ h9 => h9) rfl dX6_run_16 ?_
    refine lv_aload_n hx hb dX6_run_19 rfl (lv_at hl 0 rfl) ?_
    refine w_get (C := RX6) (T := TX6) (N := 4) (ci := 6) (v := .ref (ad 1)) hx hb hts hinX6 hown hK hP (S_ac ad cI cR).1 (S_ac ad cI cR).2 rfl 0 (by decide) (hts (.fieldLink RX6 10 "AdmissionControl" "server" "LAdmissionControl$Server;") (List.mem_of_getElem? (i := 5) rfl)) (fun _ h9 => h9) rfl dX6_run_20 ?_
    obtain ⟨m48, hq, hf⟩ := ov_e hf
    refine w_cv (va_runV (As := [.ref (ad 1)]) (rest := []) ⟨hx, hb, hml, hown, hts⟩ (c_X0_keep l D ad cI cR hi fu 1 (S_srv1 ad cI cR) m46 m48 hq) (cwV 1 hts gX6_run_X0_keep rfl rfl rfl (by decide +kernel) ⟨Nat.le_of_ble_eq_true rfl, Nat.le_of_ble_eq_true rfl⟩) (w_preV (ci := 0) hK hP hN (S_hist ad cI cR).1 (S_hist ad cI cR).2 rfl) rfl rfl hl.1 rfl (lv_room (Nat.le_of_ble_eq_true rfl)) dX6_run_23 ⟨Nat.zero_le _, Nat.zero_le _⟩) hA hS (fun H locs hP hS => ?_)
    refine lv_iconst (v := 0) hx hb dX6_run_26 (by decide) ?_
    refine lv_istore_n (lv' := [(1, .int 0), (0, .ref (ad 0))]) hx hb dX6_run_27 rfl hl (by decide) rfl (fun ls hl => ?_)
    refine lv_iconst (v := 0) hx hb dX6_run_28 (by decide) ?_
    refine lv_istore_n (lv' := [(2, .int 0), (1, .int 0), (0, .ref (ad 0))]) hx hb dX6_run_29 rfl hl (by decide) rfl (fun ls hl => ?_)
    exact hL30 fu 0 0 m48 _ _ _ hf hP hS (lv_sub hl [2, 1, 0] rfl)
  · rw [if_neg c47] at hf
    refine lv_ldc (v := (-100003)) hx hb hown (hts (.constant RX6 101 (-100003)) (List.mem_of_getElem? (i := 3) rfl)) dX6_run_12 ?_
    cases hf
    exact w_iret hx hb hr hlocks hP hS dX6_run_14
def F_X6_undo (fu : Nat)  (mm : Mem) : Option (Int32 × Mem) := if (mm 119 4) = 0 then (some ((-100005), mm)) else (ov (F_X0_restore fu 1 mm) fun m4 => some ((m4 119 4), m4))
set_option maxHeartbeats 4000000 in
set_option maxRecDepth 100000 in
theorem c_X6_undo (l : Launch) (D : va_G) (ad : Nat → Nat) (cI cR : ClassId) (hi : inj ad) (fu : Nat)   (mm : Mem) (r0 : Int32) (m9 : Mem) (hf : F_X6_undo fu  mm = some (r0, m9)) : MI l yX6_undo wsX6_undo { frames := 4, cells := 0, slots := 0, locals := 89 } D ad cI cR [.ref (ad 0)] mm r0 m9 := by
  refine Met.ofW (cc := cX6_undo) (maxL := 1) (ret := (some .int)) (by decide) rfl ?_
  intro p e s m args below meth c s₁ B hml hv
  obtain ⟨rfl, hP, hK, hN⟩ := hv
  have hx := B.exec
  have hb := B.bytes
  have hr := B.returns
  have hts := atoms_spec (ws := wsX6_undo) B.pre
  have hown : s.vm.findClass RX6 = some m.cls := findClass_of_methodNamed B.named
  have hlocks := B.notSynchronized
  have hA : ∀ q, AA ad q → AA ad q := fun _ h => h
  have hS : va_S (AA ad) s.heap s.heap [] := va_S.rf
  have hinX0 : ∀ w ∈ wsX00, w ∈ wsX6_undo := (fun _ h => List.mem_cons_of_mem _ (List.mem_append_left _ (List.mem_append_left _ (List.mem_append_left _ (List.mem_append_left _ (List.mem_append_right _ h))))))
  have hinX6 : ∀ w ∈ wsX60, w ∈ wsX6_undo := (fun _ h => List.mem_cons_of_mem _ (List.mem_append_left _ (List.mem_append_left _ (List.mem_append_left _ (List.mem_append_left _ (List.mem_append_left _ (List.mem_append_right _ h)))))))
  have hl := lv_entry ([.ref (ad 0)]) (n := 1) (Nat.le_of_ble_eq_true rfl)
  rw [lg_entry_eq]
  generalize (lg_sl ([.ref (ad 0)]) ++ List.replicate (1 - (lg_sl ([.ref (ad 0)])).length) Slot.unset).toArray = ls at hl ⊢
  have hl : lv_has ls 1 [(0, .ref (ad 0))] := hl
  unfold F_X6_undo at hf
  refine lv_aload_n hx hb dX6_undo_0 rfl (lv_at hl 0 rfl) ?_
  refine w_get (C := RX6) (T := TX6) (N := 4) (ci := 6) (v := .ref (ad 119)) hx hb hts hinX6 hown hK hP (S_ac ad cI cR).1 (S_ac ad cI cR).2 rfl 2 (by decide) (hts (.fieldLink RX6 22 "AdmissionControl" "history" "LAdmissionControl$History;") (List.mem_of_getElem? (i := 1) rfl)) (fun _ h9 => h9) rfl dX6_undo_1 ?_
  refine w_get (C := RX0) (T := TX0) (N := 5) (ci := 0) (v := .int (mm 119 4)) hx hb hts hinX0 hown hK hP (S_hist ad cI cR).1 (S_hist ad cI cR).2 rfl 4 (by decide) (hts (.fieldLink RX6 108 "AdmissionControl$History" "states" "I") (List.mem_of_getElem? (i := 2) rfl)) (fun _ h9 => h9) rfl dX6_undo_4 ?_
  refine lv_if_ne (tgt := 13) hx hb dX6_undo_7 (by decide) (fun c3 => ?_) (fun c3 => ?_)
  · rw [if_neg c3] at hf
    refine lv_aload_n hx hb dX6_undo_13 rfl (lv_at hl 0 rfl) ?_
    refine w_get (C := RX6) (T := TX6) (N := 4) (ci := 6) (v := .ref (ad 119)) hx hb hts hinX6 hown hK hP (S_ac ad cI cR).1 (S_ac ad cI cR).2 rfl 2 (by decide) (hts (.fieldLink RX6 22 "AdmissionControl" "history" "LAdmissionControl$History;") (List.mem_of_getElem? (i := 1) rfl)) (fun _ h9 => h9) rfl dX6_undo_14 ?_
    refine lv_aload_n hx hb dX6_undo_17 rfl (lv_at hl 0 rfl) ?_
    refine w_get (C := RX6) (T := TX6) (N := 4) (ci := 6) (v := .ref (ad 1)) hx hb hts hinX6 hown hK hP (S_ac ad cI cR).1 (S_ac ad cI cR).2 rfl 0 (by decide) (hts (.fieldLink RX6 10 "AdmissionControl" "server" "LAdmissionControl$Server;") (List.mem_of_getElem? (i := 4) rfl)) (fun _ h9 => h9) rfl dX6_undo_18 ?_
    obtain ⟨m4, hq, hf⟩ := ov_e hf
    refine w_cv (va_runV (As := [.ref (ad 1)]) (rest := []) ⟨hx, hb, hml, hown, hts⟩ (c_X0_restore l D ad cI cR hi fu 1 (S_srv1 ad cI cR) mm m4 hq) (cwV 1 hts gX6_undo_X0_restore rfl rfl rfl (by decide +kernel) ⟨Nat.le_of_ble_eq_true rfl, Nat.le_of_ble_eq_true rfl⟩) (w_preV (ci := 0) hK hP hN (S_hist ad cI cR).1 (S_hist ad cI cR).2 rfl) rfl rfl hl.1 rfl (lv_room (Nat.le_of_ble_eq_true rfl)) dX6_undo_21 ⟨Nat.zero_le _, Nat.zero_le _⟩) hA hS (fun H locs hP hS => ?_)
    refine lv_aload_n hx hb dX6_undo_24 rfl (lv_at hl 0 rfl) ?_
    refine w_get (C := RX6) (T := TX6) (N := 4) (ci := 6) (v := .ref (ad 119)) hx hb hts hinX6 hown hK hP (S_ac ad cI cR).1 (S_ac ad cI cR).2 rfl 2 (by decide) (hts (.fieldLink RX6 22 "AdmissionControl" "history" "LAdmissionControl$History;") (List.mem_of_getElem? (i := 1) rfl)) (fun _ h9 => h9) rfl dX6_undo_25 ?_
    refine w_get (C := RX0) (T := TX0) (N := 5) (ci := 0) (v := .int (m4 119 4)) hx hb hts hinX0 hown hK hP (S_hist ad cI cR).1 (S_hist ad cI cR).2 rfl 4 (by decide) (hts (.fieldLink RX6 108 "AdmissionControl$History" "states" "I") (List.mem_of_getElem? (i := 2) rfl)) (fun _ h9 => h9) rfl dX6_undo_28 ?_
    cases hf
    exact w_iret hx hb hr hlocks hP hS dX6_undo_31
  · rw [if_pos c3] at hf
    refine lv_ldc (v := (-100005)) hx hb hown (hts (.constant RX6 100 (-100005)) (List.mem_of_getElem? (i := 3) rfl)) dX6_undo_10 ?_
    cases hf
    exact w_iret hx hb hr hlocks hP hS dX6_undo_12
