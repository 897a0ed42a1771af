def F_X4_catchUp_L4 (fu : Nat) (o : Nat) (a1 : Int32)  : Nat → Option Nat → Int32 → Mem → Option (Mem)
  | 0, _, _, _ => none
  | n + 1, w2, x3, mm => cq w2 (if 3 ≤ x3 then (some mm) else (oq (F_X4_lane fu o x3 mm) (fun m75 => if x3 = a1 then (bd (x3 + 1) fun v77 => F_X4_catchUp_L4 fu o a1 n none v77 m75) else (none)) (fun o74 m75 => if x3 = a1 then (bd (x3 + 1) fun v79 => F_X4_catchUp_L4 fu o a1 n none v79 m75) else (if (m75 o74 3) ≤ 0 then (bd (x3 + 1) fun v81 => F_X4_catchUp_L4 fu o a1 n none v81 m75) else (bd (x3 + 1) fun v82 => F_X4_catchUp_L4 fu o a1 n (some o74) v82 m75))))) (fun u2 => if 3 ≤ x3 then (oq (F_X4_lane fu o a1 mm) (fun m85 => oq (F_X4_lane fu o a1 m85) (fun m87 => none) (fun o86 m87 => bd (if (m87 o86 5) < (m87 u2 5) then (m87 u2 5) else (m87 o86 5)) fun v88 => none)) (fun o84 m85 => oq (F_X4_lane fu o a1 m85) (fun m90 => none) (fun o89 m90 => bd (if (m90 o89 5) < (m90 u2 5) then (m90 u2 5) else (m90 o89 5)) fun v91 => bd (mput m90 o84 5 v91) fun m92 => some m92))) else (oq (F_X4_lane fu o x3 mm) (fun m94 => if x3 = a1 then (bd (x3 + 1) fun v96 => F_X4_catchUp_L4 fu o a1 n (some u2) v96 m94) else (none)) (fun o93 m94 => if x3 = a1 then (bd (x3 + 1) fun v98 => F_X4_catchUp_L4 fu o a1 n (some u2) v98 m94) else (if (m94 o93 3) ≤ 0 then (bd (x3 + 1) fun v100 => F_X4_catchUp_L4 fu o a1 n (some u2) v100 m94) else (if (m94 u2 5) ≤ (m94 o93 5) then (bd (x3 + 1) fun v102 => F_X4_catchUp_L4 fu o a1 n (some u2) v102 m94) else (bd (x3 + 1) fun v103 => F_X4_catchUp_L4 fu o a1 n (some o93) v103 m94))))))
def F_X4_catchUp (fu : Nat) (o : Nat) (a1 : Int32) (mm : Mem) : Option (Mem) := F_X4_catchUp_L4 fu o a1 fu none 0 mm
set_option maxHeartbeats 4000000 in
set_option maxRecDepth 100000 in
theorem c_X4_catchUp (l : Launch) (D : va_G) (ad : Nat → Nat) (cI cR : ClassId) (hi : inj ad) (fu : Nat) (o : Nat) (a1 : Int32) (ho : sSrv ad cI cR o) (mm : Mem) (m9 : Mem) (hf : F_X4_catchUp fu o a1 mm = some m9) : MV l yX4_catchUp wsX4_catchUp { frames := 1, cells := 0, slots := 0, locals := 21 } D ad cI cR [.ref (ad o), .int a1] mm m9 := by
  refine Met.ofW (cc := cX4_catchUp) (maxL := 5) (ret := none) (by decide) rfl ?_
  intro p e s m args below meth c s₁ B hml hv
  obtain ⟨rfl, hP, hK, hN⟩ := hv
  have hx := B.exec
  have hb := B.bytes
  have hr := B.returns
  have hts := atoms_spec (ws := wsX4_catchUp) B.pre
  have hown : s.vm.findClass RX4 = some m.cls := findClass_of_methodNamed B.named
  have hlocks := B.notSynchronized
  have hA : ∀ q, AA ad q → AA ad q := fun _ h => h
  have hS : va_S (AA ad) s.heap s.heap [] := va_S.rf
  have hinX1 : ∀ w ∈ wsX10, w ∈ wsX4_catchUp := (fun _ h => List.mem_cons_of_mem _ (List.mem_append_left _ (List.mem_append_right _ h)))
  have hL4 : ∀ (n : Nat) (w2 : Option Nat) (x3 : Int32) (hw2 : ∀ c, w2 = some c → sLane ad cI cR c) (mm : Mem) (H : Heap) (locs : List Loc) (ls : Array Slot), F_X4_catchUp_L4 fu o a1  n w2 x3 mm = some m9 → va_P D vwCl (cw ad cI cR mm) H → va_S (AA ad) s.heap H locs → lv_has ls 5 [(0, .ref (ad o)), (1, .int a1), (2, va_rf (w2.map ad)), (3, .int x3)] → W p l e (headSpec wsX4_catchUp { frames := 1, cells := 0, slots := 0, locals := 21 }).room s m ([.ref (ad o), .int a1] : List Value).toArray below meth c H locs 0 0 (MQ below (va_Qv (fun (u : Mem) => u = m9) (KB D ad cI cR) (AA ad)) ([.ref (ad o), .int a1] : List Value).toArray s 0 0 (AA ad)) (F0 m 4 ls []) := by
    intro n
    induction n with
    | zero =>
      intro w2 x3 hw2 mm H locs ls hf hP hS hl
      rw [F_X4_catchUp_L4] at hf
      cases hf
    | succ n4 ih4 =>
      intro w2 x3 hw2 mm H locs ls hf hP hS hl
      rw [F_X4_catchUp_L4] at hf
      cases w2 with
      | none =>
        rw [cq_n] at hf
        have hl : lv_has ls 5 [(0, .ref (ad o)), (1, .int a1), (2, .null), (3, .int x3)] := hl
        refine lv_iload_n hx hb dX4_catchUp_4 rfl (lv_at hl 3 rfl) ?_
        refine lv_iconst (v := 3) hx hb dX4_catchUp_5 (by decide) ?_
        refine lv_icmp_ge (tgt := 54) hx hb dX4_catchUp_6 (by decide) (fun c73 => ?_) (fun c73 => ?_)
        · rw [if_pos c73] at hf
          refine lv_aload_nN hx hb dX4_catchUp_54 rfl (lv_at hl 2 rfl) ?_
          refine lv_ifnullN (tgt := 81) hx hb dX4_catchUp_55 (by decide) ?_
          cases hf
          exact w_vret hx hb hr hlocks hP hS dX4_catchUp_81
        · rw [if_neg c73] at hf
          refine lv_aload_n hx hb dX4_catchUp_9 rfl (lv_at hl 0 rfl) ?_
          refine lv_iload_n hx hb dX4_catchUp_10 rfl (lv_at hl 3 rfl) ?_
          rcases oq_e hf with ⟨m75, hq, hf⟩ | ⟨o74, m75, hq, hf⟩
          · refine w_cqN (va_runV (As := [.int x3]) (rest := []) ⟨hx, hb, hml, hown, hts⟩ (c_X4_lane l D ad cI cR hi fu o x3 ho mm none m75 hq) (cwV 1 hts gX4_catchUp_X4_lane rfl rfl rfl (by decide +kernel) ⟨Nat.le_of_ble_eq_true rfl, Nat.le_of_ble_eq_true rfl⟩) (w_preV (ci := 4) hK hP hN ho.1 ho.2.1 rfl) rfl rfl hl.1 rfl (lv_room (Nat.le_of_ble_eq_true rfl)) dX4_catchUp_11 ⟨Nat.zero_le _, Nat.zero_le _⟩) hA hS (fun H locs hP hS => ?_)
            refine lv_astoreN (lv' := [(4, .null), (0, .ref (ad o)), (1, .int a1), (2, .null), (3, .int x3)]) hx hb dX4_catchUp_14 hl (by decide) rfl (fun ls hl => ?_)
            refine lv_iload_n hx hb dX4_catchUp_16 rfl (lv_at hl 4 rfl) ?_
            refine lv_iload_n hx hb dX4_catchUp_17 rfl (lv_at hl 2 rfl) ?_
            refine lv_icmp_eq (tgt := 48) hx hb dX4_catchUp_18 (by decide) (fun c76 => ?_) (fun c76 => ?_)
            · rw [if_pos c76] at hf
              obtain ⟨v77, ev77, hf⟩ := bd_e hf
              refine lv_iinc (v := v77) (lv' := [(3, .int v77), (4, .null), (0, .ref (ad o)), (1, .int a1), (2, .null)]) hx hb dX4_catchUp_48 hl (k := 4) rfl (by rw [ev77]; rfl) (by decide) rfl (fun ls hl => ?_)
              refine lv_goto (tgt := 4) hx hb dX4_catchUp_51 (by decide) ?_
              exact ih4 none v77 (fun c h => by cases h) m75 _ _ _ hf hP hS (lv_sub hl [2, 3, 4, 0] rfl)
            · rw [if_neg c76] at hf
              refine lv_aloadN hx hb dX4_catchUp_21 (lv_at hl 0 rfl) ?_
              cases hf
          · have ho74 := (t_X4_lane ad cI cR fu o x3 ho mm o74 m75 hq)
            refine w_cqS (va_runV (As := [.int x3]) (rest := []) ⟨hx, hb, hml, hown, hts⟩ (c_X4_lane l D ad cI cR hi fu o x3 ho mm (some o74) m75 hq) (cwV 1 hts gX4_catchUp_X4_lane rfl rfl rfl (by decide +kernel) ⟨Nat.le_of_ble_eq_true rfl, Nat.le_of_ble_eq_true rfl⟩) (w_preV (ci := 4) hK hP hN ho.1 ho.2.1 rfl) rfl rfl hl.1 rfl (lv_room (Nat.le_of_ble_eq_true rfl)) dX4_catchUp_11 ⟨Nat.zero_le _, Nat.zero_le _⟩) hA hS (fun H locs hP hS => ?_)
            refine lv_astore (lv' := [(4, .ref (ad o74)), (0, .ref (ad o)), (1, .int a1), (2, .null), (3, .int x3)]) hx hb dX4_catchUp_14 hl (by decide) rfl (fun ls hl => ?_)
            refine lv_iload_n hx hb dX4_catchUp_16 rfl (lv_at hl 4 rfl) ?_
            refine lv_iload_n hx hb dX4_catchUp_17 rfl (lv_at hl 2 rfl) ?_
            refine lv_icmp_eq (tgt := 48) hx hb dX4_catchUp_18 (by decide) (fun c78 => ?_) (fun c78 => ?_)
            · rw [if_pos c78] at hf
              obtain ⟨v79, ev79, hf⟩ := bd_e hf
              refine lv_iinc (v := v79) (lv' := [(3, .int v79), (4, .ref (ad o74)), (0, .ref (ad o)), (1, .int a1), (2, .null)]) hx hb dX4_catchUp_48 hl (k := 4) rfl (by rw [ev79]; rfl) (by decide) rfl (fun ls hl => ?_)
              refine lv_goto (tgt := 4) hx hb dX4_catchUp_51 (by decide) ?_
              exact ih4 none v79 (fun c h => by cases h) m75 _ _ _ hf hP hS (lv_sub hl [2, 3, 4, 0] rfl)
            · rw [if_neg c78] at hf
              refine lv_aload hx hb dX4_catchUp_21 (lv_at hl 0 rfl) ?_
              refine w_get (C := RX1) (T := TX1) (N := 7) (ci := 1) (v := .int (m75 o74 3)) hx hb hts hinX1 hown hK hP ho74.1 ho74.2.1 rfl 3 (by decide) (hts (.fieldLink RX4 113 "AdmissionControl$Lane" "length" "I") (List.mem_of_getElem? (i := 1) rfl)) (fun _ h9 => h9) rfl dX4_catchUp_23 ?_
              refine lv_if_le (tgt := 48) hx hb dX4_catchUp_26 (by decide) (fun c80 => ?_) (fun c80 => ?_)
              · rw [if_pos c80] at hf
                obtain ⟨v81, ev81, hf⟩ := bd_e hf
                refine lv_iinc (v := v81) (lv' := [(3, .int v81), (4, .ref (ad o74)), (0, .ref (ad o)), (1, .int a1), (2, .null)]) hx hb dX4_catchUp_48 hl (k := 4) rfl (by rw [ev81]; rfl) (by decide) rfl (fun ls hl => ?_)
                refine lv_goto (tgt := 4) hx hb dX4_catchUp_51 (by decide) ?_
                exact ih4 none v81 (fun c h => by cases h) m75 _ _ _ hf hP hS (lv_sub hl [2, 3, 4, 0] rfl)
              · rw [if_neg c80] at hf
                refine lv_aload_nN hx hb dX4_catchUp_29 rfl (lv_at hl 3 rfl) ?_
                refine lv_ifnullN (tgt := 45) hx hb dX4_catchUp_30 (by decide) ?_
                refine lv_aload hx hb dX4_catchUp_45 (lv_at hl 0 rfl) ?_
                refine lv_astore_n (lv' := [(2, .ref (ad o74)), (4, .ref (ad o74)), (0, .ref (ad o)), (1, .int a1), (3, .int x3)]) hx hb dX4_catchUp_47 rfl hl (by decide) rfl (fun ls hl => ?_)
                obtain ⟨v82, ev82, hf⟩ := bd_e hf
                refine lv_iinc (v := v82) (lv' := [(3, .int v82), (2, .ref (ad o74)), (4, .ref (ad o74)), (0, .ref (ad o)), (1, .int a1)]) hx hb dX4_catchUp_48 hl (k := 4) rfl (by rw [ev82]; rfl) (by decide) rfl (fun ls hl => ?_)
                refine lv_goto (tgt := 4) hx hb dX4_catchUp_51 (by decide) ?_
                exact ih4 (some o74) v82 (fun c h => by cases h; exact ho74) m75 _ _ _ hf hP hS (lv_sub hl [3, 4, 1, 0] rfl)
      | some u2 =>
        rw [cq_s] at hf
        have hl : lv_has ls 5 [(0, .ref (ad o)), (1, .int a1), (2, .ref (ad u2)), (3, .int x3)] := hl
        refine lv_iload_n hx hb dX4_catchUp_4 rfl (lv_at hl 3 rfl) ?_
        refine lv_iconst (v := 3) hx hb dX4_catchUp_5 (by decide) ?_
        refine lv_icmp_ge (tgt := 54) hx hb dX4_catchUp_6 (by decide) (fun c83 => ?_) (fun c83 => ?_)
        · rw [if_pos c83] at hf
          refine lv_aload_n hx hb dX4_catchUp_54 rfl (lv_at hl 2 rfl) ?_
          refine lv_ifnull hx hb dX4_catchUp_55 ?_
          refine lv_aload_n hx hb dX4_catchUp_58 rfl (lv_at hl 0 rfl) ?_
          refine lv_iload_n hx hb dX4_catchUp_59 rfl (lv_at hl 1 rfl) ?_
          rcases oq_e hf with ⟨m85, hq, hf⟩ | ⟨o84, m85, hq, hf⟩
          · refine w_cqN (va_runV (As := [.int a1]) (rest := []) ⟨hx, hb, hml, hown, hts⟩ (c_X4_lane l D ad cI cR hi fu o a1 ho mm none m85 hq) (cwV 1 hts gX4_catchUp_X4_lane rfl rfl rfl (by decide +kernel) ⟨Nat.le_of_ble_eq_true rfl, Nat.le_of_ble_eq_true rfl⟩) (w_preV (ci := 4) hK hP hN ho.1 ho.2.1 rfl) rfl rfl hl.1 rfl (lv_room (Nat.le_of_ble_eq_true rfl)) dX4_catchUp_60 ⟨Nat.zero_le _, Nat.zero_le _⟩) hA hS (fun H locs hP hS => ?_)
            refine lv_aload_n hx hb dX4_catchUp_63 rfl (lv_at hl 0 rfl) ?_
            refine lv_iload_n hx hb dX4_catchUp_64 rfl (lv_at hl 1 rfl) ?_
            rcases oq_e hf with ⟨m87, hq, hf⟩ | ⟨o86, m87, hq, hf⟩
            · refine w_cqN (va_runV (As := [.int a1]) (rest := [.null]) ⟨hx, hb, hml, hown, hts⟩ (c_X4_lane l D ad cI cR hi fu o a1 ho m85 none m87 hq) (cwV 1 hts gX4_catchUp_X4_lane rfl rfl rfl (by decide +kernel) ⟨Nat.le_of_ble_eq_true rfl, Nat.le_of_ble_eq_true rfl⟩) (w_preV (ci := 4) hK hP hN ho.1 ho.2.1 rfl) rfl rfl hl.1 rfl (lv_room (Nat.le_of_ble_eq_true rfl)) dX4_catchUp_65 ⟨Nat.zero_le _, Nat.zero_le _⟩) hA hS (fun H locs hP hS => ?_)
              cases hf
            · have ho86 := (t_X4_lane ad cI cR fu o a1 ho m85 o86 m87 hq)
              refine w_cqS (va_runV (As := [.int a1]) (rest := [.null]) ⟨hx, hb, hml, hown, hts⟩ (c_X4_lane l D ad cI cR hi fu o a1 ho m85 (some o86) m87 hq) (cwV 1 hts gX4_catchUp_X4_lane rfl rfl rfl (by decide +kernel) ⟨Nat.le_of_ble_eq_true rfl, Nat.le_of_ble_eq_true rfl⟩) (w_preV (ci := 4) hK hP hN ho.1 ho.2.1 rfl) rfl rfl hl.1 rfl (lv_room (Nat.le_of_ble_eq_true rfl)) dX4_catchUp_65 ⟨Nat.zero_le _, Nat.zero_le _⟩) hA hS (fun H locs hP hS => ?_)
              refine w_get (C := RX1) (T := TX1) (N := 7) (ci := 1) (v := .int (m87 o86 5)) hx hb hts hinX1 hown hK hP ho86.1 ho86.2.1 rfl 5 (by decide) (hts (.fieldLink RX4 178 "AdmissionControl$Lane" "pass" "I") (List.mem_of_getElem? (i := 2) rfl)) (fun _ h9 => h9) rfl dX4_catchUp_68 ?_
              refine lv_aload_n hx hb dX4_catchUp_71 rfl (lv_at hl 2 rfl) ?_
              refine w_get (C := RX1) (T := TX1) (N := 7) (ci := 1) (v := .int (m87 u2 5)) hx hb hts hinX1 hown hK hP (hw2 u2 rfl).1 (hw2 u2 rfl).2.1 rfl 5 (by decide) (hts (.fieldLink RX4 178 "AdmissionControl$Lane" "pass" "I") (List.mem_of_getElem? (i := 2) rfl)) (fun _ h9 => h9) rfl dX4_catchUp_72 ?_
              obtain ⟨v88, ev88, hf⟩ := bd_e hf
              refine va_mmax hx hb (hml.trans hl.1.symm) hown (hts (.methodLink RX4 107 Lib.Math.max.name) (List.mem_of_getElem? (i := 3) rfl)) (hts (.static Lib.Math.max.name) (List.mem_of_getElem? (i := 4) rfl)) (hts (.initialized "java/lang/Math") (List.mem_of_getElem? (i := 5) rfl)) (hts (.code Lib.Math.max.name Lib.Math.max.code 2 (some .int)) (List.mem_of_getElem? (i := 6) rfl)) (Nat.le_of_ble_eq_true rfl) (Nat.le_of_ble_eq_true rfl) (Nat.zero_le _) (Nat.zero_le _) dX4_catchUp_75 ?_
              refine w_top ev88 ?_
              cases hf
          · have ho84 := (t_X4_lane ad cI cR fu o a1 ho mm o84 m85 hq)
            refine w_cqS (va_runV (As := [.int a1]) (rest := []) ⟨hx, hb, hml, hown, hts⟩ (c_X4_lane l D ad cI cR hi fu o a1 ho mm (some o84) m85 hq) (cwV 1 hts gX4_catchUp_X4_lane rfl rfl rfl (by decide +kernel) ⟨Nat.le_of_ble_eq_true rfl, Nat.le_of_ble_eq_true rfl⟩) (w_preV (ci := 4) hK hP hN ho.1 ho.2.1 rfl) rfl rfl hl.1 rfl (lv_room (Nat.le_of_ble_eq_true rfl)) dX4_catchUp_60 ⟨Nat.zero_le _, Nat.zero_le _⟩) hA hS (fun H locs hP hS => ?_)
            refine lv_aload_n hx hb dX4_catchUp_63 rfl (lv_at hl 0 rfl) ?_
            refine lv_iload_n hx hb dX4_catchUp_64 rfl (lv_at hl 1 rfl) ?_
            rcases oq_e hf with ⟨m90, hq, hf⟩ | ⟨o89, m90, hq, hf⟩
            · refine w_cqN (va_runV (As := [.int a1]) (rest := [.ref (ad o84)]) ⟨hx, hb, hml, hown, hts⟩ (c_X4_lane l D ad cI cR hi fu o a1 ho m85 none m90 hq) (cwV 1 hts gX4_catchUp_X4_lane rfl rfl rfl (by decide +kernel) ⟨Nat.le_of_ble_eq_true rfl, Nat.le_of_ble_eq_true rfl⟩) (w_preV (ci := 4) hK hP hN ho.1 ho.2.1 rfl) rfl rfl hl.1 rfl (lv_room (Nat.le_of_ble_eq_true rfl)) dX4_catchUp_65 ⟨Nat.zero_le _, Nat.zero_le _⟩) hA hS (fun H locs hP hS => ?_)
              cases hf
            · have ho89 := (t_X4_lane ad cI cR fu o a1 ho m85 o89 m90 hq)
              refine w_cqS (va_runV (As := [.int a1]) (rest := [.ref (ad o84)]) ⟨hx, hb, hml, hown, hts⟩ (c_X4_lane l D ad cI cR hi fu o a1 ho m85 (some o89) m90 hq) (cwV 1 hts gX4_catchUp_X4_lane rfl rfl rfl (by decide +kernel) ⟨Nat.le_of_ble_eq_true rfl, Nat.le_of_ble_eq_true rfl⟩) (w_preV (ci := 4) hK hP hN ho.1 ho.2.1 rfl) rfl rfl hl.1 rfl (lv_room (Nat.le_of_ble_eq_true rfl)) dX4_catchUp_65 ⟨Nat.zero_le _, Nat.zero_le _⟩) hA hS (fun H locs hP hS => ?_)
              refine w_get (C := RX1) (T := TX1) (N := 7) (ci := 1) (v := .int (m90 o89 5)) hx hb hts hinX1 hown hK hP ho89.1 ho89.2.1 rfl 5 (by decide) (hts (.fieldLink RX4 178 "AdmissionControl$Lane" "pass" "I") (List.mem_of_getElem? (i := 2) rfl)) (fun _ h9 => h9) rfl dX4_catchUp_68 ?_
              refine lv_aload_n hx hb dX4_catchUp_71 rfl (lv_at hl 2 rfl) ?_
              refine w_get (C := RX1) (T := TX1) (N := 7) (ci := 1) (v := .int (m90 u2 5)) hx hb hts hinX1 hown hK hP (hw2 u2 rfl).1 (hw2 u2 rfl).2.1 rfl 5 (by decide) (hts (.fieldLink RX4 178 "AdmissionControl$Lane" "pass" "I") (List.mem_of_getElem? (i := 2) rfl)) (fun _ h9 => h9) rfl dX4_catchUp_72 ?_
              obtain ⟨v91, ev91, hf⟩ := bd_e hf
              refine va_mmax hx hb (hml.trans hl.1.symm) hown (hts (.methodLink RX4 107 Lib.Math.max.name) (List.mem_of_getElem? (i := 3) rfl)) (hts (.static Lib.Math.max.name) (List.mem_of_getElem? (i := 4) rfl)) (hts (.initialized "java/lang/Math") (List.mem_of_getElem? (i := 5) rfl)) (hts (.code Lib.Math.max.name Lib.Math.max.code 2 (some .int)) (List.mem_of_getElem? (i := 6) rfl)) (Nat.le_of_ble_eq_true rfl) (Nat.le_of_ble_eq_true rfl) (Nat.zero_le _) (Nat.zero_le _) dX4_catchUp_75 ?_
              refine w_top ev91 ?_
              obtain ⟨m92, em92, hf⟩ := bd_e hf
              refine w_put (C := RX1) (T := TX1) (N := 7) (ci := 1) (x := v91) hx hb hts hinX1 tyX1 tyX1_ok nmX1 hown hi hA hK hP hS ho84.1 ho84.2.1 rfl 5 (by decide) (hts (.fieldLink RX4 178 "AdmissionControl$Lane" "pass" "I") (List.mem_of_getElem? (i := 2) rfl)) (fun _ h9 => h9) rfl rfl rfl (Nat.le_of_ble_eq_true rfl) rfl dX4_catchUp_78 (fun H locs hP hS => ?_)
              rw [← em92] at hP
              cases hf
              exact w_vret hx hb hr hlocks hP hS dX4_catchUp_81
        · rw [if_neg c83] at hf
          refine lv_aload_n hx hb dX4_catchUp_9 rfl (lv_at hl 0 rfl) ?_
          refine lv_iload_n hx hb dX4_catchUp_10 rfl (lv_at hl 3 rfl) ?_
          rcases oq_e hf with ⟨m94, hq, hf⟩ | ⟨o93, m94, hq, hf⟩
          · refine w_cqN (va_runV (As := [.int x3]) (rest := []) ⟨hx, hb, hml, hown, hts⟩ (c_X4_lane l D ad cI cR hi fu o x3 ho mm none m94 hq) (cwV 1 hts gX4_catchUp_X4_lane rfl rfl rfl (by decide +kernel) ⟨Nat.le_of_ble_eq_true rfl, Nat.le_of_ble_eq_true rfl⟩) (w_preV (ci := 4) hK hP hN ho.1 ho.2.1 rfl) rfl rfl hl.1 rfl (lv_room (Nat.le_of_ble_eq_true rfl)) dX4_catchUp_11 ⟨Nat.zero_le _, Nat.zero_le _⟩) hA hS (fun H locs hP hS => ?_)
            refine lv_astoreN (lv' := [(4, .null), (0, .ref (ad o)), (1, .int a1), (2, .ref (ad u2)), (3, .int x3)]) hx hb dX4_catchUp_14 hl (by decide) rfl (fun ls hl => ?_)
            refine lv_iload_n hx hb dX4_catchUp_16 rfl (lv_at hl 4 rfl) ?_
            refine lv_iload_n hx hb dX4_catchUp_17 rfl (lv_at hl 2 rfl) ?_
            refine lv_icmp_eq (tgt := 48) hx hb dX4_catchUp_18 (by decide) (fun c95 => ?_) (fun c95 => ?_)
            · rw [if_pos c95] at hf
              obtain ⟨v96, ev96, hf⟩ := bd_e hf
              refine lv_iinc (v := v96) (lv' := [(3, .int v96), (4, .null), (0, .ref (ad o)), (1, .int a1), (2, .ref (ad u2))]) hx hb dX4_catchUp_48 hl (k := 4) rfl (by rw [ev96]; rfl) (by decide) rfl (fun ls hl => ?_)
              refine lv_goto (tgt := 4) hx hb dX4_catchUp_51 (by decide) ?_
              exact ih4 (some u2) v96 (fun c h => by cases h; exact (hw2 u2 rfl)) m94 _ _ _ hf hP hS (lv_sub hl [2, 3, 4, 0] rfl)
            · rw [if_neg c95] at hf
              refine lv_aloadN hx hb dX4_catchUp_21 (lv_at hl 0 rfl) ?_
              cases hf
          · have ho93 := (t_X4_lane ad cI cR fu o x3 ho mm o93 m94 hq)
            refine w_cqS (va_runV (As := [.int x3]) (rest := []) ⟨hx, hb, hml, hown, hts⟩ (c_X4_lane l D ad cI cR hi fu o x3 ho mm (some o93) m94 hq) (cwV 1 hts gX4_catchUp_X4_lane rfl rfl rfl (by decide +kernel) ⟨Nat.le_of_ble_eq_true rfl, Nat.le_of_ble_eq_true rfl⟩) (w_preV (ci := 4) hK hP hN ho.1 ho.2.1 rfl) rfl rfl hl.1 rfl (lv_room (Nat.le_of_ble_eq_true rfl)) dX4_catchUp_11 ⟨Nat.zero_le _, Nat.zero_le _⟩) hA hS (fun H locs hP hS => ?_)
            refine lv_astore (lv' := [(4, .ref (ad o93)), (0, .ref (ad o)), (1, .int a1), (2, .ref (ad u2)), (3, .int x3)]) hx hb dX4_catchUp_14 hl (by decide) rfl (fun ls hl => ?_)
            refine lv_iload_n hx hb dX4_catchUp_16 rfl (lv_at hl 4 rfl) ?_
            refine lv_iload_n hx hb dX4_catchUp_17 rfl (lv_at hl 2 rfl) ?_
            refine lv_icmp_eq (tgt := 48) hx hb dX4_catchUp_18 (by decide) (fun c97 => ?_) (fun c97 => ?_)
            · rw [if_pos c97] at hf
              obtain ⟨v98, ev98, hf⟩ := bd_e hf
              refine lv_iinc (v := v98) (lv' := [(3, .int v98), (4, .ref (ad o93)), (0, .ref (ad o)), (1, .int a1), (2, .ref (ad u2))]) hx hb dX4_catchUp_48 hl (k := 4) rfl (by rw [ev98]; rfl) (by decide) rfl (fun ls hl => ?_)
              refine lv_goto (tgt := 4) hx hb dX4_catchUp_51 (by decide) ?_
              exact ih4 (some u2) v98 (fun c h => by cases h; exact (hw2 u2 rfl)) m94 _ _ _ hf hP hS (lv_sub hl [2, 3, 4, 0] rfl)
            · rw [if_neg c97] at hf
              refine lv_aload hx hb dX4_catchUp_21 (lv_at hl 0 rfl) ?_
              refine w_get (C := RX1) (T := TX1) (N := 7) (ci := 1) (v := .int (m94 o93 3)) hx hb hts hinX1 hown hK hP ho93.1 ho93.2.1 rfl 3 (by decide) (hts (.fieldLink RX4 113 "AdmissionControl$Lane" "length" "I") (List.mem_of_getElem? (i := 1) rfl)) (fun _ h9 => h9) rfl dX4_catchUp_23 ?_
              refine lv_if_le (tgt := 48) hx hb dX4_catchUp_26 (by decide) (fun c99 => ?_) (fun c99 => ?_)
              · rw [if_pos c99] at hf
                obtain ⟨v100, ev100, hf⟩ := bd_e hf
                refine lv_iinc (v := v100) (lv' := [(3, .int v100), (4, .ref (ad o93)), (0, .ref (ad o)), (1, .int a1), (2, .ref (ad u2))]) hx hb dX4_catchUp_48 hl (k := 4) rfl (by rw [ev100]; rfl) (by decide) rfl (fun ls hl => ?_)
                refine lv_goto (tgt := 4) hx hb dX4_catchUp_51 (by decide) ?_
                exact ih4 (some u2) v100 (fun c h => by cases h; exact (hw2 u2 rfl)) m94 _ _ _ hf hP hS (lv_sub hl [2, 3, 4, 0] rfl)
              · rw [if_neg c99] at hf
                refine lv_aload_n hx hb dX4_catchUp_29 rfl (lv_at hl 3 rfl) ?_
                refine lv_ifnull hx hb dX4_catchUp_30 ?_
                refine lv_aload hx hb dX4_catchUp_33 (lv_at hl 0 rfl) ?_
                refine w_get (C := RX1) (T := TX1) (N := 7) (ci := 1) (v := .int (m94 o93 5)) hx hb hts hinX1 hown hK hP ho93.1 ho93.2.1 rfl 5 (by decide) (hts (.fieldLink RX4 178 "AdmissionControl$Lane" "pass" "I") (List.mem_of_getElem? (i := 2) rfl)) (fun _ h9 => h9) rfl dX4_catchUp_35 ?_
                refine lv_aload_n hx hb dX4_catchUp_38 rfl (lv_at hl 3 rfl) ?_
                refine w_get (C := RX1) (T := TX1) (N := 7) (ci := 1) (v := .int (m94 u2 5)) hx hb hts hinX1 hown hK hP (hw2 u2 rfl).1 (hw2 u2 rfl).2.1 rfl 5 (by decide) (hts (.fieldLink RX4 178 "AdmissionControl$Lane" "pass" "I") (List.mem_of_getElem? (i := 2) rfl)) (fun _ h9 => h9) rfl dX4_catchUp_39 ?_
                refine lv_icmp_ge (tgt := 48) hx hb dX4_catchUp_42 (by decide) (fun c101 => ?_) (fun c101 => ?_)
                · rw [if_pos c101] at hf
                  obtain ⟨v102, ev102, hf⟩ := bd_e hf
                  refine lv_iinc (v := v102) (lv' := [(3, .int v102), (4, .ref (ad o93)), (0, .ref (ad o)), (1, .int a1), (2, .ref (ad u2))]) hx hb dX4_catchUp_48 hl (k := 4) rfl (by rw [ev102]; rfl) (by decide) rfl (fun ls hl => ?_)
                  refine lv_goto (tgt := 4) hx hb dX4_catchUp_51 (by decide) ?_
                  exact ih4 (some u2) v102 (fun c h => by cases h; exact (hw2 u2 rfl)) m94 _ _ _ hf hP hS (lv_sub hl [2, 3, 4, 0] rfl)
                · rw [if_neg c101] at hf
                  refine lv_aload hx hb dX4_catchUp_45 (lv_at hl 0 rfl) ?_
                  refine lv_astore_n (lv' := [(2, .ref (ad o93)), (4, .ref (ad o93)), (0, .ref (ad o)), (1, .int a1), (3, .int x3)]) hx hb dX4_catchUp_47 rfl hl (by decide) rfl (fun ls hl => ?_)
                  obtain ⟨v103, ev103, hf⟩ := bd_e hf
                  refine lv_iinc (v := v103) (lv' := [(3, .int v103), (2, .ref (ad o93)), (4, .ref (ad o93)), (0, .ref (ad o)), (1, .int a1)]) hx hb dX4_catchUp_48 hl (k := 4) rfl (by rw [ev103]; rfl) (by decide) rfl (fun ls hl => ?_)
                  refine lv_goto (tgt := 4) hx hb dX4_catchUp_51 (by decide) ?_
                  exact ih4 (some o93) v103 (fun c h => by cases h; exact ho93) m94 _ _ _ hf hP hS (lv_sub hl [3, 4, 1, 0] rfl)
  have hl := lv_entry ([.ref (ad o), .int a1]) (n := 5) (Nat.le_of_ble_eq_true rfl)
  rw [lg_entry_eq]
  generalize (lg_sl ([.ref (ad o), .int a1]) ++ List.replicate (5 - (lg_sl ([.ref (ad o), .int a1])).length) Slot.unset).toArray = ls at hl ⊢
  have hl : lv_has ls 5 [(0, .ref (ad o)), (1, .int a1)] := hl
  unfold F_X4_catchUp at hf
  refine lv_null hx hb dX4_catchUp_0 ?_
  refine lv_astore_nN (lv' := [(2, .null), (0, .ref (ad o)), (1, .int a1)]) hx hb dX4_catchUp_1 rfl hl (by decide) rfl (fun ls hl => ?_)
  refine lv_iconst (v := 0) hx hb dX4_catchUp_2 (by decide) ?_
  refine lv_istore_n (lv' := [(3, .int 0), (2, .null), (0, .ref (ad o)), (1, .int a1)]) hx hb dX4_catchUp_3 rfl hl (by decide) rfl (fun ls hl => ?_)
  exact hL4 fu none 0 (fun c h => by cases h) mm _ _ _ hf hP hS (lv_sub hl [2, 3, 1, 0] rfl)
def F_X4_admit_L24 (fu : Nat) (o : Nat) (b1 : Nat)  (y2 : Nat) (mm : Mem) : Option (Mem) := bd ((mm y2 4) - (mm b1 5)) fun v10 => bd (mput mm y2 4 v10) fun m11 => ov (F_X1_join fu y2 (m11 b1 0) m11) fun m12 => bd (mput m12 b1 4 0) fun m13 => bd (mput m13 b1 9 (m13 o 9)) fun m14 => some m14
def F_X4_admit (fu : Nat) (o : Nat) (b1 : Nat) (mm : Mem) : Option (Mem) := oq (F_X4_lane fu o (mm b1 1) mm) (fun m16 => none) (fun o15 m16 => if (m16 o15 3) = 0 then (ov (F_X4_catchUp fu o (m16 b1 1) m16) fun m18 => F_X4_admit_L24 fu o b1 o15 m18) else (F_X4_admit_L24 fu o b1 o15 m16))
set_option maxHeartbeats 4000000 in
set_option maxRecDepth 100000 in
theorem c_X4_admit (l : Launch) (D : va_G) (ad : Nat → Nat) (cI cR : ClassId) (hi : inj ad) (fu : Nat) (o : Nat) (b1 : Nat) (ho : sSrv ad cI cR o) (hb1 : sReq ad cI cR b1) (mm : Mem) (m9 : Mem) (hf : F_X4_admit fu o b1 mm = some m9) : MV l yX4_admit wsX4_admit { frames := 2, cells := 0, slots := 0, locals := 45 } D ad cI cR [.ref (ad o), .ref (ad b1)] mm m9 := by
  refine Met.ofW (cc := cX4_admit) (maxL := 3) (ret := none) (by decide) rfl ?_
  intro p e s m args below meth c s₁ B hml hv
  obtain ⟨rfl, hP, hK, hN⟩ := hv
  have hx := B.exec
  have hb := B.bytes
  have hr := B.returns
  have hts := atoms_spec (ws := wsX4_admit) B.pre
  have hown : s.vm.findClass RX4 = some m.cls := findClass_of_methodNamed B.named
  have hlocks := B.notSynchronized
  have hA : ∀ q, AA ad q → AA ad q := fun _ h => h
  have hS : va_S (AA ad) s.heap s.heap [] := va_S.rf
  have hinX1 : ∀ w ∈ wsX10, w ∈ wsX4_admit := (fun _ h => List.mem_cons_of_mem _ (List.mem_append_left _ (List.mem_append_left _ (List.mem_append_right _ h))))
  have hinX2 : ∀ w ∈ wsX20, w ∈ wsX4_admit := (fun _ h => List.mem_cons_of_mem _ (List.mem_append_left _ (List.mem_append_left _ (List.mem_append_left _ (List.mem_append_right _ h)))))
  have hinX4 : ∀ w ∈ wsX40, w ∈ wsX4_admit := (fun _ h => List.mem_cons_of_mem _ (List.mem_append_left _ (List.mem_append_right _ h)))
  have hL24 : ∀ (y2 : Nat) (hy2 : sLane ad cI cR y2) (mm : Mem) (H : Heap) (locs : List Loc) (ls : Array Slot), F_X4_admit_L24 fu o b1  y2 mm = some m9 → va_P D vwCl (cw ad cI cR mm) H → va_S (AA ad) s.heap H locs → lv_has ls 3 [(0, .ref (ad o)), (1, .ref (ad b1)), (2, .ref (ad y2))] → W p l e (headSpec wsX4_admit { frames := 2, cells := 0, slots := 0, locals := 45 }).room s m ([.ref (ad o), .ref (ad b1)] : List Value).toArray below meth c H locs 0 0 (MQ below (va_Qv (fun (u : Mem) => u = m9) (KB D ad cI cR) (AA ad)) ([.ref (ad o), .ref (ad b1)] : List Value).toArray s 0 0 (AA ad)) (F0 m 24 ls []) := by
    intro y2 hy2 mm H locs ls hf hP hS hl
    unfold F_X4_admit_L24 at hf
    refine lv_aload_n hx hb dX4_admit_24 rfl (lv_at hl 2 rfl) ?_
    refine lv_dup hx hb dX4_admit_25 rfl ?_
    refine w_get (C := RX1) (T := TX1) (N := 7) (ci := 1) (v := .int (mm y2 4)) hx hb hts hinX1 hown hK hP hy2.1 hy2.2.1 rfl 4 (by decide) (hts (.fieldLink RX4 133 "AdmissionControl$Lane" "tokens" "I") (List.mem_of_getElem? (i := 3) rfl)) (fun _ h9 => h9) rfl dX4_admit_26 ?_
    refine lv_aload_n hx hb dX4_admit_29 rfl (lv_at hl 1 rfl) ?_
    refine w_get (C := RX2) (T := TX2) (N := 11) (ci := 2) (v := .int (mm b1 5)) hx hb hts hinX2 hown hK hP hb1.1 hb1.2 rfl 5 (by decide) (hts (.fieldLink RX4 119 "AdmissionControl$Request" "price" "I") (List.mem_of_getElem? (i := 4) rfl)) (fun _ h9 => h9) rfl dX4_admit_30 ?_
    obtain ⟨v10, ev10, hf⟩ := bd_e hf
    refine lv_isub hx hb dX4_admit_33 ?_
    refine w_top ev10 ?_
    obtain ⟨m11, em11, hf⟩ := bd_e hf
    refine w_put (C := RX1) (T := TX1) (N := 7) (ci := 1) (x := v10) hx hb hts hinX1 tyX1 tyX1_ok nmX1 hown hi hA hK hP hS hy2.1 hy2.2.1 rfl 4 (by decide) (hts (.fieldLink RX4 133 "AdmissionControl$Lane" "tokens" "I") (List.mem_of_getElem? (i := 3) rfl)) (fun _ h9 => h9) rfl rfl rfl (Nat.le_of_ble_eq_true rfl) rfl dX4_admit_34 (fun H locs hP hS => ?_)
    rw [← em11] at hP
    refine lv_aload_n hx hb dX4_admit_37 rfl (lv_at hl 2 rfl) ?_
    refine lv_aload_n hx hb dX4_admit_38 rfl (lv_at hl 1 rfl) ?_
    refine w_get (C := RX2) (T := TX2) (N := 11) (ci := 2) (v := .int (m11 b1 0)) hx hb hts hinX2 hown hK hP hb1.1 hb1.2 rfl 0 (by decide) (hts (.fieldLink RX4 166 "AdmissionControl$Request" "number" "I") (List.mem_of_getElem? (i := 5) rfl)) (fun _ h9 => h9) rfl dX4_admit_39 ?_
    obtain ⟨m12, hq, hf⟩ := ov_e hf
    refine w_cv (va_runV (As := [.int (m11 b1 0)]) (rest := []) ⟨hx, hb, hml, hown, hts⟩ (c_X1_join l D ad cI cR hi fu y2 (m11 b1 0) hy2 m11 m12 hq) (cwV 1 hts gX4_admit_X1_join rfl rfl rfl (by decide +kernel) ⟨Nat.le_of_ble_eq_true rfl, Nat.le_of_ble_eq_true rfl⟩) (w_preV (ci := 1) hK hP hN hy2.1 hy2.2.1 rfl) rfl rfl hl.1 rfl (lv_room (Nat.le_of_ble_eq_true rfl)) dX4_admit_42 ⟨Nat.zero_le _, Nat.zero_le _⟩) hA hS (fun H locs hP hS => ?_)
    refine lv_aload_n hx hb dX4_admit_45 rfl (lv_at hl 1 rfl) ?_
    refine lv_iconst (v := 0) hx hb dX4_admit_46 (by decide) ?_
    obtain ⟨m13, em13, hf⟩ := bd_e hf
    refine w_put (C := RX2) (T := TX2) (N := 11) (ci := 2) (x := 0) hx hb hts hinX2 tyX2 tyX2_ok nmX2 hown hi hA hK hP hS hb1.1 hb1.2 rfl 4 (by decide) (hts (.fieldLink RX4 172 "AdmissionControl$Request" "state" "I") (List.mem_of_getElem? (i := 6) rfl)) (fun _ h9 => h9) rfl rfl rfl (Nat.le_of_ble_eq_true rfl) rfl dX4_admit_47 (fun H locs hP hS => ?_)
    rw [← em13] at hP
    refine lv_aload_n hx hb dX4_admit_50 rfl (lv_at hl 1 rfl) ?_
    refine lv_aload_n hx hb dX4_admit_51 rfl (lv_at hl 0 rfl) ?_
    refine w_get (C := RX4) (T := TX4) (N := 11) (ci := 4) (v := .int (m13 o 9)) hx hb hts hinX4 hown hK hP ho.1 ho.2.1 rfl 9 (by decide) (hts (.fieldLink RX4 52 "AdmissionControl$Server" "clock" "I") (List.mem_of_getElem? (i := 7) rfl)) (fun _ h9 => h9) rfl dX4_admit_52 ?_
    obtain ⟨m14, em14, hf⟩ := bd_e hf
    refine w_put (C := RX2) (T := TX2) (N := 11) (ci := 2) (x := (m13 o 9)) hx hb hts hinX2 tyX2 tyX2_ok nmX2 hown hi hA hK hP hS hb1.1 hb1.2 rfl 9 (by decide) (hts (.fieldLink RX4 175 "AdmissionControl$Request" "admitted" "I") (List.mem_of_getElem? (i := 8) rfl)) (fun _ h9 => h9) rfl rfl rfl (Nat.le_of_ble_eq_true rfl) rfl dX4_admit_55 (fun H locs hP hS => ?_)
    rw [← em14] at hP
    cases hf
    exact w_vret hx hb hr hlocks hP hS dX4_admit_58
  have hl := lv_entry ([.ref (ad o), .ref (ad b1)]) (n := 3) (Nat.le_of_ble_eq_true rfl)
  rw [lg_entry_eq]
  generalize (lg_sl ([.ref (ad o), .ref (ad b1)]) ++ List.replicate (3 - (lg_sl ([.ref (ad o), .ref (ad b1)])).length) Slot.unset).toArray = ls at hl ⊢
  have hl : lv_has ls 3 [(0, .ref (ad o)), (1, .ref (ad b1))] := hl
  unfold F_X4_admit at hf
  refine lv_aload_n hx hb dX4_admit_0 rfl (lv_at hl 0 rfl) ?_
  refine lv_aload_n hx hb dX4_admit_1 rfl (lv_at hl 1 rfl) ?_
  refine w_get (C := RX2) (T := TX2) (N := 11) (ci := 2) (v := .int (mm b1 1)) hx hb hts hinX2 hown hK hP hb1.1 hb1.2 rfl 1 (by decide) (hts (.fieldLink RX4 145 "AdmissionControl$Request" "kind" "I") (List.mem_of_getElem? (i := 1) rfl)) (fun _ h9 => h9) rfl dX4_admit_2 ?_
  rcases oq_e hf with ⟨m16, hq, hf⟩ | ⟨o15, m16, hq, hf⟩
  · refine w_cqN (va_runV (As := [.int (mm b1 1)]) (rest := []) ⟨hx, hb, hml, hown, hts⟩ (c_X4_lane l D ad cI cR hi fu o (mm b1 1) ho mm none m16 hq) (cwV 1 hts gX4_admit_X4_lane rfl rfl rfl (by decide +kernel) ⟨Nat.le_of_ble_eq_true rfl, Nat.le_of_ble_eq_true rfl⟩) (w_preV (ci := 4) hK hP hN ho.1 ho.2.1 rfl) rfl rfl hl.1 rfl (lv_room (Nat.le_of_ble_eq_true rfl)) dX4_admit_5 ⟨Nat.zero_le _, Nat.zero_le _⟩) hA hS (fun H locs hP hS => ?_)
    refine lv_astore_nN (lv' := [(2, .null), (0, .ref (ad o)), (1, .ref (ad b1))]) hx hb dX4_admit_8 rfl hl (by decide) rfl (fun ls hl => ?_)
    refine lv_aload_nN hx hb dX4_admit_9 rfl (lv_at hl 0 rfl) ?_
    cases hf
  · have ho15 := (t_X4_lane ad cI cR fu o (mm b1 1) ho mm o15 m16 hq)
    refine w_cqS (va_runV (As := [.int (mm b1 1)]) (rest := []) ⟨hx, hb, hml, hown, hts⟩ (c_X4_lane l D ad cI cR hi fu o (mm b1 1) ho mm (some o15) m16 hq) (cwV 1 hts gX4_admit_X4_lane rfl rfl rfl (by decide +kernel) ⟨Nat.le_of_ble_eq_true rfl, Nat.le_of_ble_eq_true rfl⟩) (w_preV (ci := 4) hK hP hN ho.1 ho.2.1 rfl) rfl rfl hl.1 rfl (lv_room (Nat.le_of_ble_eq_true rfl)) dX4_admit_5 ⟨Nat.zero_le _, Nat.zero_le _⟩) hA hS (fun H locs hP hS => ?_)
    refine lv_astore_n (lv' := [(2, .ref (ad o15)), (0, .ref (ad o)), (1, .ref (ad b1))]) hx hb dX4_admit_8 rfl hl (by decide) rfl (fun ls hl => ?_)
    refine lv_aload_n hx hb dX4_admit_9 rfl (lv_at hl 0 rfl) ?_
    refine w_get (C := RX1) (T := TX1) (N := 7) (ci := 1) (v := .int (m16 o15 3)) hx hb hts hinX1 hown hK hP ho15.1 ho15.2.1 rfl 3 (by decide) (hts (.fieldLink RX4 113 "AdmissionControl$Lane" "length" "I") (List.mem_of_getElem? (i := 2) rfl)) (fun _ h9 => h9) rfl dX4_admit_10 ?_
    refine lv_if_ne (tgt := 24) hx hb dX4_admit_13 (by decide) (fun c17 => ?_) (fun c17 => ?_)
    · rw [if_neg c17] at hf
      exact hL24 o15 ho15 m16 _ _ _ hf hP hS (lv_sub hl [1, 2, 0] rfl)
    · rw [if_pos c17] at hf
      refine lv_aload_n hx hb dX4_admit_16 rfl (lv_at hl 1 rfl) ?_
      refine lv_aload_n hx hb dX4_admit_17 rfl (lv_at hl 2 rfl) ?_
      refine w_get (C := RX2) (T := TX2) (N := 11) (ci := 2) (v := .int (m16 b1 1)) hx hb hts hinX2 hown hK hP hb1.1 hb1.2 rfl 1 (by decide) (hts (.fieldLink RX4 145 "AdmissionControl$Request" "kind" "I") (List.mem_of_getElem? (i := 1) rfl)) (fun _ h9 => h9) rfl dX4_admit_18 ?_
      obtain ⟨m18, hq, hf⟩ := ov_e hf
      refine w_cv (va_runV (As := [.int (m16 b1 1)]) (rest := []) ⟨hx, hb, hml, hown, hts⟩ (c_X4_catchUp l D ad cI cR hi fu o (m16 b1 1) ho m16 m18 hq) (cwV 1 hts gX4_admit_X4_catchUp rfl rfl rfl (by decide +kernel) ⟨Nat.le_of_ble_eq_true rfl, Nat.le_of_ble_eq_true rfl⟩) (w_preV (ci := 4) hK hP hN ho.1 ho.2.1 rfl) rfl rfl hl.1 rfl (lv_room (Nat.le_of_ble_eq_true rfl)) dX4_admit_21 ⟨Nat.zero_le _, Nat.zero_le _⟩) hA hS (fun H locs hP hS => ?_)
      exact hL24 o15 ho15 m18 _ _ _ hf hP hS (lv_sub hl [1, 2, 0] rfl)
def F_X4_refuse (fu : Nat) (o : Nat) (b1 : Nat) (a2 : Int32) (mm : Mem) : Option (Mem) := oq (F_X4_lane fu o (mm b1 1) mm) (fun m24 => none) (fun o23 m24 => ob (F_X3_at fu (o23 + 3) 6 a2 m24) fun r25 m26 => bd (r25 + 1) fun v27 => ov (F_X3_put fu (o23 + 3) 6 a2 v27 m26) fun m28 => bd (mput m28 b1 8 a2) fun m29 => ob (F_X3_at fu (o + 1) 4 3 m29) fun r30 m31 => if r30 < (m29 b1 7) then (bd (mput m31 b1 4 4) fun m33 => bd ((m33 o 7) - 1) fun v34 => bd (mput m33 o 7 v34) fun m35 => bd ((m35 o 8) + 1) fun v36 => bd (mput m35 o 8 v36) fun m37 => some m37) else (bd (mput m31 b1 4 3) fun m38 => ob (F_X3_at fu (o + 1) 4 2 m38) fun r39 m40 => bd ((m40 b1 7) - 1) fun v41 => bd (r39 <<< (v41 &&& 31)) fun v42 => bd ((m38 o 9) + v42) fun v43 => bd (mput m40 b1 10 v43) fun m44 => some m44))
set_option maxHeartbeats 4000000 in
set_option maxRecDepth 100000 in
theorem c_X4_refuse (l : Launch) (D : va_G) (ad : Nat → Nat) (cI cR : ClassId) (hi : inj ad) (fu : Nat) (o : Nat) (b1 : Nat) (a2 : Int32) (ho : sSrv ad cI cR o) (hb1 : sReq ad cI cR b1) (mm : Mem) (m9 : Mem) (hf : F_X4_refuse fu o b1 a2 mm = some m9) : MV l yX4_refuse wsX4_refuse { frames := 1, cells := 0, slots := 0, locals := 22 } D ad cI cR [.ref (ad o), .ref (ad b1), .int a2] mm m9 := by
  refine Met.ofW (cc := cX4_refuse) (maxL := 4) (ret := none) (by decide) rfl ?_
  intro p e s m args below meth c s₁ B hml hv
  obtain ⟨rfl, hP, hK, hN⟩ := hv
  have hx := B.exec
  have hb := B.bytes
  have hr := B.returns
  have hts := atoms_spec (ws := wsX4_refuse) B.pre
  have hown : s.vm.findClass RX4 = some m.cls := findClass_of_methodNamed B.named
  have hlocks := B.notSynchronized
  have hA : ∀ q, AA ad q → AA ad q := fun _ h => h
  have hS : va_S (AA ad) s.heap s.heap [] := va_S.rf
  have hinX1 : ∀ w ∈ wsX10, w ∈ wsX4_refuse := (fun _ h => List.mem_cons_of_mem _ (List.mem_append_left _ (List.mem_append_left _ (List.mem_append_right _ h))))
  have hinX2 : ∀ w ∈ wsX20, w ∈ wsX4_refuse := (fun _ h => List.mem_cons_of_mem _ (List.mem_append_left _ (List.mem_append_left _ (List.mem_append_left _ (List.mem_append_right _ h)))))
  have hinX4 : ∀ w ∈ wsX40, w ∈ wsX4_refuse := (fun _ h => List.mem_cons_of_mem _ (List.mem_append_left _ (List.mem_append_right _ h)))
  have hl := lv_entry ([.ref (ad o), .ref (ad b1), .int a2]) (n := 4) (Nat.le_of_ble_eq_true rfl)
  rw [lg_entry_eq]
  generalize (lg_sl ([.ref (ad o), .ref (ad b1), .int a2]) ++ List.replicate (4 - (lg_sl ([.ref (ad o), .ref (ad b1), .int a2])).length) Slot.unset).toArray = ls at hl ⊢
  have hl : lv_has ls 4 [(0, .ref (ad o)), (1, .ref (ad b1)), (2, .int a2)] := hl
  unfold F_X4_refuse at hf
  refine lv_aload_n hx hb dX4_refuse_0 rfl (lv_at hl 0 rfl) ?_
  refine lv_aload_n hx hb dX4_refuse_1 rfl (lv_at hl 1 rfl) ?_
  refine w_get (C := RX2) (T := TX2) (N := 11) (ci := 2) (v := .int (mm b1 1)) hx hb hts hinX2 hown hK hP hb1.1 hb1.2 rfl 1 (by decide) (hts (.fieldLink RX4 145 "AdmissionControl$Request" "kind" "I") (List.mem_of_getElem? (i := 1) rfl)) (fun _ h9 => h9) rfl dX4_refuse_2 ?_
  rcases oq_e hf with ⟨m24, hq, hf⟩ | ⟨o23, m24, hq, hf⟩
  · refine w_cqN (va_runV (As := [.int (mm b1 1)]) (rest := []) ⟨hx, hb, hml, hown, hts⟩ (c_X4_lane l D ad cI cR hi fu o (mm b1 1) ho mm none m24 hq) (cwV 1 hts gX4_refuse_X4_lane rfl rfl rfl (by decide +kernel) ⟨Nat.le_of_ble_eq_true rfl, Nat.le_of_ble_eq_true rfl⟩) (w_preV (ci := 4) hK hP hN ho.1 ho.2.1 rfl) rfl rfl hl.1 rfl (lv_room (Nat.le_of_ble_eq_true rfl)) dX4_refuse_5 ⟨Nat.zero_le _, Nat.zero_le _⟩) hA hS (fun H locs hP hS => ?_)
    cases hf
  · have ho23 := (t_X4_lane ad cI cR fu o (mm b1 1) ho mm o23 m24 hq)
    refine w_cqS (va_runV (As := [.int (mm b1 1)]) (rest := []) ⟨hx, hb, hml, hown, hts⟩ (c_X4_lane l D ad cI cR hi fu o (mm b1 1) ho mm (some o23) m24 hq) (cwV 1 hts gX4_refuse_X4_lane rfl rfl rfl (by decide +kernel) ⟨Nat.le_of_ble_eq_true rfl, Nat.le_of_ble_eq_true rfl⟩) (w_preV (ci := 4) hK hP hN ho.1 ho.2.1 rfl) rfl rfl hl.1 rfl (lv_room (Nat.le_of_ble_eq_true rfl)) dX4_refuse_5 ⟨Nat.zero_le _, Nat.zero_le _⟩) hA hS (fun H locs hP hS => ?_)
    refine w_get (C := RX1) (T := TX1) (N := 7) (ci := 1) (v := .ref (ad (o23 + 3))) hx hb hts hinX1 hown hK hP ho23.1 ho23.2.1 rfl 1 (by decide) (hts (.fieldLink RX4 181 "AdmissionControl$Lane" "refusals" "LAdmissionControl$Row;") (List.mem_of_getElem? (i := 2) rfl)) (fun _ h9 => h9) rfl dX4_refuse_8 ?_
    refine lv_astore_n (lv' := [(3, .ref (ad (o23 + 3))), (0, .ref (ad o)), (1, .ref (ad b1)), (2, .int a2)]) hx hb dX4_refuse_11 rfl hl (by decide) rfl (fun ls hl => ?_)
    refine lv_aload_n hx hb dX4_refuse_12 rfl (lv_at hl 0 rfl) ?_
    refine lv_iload_n hx hb dX4_refuse_13 rfl (lv_at hl 3 rfl) ?_
    refine lv_aload_n hx hb dX4_refuse_14 rfl (lv_at hl 0 rfl) ?_
    refine lv_iload_n hx hb dX4_refuse_15 rfl (lv_at hl 3 rfl) ?_
    obtain ⟨r25, m26, hq, hf⟩ := ob_e hf
    refine w_ci (va_runV (As := [.int a2]) (rest := [.int a2, .ref (ad (o23 + 3))]) ⟨hx, hb, hml, hown, hts⟩ (c_X3_at l D ad cI cR hi fu (o23 + 3) 6 a2 ho23.2.2.2.1 m24 r25 m26 hq) (cwV 1 hts gX4_refuse_X3_at rfl rfl rfl (by decide +kernel) ⟨Nat.le_of_ble_eq_true rfl, Nat.le_of_ble_eq_true rfl⟩) (w_preV (ci := 3) hK hP hN ho23.2.2.2.1.1 ho23.2.2.2.1.2.1 rfl) rfl rfl hl.1 rfl (lv_room (Nat.le_of_ble_eq_true rfl)) dX4_refuse_16 ⟨Nat.zero_le _, Nat.zero_le _⟩) hA hS (fun H locs hP hS => ?_)
    refine lv_iconst (v := 1) hx hb dX4_refuse_19 (by decide) ?_
    obtain ⟨v27, ev27, hf⟩ := bd_e hf
    refine lv_iadd hx hb dX4_refuse_20 ?_
    refine w_top ev27 ?_
    obtain ⟨m28, hq, hf⟩ := ov_e hf
    refine w_cv (va_runV (As := [.int a2, .int v27]) (rest := []) ⟨hx, hb, hml, hown, hts⟩ (c_X3_put l D ad cI cR hi fu (o23 + 3) 6 a2 v27 ho23.2.2.2.1 m26 m28 hq) (cwV 2 hts gX4_refuse_X3_put rfl rfl rfl (by decide +kernel) ⟨Nat.le_of_ble_eq_true rfl, Nat.le_of_ble_eq_true rfl⟩) (w_preV (ci := 3) hK hP hN ho23.2.2.2.1.1 ho23.2.2.2.1.2.1 rfl) rfl rfl hl.1 rfl (lv_room (Nat.le_of_ble_eq_true rfl)) dX4_refuse_21 ⟨Nat.zero_le _, Nat.zero_le _⟩) hA hS (fun H locs hP hS => ?_)
    refine lv_aload_n hx hb dX4_refuse_24 rfl (lv_at hl 2 rfl) ?_
    refine lv_iload_n hx hb dX4_refuse_25 rfl (lv_at hl 3 rfl) ?_
    obtain ⟨m29, em29, hf⟩ := bd_e hf
    refine w_put (C := RX2) (T := TX2) (N := 11) (ci := 2) (x := a2) hx hb hts hinX2 tyX2 tyX2_ok nmX2 hown hi hA hK hP hS hb1.1 hb1.2 rfl 8 (by decide) (hts (.fieldLink RX4 184 "AdmissionControl$Request" "reason" "I") (List.mem_of_getElem? (i := 3) rfl)) (fun _ h9 => h9) rfl rfl rfl (Nat.le_of_ble_eq_true rfl) rfl dX4_refuse_26 (fun H locs hP hS => ?_)
    rw [← em29] at hP
    refine lv_aload_n hx hb dX4_refuse_29 rfl (lv_at hl 2 rfl) ?_
    refine w_get (C := RX2) (T := TX2) (N := 11) (ci := 2) (v := .int (m29 b1 7)) hx hb hts hinX2 hown hK hP hb1.1 hb1.2 rfl 7 (by decide) (hts (.fieldLink RX4 142 "AdmissionControl$Request" "offers" "I") (List.mem_of_getElem? (i := 4) rfl)) (fun _ h9 => h9) rfl dX4_refuse_30 ?_
    refine lv_aload_n hx hb dX4_refuse_33 rfl (lv_at hl 1 rfl) ?_
    refine w_get (C := RX4) (T := TX4) (N := 11) (ci := 4) (v := .ref (ad (o + 1))) hx hb hts hinX4 hown hK hP ho.1 ho.2.1 rfl 0 (by decide) (hts (.fieldLink RX4 14 "AdmissionControl$Server" "settings" "LAdmissionControl$Row;") (List.mem_of_getElem? (i := 5) rfl)) (fun _ h9 => h9) rfl dX4_refuse_34 ?_
    refine lv_iconst (v := 3) hx hb dX4_refuse_37 (by decide) ?_
    obtain ⟨r30, m31, hq, hf⟩ := ob_e hf
    refine w_ci (va_runV (As := [.int 3]) (rest := [.int (m29 b1 7)]) ⟨hx, hb, hml, hown, hts⟩ (c_X3_at l D ad cI cR hi fu (o + 1) 4 3 ho.2.2.1 m29 r30 m31 hq) (cwV 1 hts gX4_refuse_X3_at rfl rfl rfl (by decide +kernel) ⟨Nat.le_of_ble_eq_true rfl, Nat.le_of_ble_eq_true rfl⟩) (w_preV (ci := 3) hK hP hN ho.2.2.1.1 ho.2.2.1.2.1 rfl) rfl rfl hl.1 rfl (lv_room (Nat.le_of_ble_eq_true rfl)) dX4_refuse_38 ⟨Nat.zero_le _, Nat.zero_le _⟩) hA hS (fun H locs hP hS => ?_)
    refine lv_icmp_gt (tgt := 76) hx hb dX4_refuse_41 (by decide) (fun c32 => ?_) (fun c32 => ?_)
    · rw [if_pos c32] at hf
      refine lv_aload_n hx hb dX4_refuse_76 rfl (lv_at hl 2 rfl) ?_
      refine lv_iconst (v := 4) hx hb dX4_refuse_77 (by decide) ?_
      obtain ⟨m33, em33, hf⟩ := bd_e hf
      refine w_put (C := RX2) (T := TX2) (N := 11) (ci := 2) (x := 4) hx hb hts hinX2 tyX2 tyX2_ok nmX2 hown hi hA hK hP hS hb1.1 hb1.2 rfl 4 (by decide) (hts (.fieldLink RX4 172 "AdmissionControl$Request" "state" "I") (List.mem_of_getElem? (i := 6) rfl)) (fun _ h9 => h9) rfl rfl rfl (Nat.le_of_ble_eq_true rfl) rfl dX4_refuse_78 (fun H locs hP hS => ?_)
      rw [← em33] at hP
      refine lv_aload_n hx hb dX4_refuse_81 rfl (lv_at hl 1 rfl) ?_
      refine lv_dup hx hb dX4_refuse_82 rfl ?_
      refine w_get (C := RX4) (T := TX4) (N := 11) (ci := 4) (v := .int (m33 o 7)) hx hb hts hinX4 hown hK hP ho.1 ho.2.1 rfl 7 (by decide) (hts (.fieldLink RX4 46 "AdmissionControl$Server" "open" "I") (List.mem_of_getElem? (i := 9) rfl)) (fun _ h9 => h9) rfl dX4_refuse_83 ?_
      refine lv_iconst (v := 1) hx hb dX4_refuse_86 (by decide) ?_
      obtain ⟨v34, ev34, hf⟩ := bd_e hf
      refine lv_isub hx hb dX4_refuse_87 ?_
      refine w_top ev34 ?_
      obtain ⟨m35, em35, hf⟩ := bd_e hf
      refine w_put (C := RX4) (T := TX4) (N := 11) (ci := 4) (x := v34) hx hb hts hinX4 tyX4 tyX4_ok nmX4 hown hi hA hK hP hS ho.1 ho.2.1 rfl 7 (by decide) (hts (.fieldLink RX4 46 "AdmissionControl$Server" "open" "I") (List.mem_of_getElem? (i := 9) rfl)) (fun _ h9 => h9) rfl rfl rfl (Nat.le_of_ble_eq_true rfl) rfl dX4_refuse_88 (fun H locs hP hS => ?_)
      rw [← em35] at hP
      refine lv_aload_n hx hb dX4_refuse_91 rfl (lv_at hl 1 rfl) ?_
      refine lv_dup hx hb dX4_refuse_92 rfl ?_
      refine w_get (C := RX4) (T := TX4) (N := 11) (ci := 4) (v := .int (m35 o 8)) hx hb hts hinX4 hown hK hP ho.1 ho.2.1 rfl 8 (by decide) (hts (.fieldLink RX4 49 "AdmissionControl$Server" "rejected" "I") (List.mem_of_getElem? (i := 10) rfl)) (fun _ h9 => h9) rfl dX4_refuse_93 ?_
      refine lv_iconst (v := 1) hx hb dX4_refuse_96 (by decide) ?_
      obtain ⟨v36, ev36, hf⟩ := bd_e hf
      refine lv_iadd hx hb dX4_refuse_97 ?_
      refine w_top ev36 ?_
      obtain ⟨m37, em37, hf⟩ := bd_e hf
      refine w_put (C := RX4) (T := TX4) (N := 11) (ci := 4) (x := v36) hx hb hts hinX4 tyX4 tyX4_ok nmX4 hown hi hA hK hP hS ho.1 ho.2.1 rfl 8 (by decide) (hts (.fieldLink RX4 49 "AdmissionControl$Server" "rejected" "I") (List.mem_of_getElem? (i := 10) rfl)) (fun _ h9 => h9) rfl rfl rfl (Nat.le_of_ble_eq_true rfl) rfl dX4_refuse_98 (fun H locs hP hS => ?_)
      rw [← em37] at hP
      cases hf
      exact w_vret hx hb hr hlocks hP hS dX4_refuse_101
    · rw [if_neg c32] at hf
      refine lv_aload_n hx hb dX4_refuse_44 rfl (lv_at hl 2 rfl) ?_
      refine lv_iconst (v := 3) hx hb dX4_refuse_45 (by decide) ?_
      obtain ⟨m38, em38, hf⟩ := bd_e hf
      refine w_put (C := RX2) (T := TX2) (N := 11) (ci := 2) (x := 3) hx hb hts hinX2 tyX2 tyX2_ok nmX2 hown hi hA hK hP hS hb1.1 hb1.2 rfl 4 (by decide) (hts (.fieldLink RX4 172 "AdmissionControl$Request" "state" "I") (List.mem_of_getElem? (i := 6) rfl)) (fun _ h9 => h9) rfl rfl rfl (Nat.le_of_ble_eq_true rfl) rfl dX4_refuse_46 (fun H locs hP hS => ?_)
      rw [← em38] at hP
      refine lv_aload_n hx hb dX4_refuse_49 rfl (lv_at hl 2 rfl) ?_
      refine lv_aload_n hx hb dX4_refuse_50 rfl (lv_at hl 1 rfl) ?_
      refine w_get (C := RX4) (T := TX4) (N := 11) (ci := 4) (v := .int (m38 o 9)) hx hb hts hinX4 hown hK hP ho.1 ho.2.1 rfl 9 (by decide) (hts (.fieldLink RX4 52 "AdmissionControl$Server" "clock" "I") (List.mem_of_getElem? (i := 7) rfl)) (fun _ h9 => h9) rfl dX4_refuse_51 ?_
      refine lv_aload_n hx hb dX4_refuse_54 rfl (lv_at hl 1 rfl) ?_
      refine w_get (C := RX4) (T := TX4) (N := 11) (ci := 4) (v := .ref (ad (o + 1))) hx hb hts hinX4 hown hK hP ho.1 ho.2.1 rfl 0 (by decide) (hts (.fieldLink RX4 14 "AdmissionControl$Server" "settings" "LAdmissionControl$Row;") (List.mem_of_getElem? (i := 5) rfl)) (fun _ h9 => h9) rfl dX4_refuse_55 ?_
      refine lv_iconst (v := 2) hx hb dX4_refuse_58 (by decide) ?_
      obtain ⟨r39, m40, hq, hf⟩ := ob_e hf
      refine w_ci (va_runV (As := [.int 2]) (rest := [.int (m38 o 9), .ref (ad b1)]) ⟨hx, hb, hml, hown, hts⟩ (c_X3_at l D ad cI cR hi fu (o + 1) 4 2 ho.2.2.1 m38 r39 m40 hq) (cwV 1 hts gX4_refuse_X3_at rfl rfl rfl (by decide +kernel) ⟨Nat.le_of_ble_eq_true rfl, Nat.le_of_ble_eq_true rfl⟩) (w_preV (ci := 3) hK hP hN ho.2.2.1.1 ho.2.2.1.2.1 rfl) rfl rfl hl.1 rfl (lv_room (Nat.le_of_ble_eq_true rfl)) dX4_refuse_59 ⟨Nat.zero_le _, Nat.zero_le _⟩) hA hS (fun H locs hP hS => ?_)
      refine lv_aload_n hx hb dX4_refuse_62 rfl (lv_at hl 2 rfl) ?_
      refine w_get (C := RX2) (T := TX2) (N := 11) (ci := 2) (v := .int (m40 b1 7)) hx hb hts hinX2 hown hK hP hb1.1 hb1.2 rfl 7 (by decide) (hts (.fieldLink RX4 142 "AdmissionControl$Request" "offers" "I") (List.mem_of_getElem? (i := 4) rfl)) (fun _ h9 => h9) rfl dX4_refuse_63 ?_
      refine lv_iconst (v := 1) hx hb dX4_refuse_66 (by decide) ?_
      obtain ⟨v41, ev41, hf⟩ := bd_e hf
      refine lv_isub hx hb dX4_refuse_67 ?_
      refine w_top ev41 ?_
      obtain ⟨v42, ev42, hf⟩ := bd_e hf
      refine lv_ishl hx hb dX4_refuse_68 ?_
      refine w_top ev42 ?_
      obtain ⟨v43, ev43, hf⟩ := bd_e hf
      refine lv_iadd hx hb dX4_refuse_69 ?_
      refine w_top ev43 ?_
      obtain ⟨m44, em44, hf⟩ := bd_e hf
      refine w_put (C := RX2) (T := TX2) (N := 11) (ci := 2) (x := v43) hx hb hts hinX2 tyX2 tyX2_ok nmX2 hown hi hA hK hP hS hb1.1 hb1.2 rfl 10 (by decide) (hts (.fieldLink RX4 187 "AdmissionControl$Request" "tick" "I") (List.mem_of_getElem? (i := 8) rfl)) (fun _ h9 => h9) rfl rfl rfl (Nat.le_of_ble_eq_true rfl) rfl dX4_refuse_70 (fun H locs hP hS => ?_)
      rw [← em44] at hP
      refine lv_goto (tgt := 101) hx hb dX4_refuse_73 (by decide) ?_
      cases hf
      exact w_vret hx hb hr hlocks hP hS dX4_refuse_101
def F_X4_offerNow (fu : Nat) (o : Nat) (b1 : Nat) (mm : Mem) : Option (Int32 × Mem) := ob (F_X4_expectedCost fu o (mm b1 2) mm) fun r13 m14 => bd (mput m14 b1 5 r13) fun m15 => bd ((m15 b1 7) + 1) fun v16 => bd (mput m15 b1 7 v16) fun m17 => oq (F_X4_lane fu o (m17 b1 1) m17) (fun m19 => none) (fun o18 m19 => ob (F_X4_firstRefusal fu o o18 (m19 b1 5) m19) fun r20 m21 => if r20 = 0 then (ov (F_X4_admit fu o b1 m21) fun m24 => some (r20, m24)) else (ov (F_X4_refuse fu o b1 r20 m21) fun m23 => some (r20, m23)))
set_option maxHeartbeats 4000000 in
set_option maxRecDepth 100000 in
theorem c_X4_offerNow (l : Launch) (D : va_G) (ad : Nat → Nat) (cI cR : ClassId) (hi : inj ad) (fu : Nat) (o : Nat) (b1 : Nat) (ho : sSrv ad cI cR o) (hb1 : sReq ad cI cR b1) (mm : Mem) (r0 : Int32) (m9 : Mem) (hf : F_X4_offerNow fu o b1 mm = some (r0, m9)) : MI l yX4_offerNow wsX4_offerNow { frames := 3, cells := 0, slots := 0, locals := 70 } D ad cI cR [.ref (ad o), .ref (ad b1)] mm r0 m9 := by
  refine Met.ofW (cc := cX4_offerNow) (maxL := 3) (ret := (some .int)) (by decide) rfl ?_
  intro p e s m args below meth c s₁ B hml hv
  obtain ⟨rfl, hP, hK, hN⟩ := hv
  have hx := B.exec
  have hb := B.bytes
  have hr := B.returns
  have hts := atoms_spec (ws := wsX4_offerNow) B.pre
  have hown : s.vm.findClass RX4 = some m.cls := findClass_of_methodNamed B.named
  have hlocks := B.notSynchronized
  have hA : ∀ q, AA ad q → AA ad q := fun _ h => h
  have hS : va_S (AA ad) s.heap s.heap [] := va_S.rf
  have hinX2 : ∀ w ∈ wsX20, w ∈ wsX4_offerNow := (fun _ h => List.mem_cons_of_mem _ (List.mem_append_left _ (List.mem_append_left _ (List.mem_append_left _ (List.mem_append_right _ h)))))
  have hl := lv_entry ([.ref (ad o), .ref (ad b1)]) (n := 3) (Nat.le_of_ble_eq_true rfl)
  rw [lg_entry_eq]
  generalize (lg_sl ([.ref (ad o), .ref (ad b1)]) ++ List.replicate (3 - (lg_sl ([.ref (ad o), .ref (ad b1)])).length) Slot.unset).toArray = ls at hl ⊢
  have hl : lv_has ls 3 [(0, .ref (ad o)), (1, .ref (ad b1))] := hl
  unfold F_X4_offerNow at hf
  refine lv_aload_n hx hb dX4_offerNow_0 rfl (lv_at hl 1 rfl) ?_
  refine lv_aload_n hx hb dX4_offerNow_1 rfl (lv_at hl 0 rfl) ?_
  refine lv_aload_n hx hb dX4_offerNow_2 rfl (lv_at hl 1 rfl) ?_
  refine w_get (C := RX2) (T := TX2) (N := 11) (ci := 2) (v := .int (mm b1 2)) hx hb hts hinX2 hown hK hP hb1.1 hb1.2 rfl 2 (by decide) (hts (.fieldLink RX4 136 "AdmissionControl$Request" "shape" "I") (List.mem_of_getElem? (i := 1) rfl)) (fun _ h9 => h9) rfl dX4_offerNow_3 ?_
  obtain ⟨r13, m14, hq, hf⟩ := ob_e hf
  refine w_ci (va_runV (As := [.int (mm b1 2)]) (rest := [.ref (ad b1)]) ⟨hx, hb, hml, hown, hts⟩ (c_X4_expectedCost l D ad cI cR hi fu o (mm b1 2) ho mm r13 m14 hq) (cwV 1 hts gX4_offerNow_X4_expectedCost rfl rfl rfl (by decide +kernel) ⟨Nat.le_of_ble_eq_true rfl, Nat.le_of_ble_eq_true rfl⟩) (w_preV (ci := 4) hK hP hN ho.1 ho.2.1 rfl) rfl rfl hl.1 rfl (lv_room (Nat.le_of_ble_eq_true rfl)) dX4_offerNow_6 ⟨Nat.zero_le _, Nat.zero_le _⟩) hA hS (fun H locs hP hS => ?_)
  obtain ⟨m15, em15, hf⟩ := bd_e hf
  refine w_put (C := RX2) (T := TX2) (N := 11) (ci := 2) (x := r13) hx hb hts hinX2 tyX2 tyX2_ok nmX2 hown hi hA hK hP hS hb1.1 hb1.2 rfl 5 (by decide) (hts (.fieldLink RX4 119 "AdmissionControl$Request" "price" "I") (List.mem_of_getElem? (i := 2) rfl)) (fun _ h9 => h9) rfl rfl rfl (Nat.le_of_ble_eq_true rfl) rfl dX4_offerNow_9 (fun H locs hP hS => ?_)
  rw [← em15] at hP
  refine lv_aload_n hx hb dX4_offerNow_12 rfl (lv_at hl 1 rfl) ?_
  refine lv_dup hx hb dX4_offerNow_13 rfl ?_
  refine w_get (C := RX2) (T := TX2) (N := 11) (ci := 2) (v := .int (m15 b1 7)) hx hb hts hinX2 hown hK hP hb1.1 hb1.2 rfl 7 (by decide) (hts (.fieldLink RX4 142 "AdmissionControl$Request" "offers" "I") (List.mem_of_getElem? (i := 3) rfl)) (fun _ h9 => h9) rfl dX4_offerNow_14 ?_
  refine lv_iconst (v := 1) hx hb dX4_offerNow_17 (by decide) ?_
  obtain ⟨v16, ev16, hf⟩ := bd_e hf
  refine lv_iadd hx hb dX4_offerNow_18 ?_
  refine w_top ev16 ?_
  obtain ⟨m17, em17, hf⟩ := bd_e hf
  refine w_put (C := RX2) (T := TX2) (N := 11) (ci := 2) (x := v16) hx hb hts hinX2 tyX2 tyX2_ok nmX2 hown hi hA hK hP hS hb1.1 hb1.2 rfl 7 (by decide) (hts (.fieldLink RX4 142 "AdmissionControl$Request" "offers" "I") (List.mem_of_getElem? (i := 3) rfl)) (fun _ h9 => h9) rfl rfl rfl (Nat.le_of_ble_eq_true rfl) rfl dX4_offerNow_19 (fun H locs hP hS => ?_)
  rw [← em17] at hP
  refine lv_aload_n hx hb dX4_offerNow_22 rfl (lv_at hl 0 rfl) ?_
  refine lv_aload_n hx hb dX4_offerNow_23 rfl (lv_at hl 0 rfl) ?_
  refine lv_aload_n hx hb dX4_offerNow_24 rfl (lv_at hl 1 rfl) ?_
  refine w_get (C := RX2) (T := TX2) (N := 11) (ci := 2) (v := .int (m17 b1 1)) hx hb hts hinX2 hown hK hP hb1.1 hb1.2 rfl 1 (by decide) (hts (.fieldLink RX4 145 "AdmissionControl$Request" "kind" "I") (List.mem_of_getElem? (i := 4) rfl)) (fun _ h9 => h9) rfl dX4_offerNow_25 ?_
  rcases oq_e hf with ⟨m19, hq, hf⟩ | ⟨o18, m19, hq, hf⟩
  · refine w_cqN (va_runV (As := [.int (m17 b1 1)]) (rest := [.ref (ad o)]) ⟨hx, hb, hml, hown, hts⟩ (c_X4_lane l D ad cI cR hi fu o (m17 b1 1) ho m17 none m19 hq) (cwV 1 hts gX4_offerNow_X4_lane rfl rfl rfl (by decide +kernel) ⟨Nat.le_of_ble_eq_true rfl, Nat.le_of_ble_eq_true rfl⟩) (w_preV (ci := 4) hK hP hN ho.1 ho.2.1 rfl) rfl rfl hl.1 rfl (lv_room (Nat.le_of_ble_eq_true rfl)) dX4_offerNow_28 ⟨Nat.zero_le _, Nat.zero_le _⟩) hA hS (fun H locs hP hS => ?_)
    refine lv_aload_n hx hb dX4_offerNow_31 rfl (lv_at hl 1 rfl) ?_
    refine w_get (C := RX2) (T := TX2) (N := 11) (ci := 2) (v := .int (m19 b1 5)) hx hb hts hinX2 hown hK hP hb1.1 hb1.2 rfl 5 (by decide) (hts (.fieldLink RX4 119 "AdmissionControl$Request" "price" "I") (List.mem_of_getElem? (i := 2) rfl)) (fun _ h9 => h9) rfl dX4_offerNow_32 ?_
    cases hf
  · have ho18 := (t_X4_lane ad cI cR fu o (m17 b1 1) ho m17 o18 m19 hq)
    refine w_cqS (va_runV (As := [.int (m17 b1 1)]) (rest := [.ref (ad o)]) ⟨hx, hb, hml, hown, hts⟩ (c_X4_lane l D ad cI cR hi fu o (m17 b1 1) ho m17 (some o18) m19 hq) (cwV 1 hts gX4_offerNow_X4_lane rfl rfl rfl (by decide +kernel) ⟨Nat.le_of_ble_eq_true rfl, Nat.le_of_ble_eq_true rfl⟩) (w_preV (ci := 4) hK hP hN ho.1 ho.2.1 rfl) rfl rfl hl.1 rfl (lv_room (Nat.le_of_ble_eq_true rfl)) dX4_offerNow_28 ⟨Nat.zero_le _, Nat.zero_le _⟩) hA hS (fun H locs hP hS => ?_)
    refine lv_aload_n hx hb dX4_offerNow_31 rfl (lv_at hl 1 rfl) ?_
    refine w_get (C := RX2) (T := TX2) (N := 11) (ci := 2) (v := .int (m19 b1 5)) hx hb hts hinX2 hown hK hP hb1.1 hb1.2 rfl 5 (by decide) (hts (.fieldLink RX4 119 "AdmissionControl$Request" "price" "I") (List.mem_of_getElem? (i := 2) rfl)) (fun _ h9 => h9) rfl dX4_offerNow_32 ?_
    obtain ⟨r20, m21, hq, hf⟩ := ob_e hf
    refine w_ci (va_runV (As := [.ref (ad o18), .int (m19 b1 5)]) (rest := []) ⟨hx, hb, hml, hown, hts⟩ (c_X4_firstRefusal l D ad cI cR hi fu o o18 (m19 b1 5) ho ho18 m19 r20 m21 hq) (cwV 2 hts gX4_offerNow_X4_firstRefusal rfl rfl rfl (by decide +kernel) ⟨Nat.le_of_ble_eq_true rfl, Nat.le_of_ble_eq_true rfl⟩) (w_preV (ci := 4) hK hP hN ho.1 ho.2.1 rfl) rfl rfl hl.1 rfl (lv_room (Nat.le_of_ble_eq_true rfl)) dX4_offerNow_35 ⟨Nat.zero_le _, Nat.zero_le _⟩) hA hS (fun H locs hP hS => ?_)
    refine lv_istore_n (lv' := [(2, .int r20), (0, .ref (ad o)), (1, .ref (ad b1))]) hx hb dX4_offerNow_38 rfl hl (by decide) rfl (fun ls hl => ?_)
    refine lv_iload_n hx hb dX4_offerNow_39 rfl (lv_at hl 0 rfl) ?_
    refine lv_if_ne (tgt := 51) hx hb dX4_offerNow_40 (by decide) (fun c22 => ?_) (fun c22 => ?_)
    · rw [if_neg c22] at hf
      refine lv_aload_n hx hb dX4_offerNow_51 rfl (lv_at hl 1 rfl) ?_
      refine lv_aload_n hx hb dX4_offerNow_52 rfl (lv_at hl 2 rfl) ?_
      refine lv_iload_n hx hb dX4_offerNow_53 rfl (lv_at hl 0 rfl) ?_
      obtain ⟨m23, hq, hf⟩ := ov_e hf
      refine w_cv (va_runV (As := [.ref (ad b1), .int r20]) (rest := []) ⟨hx, hb, hml, hown, hts⟩ (c_X4_refuse l D ad cI cR hi fu o b1 r20 ho hb1 m21 m23 hq) (cwV 2 hts gX4_offerNow_X4_refuse rfl rfl rfl (by decide +kernel) ⟨Nat.le_of_ble_eq_true rfl, Nat.le_of_ble_eq_true rfl⟩) (w_preV (ci := 4) hK hP hN ho.1 ho.2.1 rfl) rfl rfl hl.1 rfl (lv_room (Nat.le_of_ble_eq_true rfl)) dX4_offerNow_54 ⟨Nat.zero_le _, Nat.zero_le _⟩) hA hS (fun H locs hP hS => ?_)
      refine lv_iload_n hx hb dX4_offerNow_57 rfl (lv_at hl 0 rfl) ?_
      cases hf
      exact w_iret hx hb hr hlocks hP hS dX4_offerNow_58
    · rw [if_pos c22] at hf
      refine lv_aload_n hx hb dX4_offerNow_43 rfl (lv_at hl 1 rfl) ?_
      refine lv_aload_n hx hb dX4_offerNow_44 rfl (lv_at hl 2 rfl) ?_
      obtain ⟨m24, hq, hf⟩ := ov_e hf
      refine w_cv (va_runV (As := [.ref (ad b1)]) (rest := []) ⟨hx, hb, hml, hown, hts⟩ (c_X4_admit l D ad cI cR hi fu o b1 ho hb1 m21 m24 hq) (cwV 1 hts gX4_offerNow_X4_admit rfl rfl rfl (by decide +kernel) ⟨Nat.le_of_ble_eq_true rfl, Nat.le_of_ble_eq_true rfl⟩) (w_preV (ci := 4) hK hP hN ho.1 ho.2.1 rfl) rfl rfl hl.1 rfl (lv_room (Nat.le_of_ble_eq_true rfl)) dX4_offerNow_45 ⟨Nat.zero_le _, Nat.zero_le _⟩) hA hS (fun H locs hP hS => ?_)
      refine lv_goto (tgt := 57) hx hb dX4_offerNow_48 (by decide) ?_
      refine lv_iload_n hx hb dX4_offerNow_57 rfl (lv_at hl 0 rfl) ?_
      cases hf
      exact w_iret hx hb hr hlocks hP hS dX4_offerNow_58
def F_X4_offerNew_L32 (fu : Nat) (o : Nat) (a1 : Int32) (a2 : Int32) (a3 : Int32)  (z0 : Option Nat) (mm : Mem) : Option (Int32 × Mem) := cq z0 (some ((-100004), mm)) (fun uz0 => bd ((mm o 6) + 1) fun v17 => bd (mput mm o 6 v17) fun m18 => bd ((m18 o 7) + 1) fun v19 => bd (mput m18 o 7 v19) fun m20 => ov (F_X2_begin fu uz0 a1 a2 a3 m20) fun m21 => ob (F_X4_offerNow fu o uz0 m21) fun r22 m23 => some (r22, m23))
def F_X4_offerNew (fu : Nat) (o : Nat) (a1 : Int32) (a2 : Int32) (a3 : Int32) (mm : Mem) : Option (Int32 × Mem) := if (mm o 6) < 0 then (F_X4_offerNew_L32 fu o a1 a2 a3 none mm) else (if (nI 32) ≤ (mm o 6) then (F_X4_offerNew_L32 fu o a1 a2 a3 none mm) else (gd (inb (mm o 6) 32) (F_X4_offerNew_L32 fu o a1 a2 a3 (some ((o + 27) + (mm o 6).toNatClampNeg)) mm)))
set_option maxHeartbeats 4000000 in
set_option maxRecDepth 100000 in
theorem c_X4_offerNew (l : Launch) (D : va_G) (ad : Nat → Nat) (cI cR : ClassId) (hi : inj ad) (fu : Nat) (o : Nat) (a1 : Int32) (a2 : Int32) (a3 : Int32) (ho : sSrv ad cI cR o) (mm : Mem) (r0 : Int32) (m9 : Mem) (hf : F_X4_offerNew fu o a1 a2 a3 mm = some (r0, m9)) : MI l yX4_offerNew wsX4_offerNew { frames := 4, cells := 0, slots := 0, locals := 92 } D ad cI cR [.ref (ad o), .int a1, .int a2, .int a3] mm r0 m9 := by
  refine Met.ofW (cc := cX4_offerNew) (maxL := 5) (ret := (some .int)) (by decide) rfl ?_
  intro p e s m args below meth c s₁ B hml hv
  obtain ⟨rfl, hP, hK, hN⟩ := hv
  have hx := B.exec
  have hb := B.bytes
  have hr := B.returns
  have hts := atoms_spec (ws := wsX4_offerNew) B.pre
  have hown : s.vm.findClass RX4 = some m.cls := findClass_of_methodNamed B.named
  have hlocks := B.notSynchronized
  have hA : ∀ q, AA ad q → AA ad q := fun _ h => h
  have hS : va_S (AA ad) s.heap s.heap [] := va_S.rf
  have hinX4 : ∀ w ∈ wsX40, w ∈ wsX4_offerNew := (fun _ h => List.mem_cons_of_mem _ (List.mem_append_left _ (List.mem_append_left _ (List.mem_append_left _ (List.mem_append_right _ h)))))
  have hL32 : ∀ (z0 : Option Nat) (hz0 : ∀ c, z0 = some c → sReq ad cI cR c) (mm : Mem) (H : Heap) (locs : List Loc) (ls : Array Slot), F_X4_offerNew_L32 fu o a1 a2 a3  z0 mm = some (r0, m9) → va_P D vwCl (cw ad cI cR mm) H → va_S (AA ad) s.heap H locs → lv_has ls 5 [(0, .ref (ad o)), (1, .int a1), (2, .int a2), (3, .int a3)] → W p l e (headSpec wsX4_offerNew { frames := 4, cells := 0, slots := 0, locals := 92 }).room s m ([.ref (ad o), .int a1, .int a2, .int a3] : List Value).toArray below meth c H locs 0 0 (MQ below (va_Qi (fun (r' : Int32) (u : Mem) => r' = r0 ∧ u = m9) (KB D ad cI cR) (AA ad)) ([.ref (ad o), .int a1, .int a2, .int a3] : List Value).toArray s 0 0 (AA ad)) (F0 m 32 ls [va_rf (z0.map ad)]) := by
    intro z0 hz0 mm H locs ls hf hP hS hl
    unfold F_X4_offerNew_L32 at hf
    cases z0 with
    | none =>
      rw [cq_n] at hf
      refine lv_astoreN (lv' := [(4, .null), (0, .ref (ad o)), (1, .int a1), (2, .int a2), (3, .int a3)]) hx hb dX4_offerNew_32 hl (by decide) rfl (fun ls hl => ?_)
      refine lv_aloadN hx hb dX4_offerNew_34 (lv_at hl 0 rfl) ?_
      refine lv_ifnonnullN hx hb dX4_offerNew_36 ?_
      refine lv_ldc (v := (-100004)) hx hb hown (hts (.constant RX4 90 (-100004)) (List.mem_of_getElem? (i := 3) rfl)) dX4_offerNew_39 ?_
      cases hf
      exact w_iret hx hb hr hlocks hP hS dX4_offerNew_41
    | some uz0 =>
      rw [cq_s] at hf
      refine lv_astore (lv' := [(4, .ref (ad uz0)), (0, .ref (ad o)), (1, .int a1), (2, .int a2), (3, .int a3)]) hx hb dX4_offerNew_32 hl (by decide) rfl (fun ls hl => ?_)
      refine lv_aload hx hb dX4_offerNew_34 (lv_at hl 0 rfl) ?_
      refine lv_ifnonnull (tgt := 42) hx hb dX4_offerNew_36 (by decide) ?_
      refine lv_aload_n hx hb dX4_offerNew_42 rfl (lv_at hl 1 rfl) ?_
      refine lv_dup hx hb dX4_offerNew_43 rfl ?_
      refine w_get (C := RX4) (T := TX4) (N := 11) (ci := 4) (v := .int (mm o 6)) hx hb hts hinX4 hown hK hP ho.1 ho.2.1 rfl 6 (by decide) (hts (.fieldLink RX4 42 "AdmissionControl$Server" "count" "I") (List.mem_of_getElem? (i := 1) rfl)) (fun _ h9 => h9) rfl dX4_offerNew_44 ?_
      refine lv_iconst (v := 1) hx hb dX4_offerNew_47 (by decide) ?_
      obtain ⟨v17, ev17, hf⟩ := bd_e hf
      refine lv_iadd hx hb dX4_offerNew_48 ?_
      refine w_top ev17 ?_
      obtain ⟨m18, em18, hf⟩ := bd_e hf
      refine w_put (C := RX4) (T := TX4) (N := 11) (ci := 4) (x := v17) hx hb hts hinX4 tyX4 tyX4_ok nmX4 hown hi hA hK hP hS ho.1 ho.2.1 rfl 6 (by decide) (hts (.fieldLink RX4 42 "AdmissionControl$Server" "count" "I") (List.mem_of_getElem? (i := 1) rfl)) (fun _ h9 => h9) rfl rfl rfl (Nat.le_of_ble_eq_true rfl) rfl dX4_offerNew_49 (fun H locs hP hS => ?_)
      rw [← em18] at hP
      refine lv_aload_n hx hb dX4_offerNew_52 rfl (lv_at hl 1 rfl) ?_
      refine lv_dup hx hb dX4_offerNew_53 rfl ?_
      refine w_get (C := RX4) (T := TX4) (N := 11) (ci := 4) (v := .int (m18 o 7)) hx hb hts hinX4 hown hK hP ho.1 ho.2.1 rfl 7 (by decide) (hts (.fieldLink RX4 46 "AdmissionControl$Server" "open" "I") (List.mem_of_getElem? (i := 4) rfl)) (fun _ h9 => h9) rfl dX4_offerNew_54 ?_
      refine lv_iconst (v := 1) hx hb dX4_offerNew_57 (by decide) ?_
      obtain ⟨v19, ev19, hf⟩ := bd_e hf
      refine lv_iadd hx hb dX4_offerNew_58 ?_
      refine w_top ev19 ?_
      obtain ⟨m20, em20, hf⟩ := bd_e hf
      refine w_put (C := RX4) (T := TX4) (N := 11) (ci := 4) (x := v19) hx hb hts hinX4 tyX4 tyX4_ok nmX4 hown hi hA hK hP hS ho.1 ho.2.1 rfl 7 (by decide) (hts (.fieldLink RX4 46 "AdmissionControl$Server" "open" "I") (List.mem_of_getElem? (i := 4) rfl)) (fun _ h9 => h9) rfl rfl rfl (Nat.le_of_ble_eq_true rfl) rfl dX4_offerNew_59 (fun H locs hP hS => ?_)
      rw [← em20] at hP
      refine lv_aload hx hb dX4_offerNew_62 (lv_at hl 0 rfl) ?_
      refine lv_iload_n hx hb dX4_offerNew_64 rfl (lv_at hl 2 rfl) ?_
      refine lv_iload_n hx hb dX4_offerNew_65 rfl (lv_at hl 3 rfl) ?_
      refine lv_iload_n hx hb dX4_offerNew_66 rfl (lv_at hl 4 rfl) ?_
      obtain ⟨m21, hq, hf⟩ := ov_e hf
      refine w_cv (va_runV (As := [.int a1, .int a2, .int a3]) (rest := []) ⟨hx, hb, hml, hown, hts⟩ (c_X2_begin l D ad cI cR hi fu uz0 a1 a2 a3 (hz0 uz0 rfl) m20 m21 hq) (cwV 3 hts gX4_offerNew_X2_begin rfl rfl rfl (by decide +kernel) ⟨Nat.le_of_ble_eq_true rfl, Nat.le_of_ble_eq_true rfl⟩) (w_preV (ci := 2) hK hP hN (hz0 uz0 rfl).1 (hz0 uz0 rfl).2 rfl) rfl rfl hl.1 rfl (lv_room (Nat.le_of_ble_eq_true rfl)) dX4_offerNew_67 ⟨Nat.zero_le _, Nat.zero_le _⟩) hA hS (fun H locs hP hS => ?_)
      refine lv_aload_n hx hb dX4_offerNew_70 rfl (lv_at hl 1 rfl) ?_
      refine lv_aload hx hb dX4_offerNew_71 (lv_at hl 0 rfl) ?_
      obtain ⟨r22, m23, hq, hf⟩ := ob_e hf
      refine w_ci (va_runV (As := [.ref (ad uz0)]) (rest := []) ⟨hx, hb, hml, hown, hts⟩ (c_X4_offerNow l D ad cI cR hi fu o uz0 ho (hz0 uz0 rfl) m21 r22 m23 hq) (cwV 1 hts gX4_offerNew_X4_offerNow rfl rfl rfl (by decide +kernel) ⟨Nat.le_of_ble_eq_true rfl, Nat.le_of_ble_eq_true rfl⟩) (w_preV (ci := 4) hK hP hN ho.1 ho.2.1 rfl) rfl rfl hl.1 rfl (lv_room (Nat.le_of_ble_eq_true rfl)) dX4_offerNew_73 ⟨Nat.zero_le _, Nat.zero_le _⟩) hA hS (fun H locs hP hS => ?_)
      cases hf
      exact w_iret hx hb hr hlocks hP hS dX4_offerNew_76
  have hl := lv_entry ([.ref (ad o), .int a1, .int a2, .int a3]) (n := 5) (Nat.le_of_ble_eq_true rfl)
  rw [lg_entry_eq]
  generalize (lg_sl ([.ref (ad o), .int a1, .int a2, .int a3]) ++ List.replicate (5 - (lg_sl ([.ref (ad o), .int a1, .int a2, .int a3])).length) Slot.unset).toArray = ls at hl ⊢
  have hl : lv_has ls 5 [(0, .ref (ad o)), (1, .int a1), (2, .int a2), (3, .int a3)] := hl
  unfold F_X4_offerNew at hf
  refine lv_aload_n hx hb dX4_offerNew_0 rfl (lv_at hl 0 rfl) ?_
  refine w_get (C := RX4) (T := TX4) (N := 11) (ci := 4) (v := .int (mm o 6)) hx hb hts hinX4 hown hK hP ho.1 ho.2.1 rfl 6 (by decide) (hts (.fieldLink RX4 42 "AdmissionControl$Server" "count" "I") (List.mem_of_getElem? (i := 1) rfl)) (fun _ h9 => h9) rfl dX4_offerNew_1 ?_
  refine lv_if_lt (tgt := 31) hx hb dX4_offerNew_4 (by decide) (fun c24 => ?_) (fun c24 => ?_)
  · rw [if_pos c24] at hf
    refine lv_null hx hb dX4_offerNew_31 ?_
    exact hL32 none (fun c h => by cases h) mm _ _ _ hf hP hS (lv_sub hl [0, 1, 2, 3] rfl)
  · rw [if_neg c24] at hf
    refine lv_aload_n hx hb dX4_offerNew_7 rfl (lv_at hl 0 rfl) ?_
    refine w_get (C := RX4) (T := TX4) (N := 11) (ci := 4) (v := .int (mm o 6)) hx hb hts hinX4 hown hK hP ho.1 ho.2.1 rfl 6 (by decide) (hts (.fieldLink RX4 42 "AdmissionControl$Server" "count" "I") (List.mem_of_getElem? (i := 1) rfl)) (fun _ h9 => h9) rfl dX4_offerNew_8 ?_
    refine lv_aload_n hx hb dX4_offerNew_11 rfl (lv_at hl 0 rfl) ?_
    refine w_get (C := RX4) (T := TX4) (N := 11) (ci := 4) (v := .ref (ad (o + 26))) hx hb hts hinX4 hown hK hP ho.1 ho.2.1 rfl 5 (by decide) (hts (.fieldLink RX4 38 "AdmissionControl$Server" "slots" "[LAdmissionControl$Request;") (List.mem_of_getElem? (i := 2) rfl)) (fun _ h9 => h9) rfl dX4_offerNew_12 ?_
    refine w_lenS hx hb hK hP ho.2.2.2.2.2.2.2 dX4_offerNew_15 ?_
    refine lv_icmp_ge (tgt := 31) hx hb dX4_offerNew_16 (by decide) (fun c25 => ?_) (fun c25 => ?_)
    · rw [if_pos c25] at hf
      refine lv_null hx hb dX4_offerNew_31 ?_
      exact hL32 none (fun c h => by cases h) mm _ _ _ hf hP hS (lv_sub hl [0, 1, 2, 3] rfl)
    · rw [if_neg c25] at hf
      refine lv_aload_n hx hb dX4_offerNew_19 rfl (lv_at hl 0 rfl) ?_
      refine w_get (C := RX4) (T := TX4) (N := 11) (ci := 4) (v := .ref (ad (o + 26))) hx hb hts hinX4 hown hK hP ho.1 ho.2.1 rfl 5 (by decide) (hts (.fieldLink RX4 38 "AdmissionControl$Server" "slots" "[LAdmissionControl$Request;") (List.mem_of_getElem? (i := 2) rfl)) (fun _ h9 => h9) rfl dX4_offerNew_20 ?_
      refine lv_aload_n hx hb dX4_offerNew_23 rfl (lv_at hl 0 rfl) ?_
      refine w_get (C := RX4) (T := TX4) (N := 11) (ci := 4) (v := .int (mm o 6)) hx hb hts hinX4 hown hK hP ho.1 ho.2.1 rfl 6 (by decide) (hts (.fieldLink RX4 42 "AdmissionControl$Server" "count" "I") (List.mem_of_getElem? (i := 1) rfl)) (fun _ h9 => h9) rfl dX4_offerNew_24 ?_
      obtain ⟨hnb, hf⟩ := gd_e hf
      refine w_aldS hx hb hK hP ho.2.2.2.2.2.2.2 hnb dX4_offerNew_27 ?_
      refine lv_goto (tgt := 32) hx hb dX4_offerNew_28 (by decide) ?_
      exact hL32 (some ((o + 27) + (mm o 6).toNatClampNeg)) (fun c h => by cases h; exact (ho.2.2.2.2.2.2.2.2.2 _ (inb_lt hnb))) mm _ _ _ hf hP hS (lv_sub hl [0, 1, 2, 3] rfl)
def F_X4_hasWaitedTooLong (fu : Nat) (o : Nat) (b1 : Nat) (mm : Mem) : Option (Int32 × Mem) := if (mm b1 4) = 0 then (bd ((mm o 9) - (mm b1 9)) fun v7 => ob (F_X3_at fu (o + 1) 4 1 mm) fun r8 m9 => if v7 < r8 then (some (0, m9)) else (some (1, m9))) else (some (0, mm))
set_option maxHeartbeats 4000000 in
set_option maxRecDepth 100000 in
theorem c_X4_hasWaitedTooLong (l : Launch) (D : va_G) (ad : Nat → Nat) (cI cR : ClassId) (hi : inj ad) (fu : Nat) (o : Nat) (b1 : Nat) (ho : sSrv ad cI cR o) (hb1 : sReq ad cI cR b1) (mm : Mem) (r0 : Int32) (m9 : Mem) (hf : F_X4_hasWaitedTooLong fu o b1 mm = some (r0, m9)) : MI l yX4_hasWaitedTooLong wsX4_hasWaitedTooLong { frames := 1, cells := 0, slots := 0, locals := 21 } D ad cI cR [.ref (ad o), .ref (ad b1)] mm r0 m9 := by
  refine Met.ofW (cc := cX4_hasWaitedTooLong) (maxL := 2) (ret := (some .boolean)) (by decide) rfl ?_
  intro p e s m args below meth c s₁ B hml hv
  obtain ⟨rfl, hP, hK, hN⟩ := hv
  have hx := B.exec
  have hb := B.bytes
  have hr := B.returns
  have hts := atoms_spec (ws := wsX4_hasWaitedTooLong) B.pre
  have hown : s.vm.findClass RX4 = some m.cls := findClass_of_methodNamed B.named
  have hlocks := B.notSynchronized
  have hA : ∀ q, AA ad q → AA ad q := fun _ h => h
  have hS : va_S (AA ad) s.heap s.heap [] := va_S.rf
  have hinX2 : ∀ w ∈ wsX20, w ∈ wsX4_hasWaitedTooLong := (fun _ h => List.mem_cons_of_mem _ (List.mem_append_left _ (List.mem_append_left _ (List.mem_append_right _ h))))
  have hinX4 : ∀ w ∈ wsX40, w ∈ wsX4_hasWaitedTooLong := (fun _ h => List.mem_cons_of_mem _ (List.mem_append_left _ (List.mem_append_right _ h)))
  have hl := lv_entry ([.ref (ad o), .ref (ad b1)]) (n := 2) (Nat.le_of_ble_eq_true rfl)
  rw [lg_entry_eq]
  generalize (lg_sl ([.ref (ad o), .ref (ad b1)]) ++ List.replicate (2 - (lg_sl ([.ref (ad o), .ref (ad b1)])).length) Slot.unset).toArray = ls at hl ⊢
  have hl : lv_has ls 2 [(0, .ref (ad o)), (1, .ref (ad b1))] := hl
  unfold F_X4_hasWaitedTooLong at hf
  refine lv_aload_n hx hb dX4_hasWaitedTooLong_0 rfl (lv_at hl 1 rfl) ?_
  refine w_get (C := RX2) (T := TX2) (N := 11) (ci := 2) (v := .int (mm b1 4)) hx hb hts hinX2 hown hK hP hb1.1 hb1.2 rfl 4 (by decide) (hts (.fieldLink RX4 172 "AdmissionControl$Request" "state" "I") (List.mem_of_getElem? (i := 1) rfl)) (fun _ h9 => h9) rfl dX4_hasWaitedTooLong_1 ?_
  refine lv_if_ne (tgt := 31) hx hb dX4_hasWaitedTooLong_4 (by decide) (fun c6 => ?_) (fun c6 => ?_)
  · rw [if_neg c6] at hf
    refine lv_iconst (v := 0) hx hb dX4_hasWaitedTooLong_31 (by decide) ?_
    cases hf
    exact w_zret hx hb hr hlocks rfl hP hS dX4_hasWaitedTooLong_32
  · rw [if_pos c6] at hf
    refine lv_aload_n hx hb dX4_hasWaitedTooLong_7 rfl (lv_at hl 0 rfl) ?_
    refine w_get (C := RX4) (T := TX4) (N := 11) (ci := 4) (v := .int (mm o 9)) hx hb hts hinX4 hown hK hP ho.1 ho.2.1 rfl 9 (by decide) (hts (.fieldLink RX4 52 "AdmissionControl$Server" "clock" "I") (List.mem_of_getElem? (i := 2) rfl)) (fun _ h9 => h9) rfl dX4_hasWaitedTooLong_8 ?_
    refine lv_aload_n hx hb dX4_hasWaitedTooLong_11 rfl (lv_at hl 1 rfl) ?_
    refine w_get (C := RX2) (T := TX2) (N := 11) (ci := 2) (v := .int (mm b1 9)) hx hb hts hinX2 hown hK hP hb1.1 hb1.2 rfl 9 (by decide) (hts (.fieldLink RX4 175 "AdmissionControl$Request" "admitted" "I") (List.mem_of_getElem? (i := 3) rfl)) (fun _ h9 => h9) rfl dX4_hasWaitedTooLong_12 ?_
    obtain ⟨v7, ev7, hf⟩ := bd_e hf
    refine lv_isub hx hb dX4_hasWaitedTooLong_15 ?_
    refine w_top ev7 ?_
    refine lv_aload_n hx hb dX4_hasWaitedTooLong_16 rfl (lv_at hl 0 rfl) ?_
    refine w_get (C := RX4) (T := TX4) (N := 11) (ci := 4) (v := .ref (ad (o + 1))) hx hb hts hinX4 hown hK hP ho.1 ho.2.1 rfl 0 (by decide) (hts (.fieldLink RX4 14 "AdmissionControl$Server" "settings" "LAdmissionControl$Row;") (List.mem_of_getElem? (i := 4) rfl)) (fun _ h9 => h9) rfl dX4_hasWaitedTooLong_17 ?_
    refine lv_iconst (v := 1) hx hb dX4_hasWaitedTooLong_20 (by decide) ?_
    obtain ⟨r8, m9, hq, hf⟩ := ob_e hf
    refine w_ci (va_runV (As := [.int 1]) (rest := [.int v7]) ⟨hx, hb, hml, hown, hts⟩ (c_X3_at l D ad cI cR hi fu (o + 1) 4 1 ho.2.2.1 mm r8 m9 hq) (cwV 1 hts gX4_hasWaitedTooLong_X3_at rfl rfl rfl (by decide +kernel) ⟨Nat.le_of_ble_eq_true rfl, Nat.le_of_ble_eq_true rfl⟩) (w_preV (ci := 3) hK hP hN ho.2.2.1.1 ho.2.2.1.2.1 rfl) rfl rfl hl.1 rfl (lv_room (Nat.le_of_ble_eq_true rfl)) dX4_hasWaitedTooLong_21 ⟨Nat.zero_le _, Nat.zero_le _⟩) hA hS (fun H locs hP hS => ?_)
    refine lv_icmp_lt (tgt := 31) hx hb dX4_hasWaitedTooLong_24 (by decide) (fun c10 => ?_) (fun c10 => ?_)
    · rw [if_pos c10] at hf
      refine lv_iconst (v := 0) hx hb dX4_hasWaitedTooLong_31 (by decide) ?_
      cases hf
      exact w_zret hx hb hr hlocks rfl hP hS dX4_hasWaitedTooLong_32
    · rw [if_neg c10] at hf
      refine lv_iconst (v := 1) hx hb dX4_hasWaitedTooLong_27 (by decide) ?_
      refine lv_goto (tgt := 32) hx hb dX4_hasWaitedTooLong_28 (by decide) ?_
      cases hf
      exact w_zret hx hb hr hlocks rfl hP hS dX4_hasWaitedTooLong_32
def F_X4_refuseThoseWhoWaited_L7 (fu : Nat) (o : Nat) (b1 : Nat)  : Nat → Int32 → Int32 → Mem → Option (Mem)
  | 0, _, _, _ => none
  | n + 1, x2, x3, mm => if x3 ≤ 0 then (some mm) else (ob (F_X3_at fu (b1 + 5) 8 x2 mm) fun r34 m35 => oq (F_X4_find fu o r34 m35) (fun m37 => bd (x2 + 1) fun v38 => bd (x3 + (-1)) fun v39 => F_X4_refuseThoseWhoWaited_L7 fu o b1 n v38 v39 m37) (fun o36 m37 => ob (F_X4_hasWaitedTooLong fu o o36 m37) fun r40 m41 => if r40 = 0 then (bd (x2 + 1) fun v43 => bd (x3 + (-1)) fun v44 => F_X4_refuseThoseWhoWaited_L7 fu o b1 n v43 v44 m41) else (ov (F_X1_leave fu b1 x2 m41) fun m45 => ov (F_X4_refuse fu o o36 5 m45) fun m46 => ov (F_X1_gain fu b1 (m46 o36 5) m46) fun m47 => bd (x3 + (-1)) fun v48 => F_X4_refuseThoseWhoWaited_L7 fu o b1 n x2 v48 m47)))
def F_X4_refuseThoseWhoWaited (fu : Nat) (o : Nat) (b1 : Nat) (mm : Mem) : Option (Mem) := F_X4_refuseThoseWhoWaited_L7 fu o b1 fu 0 (mm b1 3) mm
set_option maxHeartbeats 4000000 in
set_option maxRecDepth 100000 in
theorem c_X4_refuseThoseWhoWaited (l : Launch) (D : va_G) (ad : Nat → Nat) (cI cR : ClassId) (hi : inj ad) (fu : Nat) (o : Nat) (b1 : Nat) (ho : sSrv ad cI cR o) (hb1 : sLane ad cI cR b1) (mm : Mem) (m9 : Mem) (hf : F_X4_refuseThoseWhoWaited fu o b1 mm = some m9) : MV l yX4_refuseThoseWhoWaited wsX4_refuseThoseWhoWaited { frames := 2, cells := 0, slots := 0, locals := 45 } D ad cI cR [.ref (ad o), .ref (ad b1)] mm m9 := by
  refine Met.ofW (cc := cX4_refuseThoseWhoWaited) (maxL := 5) (ret := none) (by decide) rfl ?_
  intro p e s m args below meth c s₁ B hml hv
  obtain ⟨rfl, hP, hK, hN⟩ := hv
  have hx := B.exec
  have hb := B.bytes
  have hr := B.returns
  have hts := atoms_spec (ws := wsX4_refuseThoseWhoWaited) B.pre
  have hown : s.vm.findClass RX4 = some m.cls := findClass_of_methodNamed B.named
  have hlocks := B.notSynchronized
  have hA : ∀ q, AA ad q → AA ad q := fun _ h => h
  have hS : va_S (AA ad) s.heap s.heap [] := va_S.rf
  have hinX1 : ∀ w ∈ wsX10, w ∈ wsX4_refuseThoseWhoWaited := (fun _ h => List.mem_cons_of_mem _ (List.mem_append_left _ (List.mem_append_left _ (List.mem_append_left _ (List.mem_append_right _ h)))))
  have hinX2 : ∀ w ∈ wsX20, w ∈ wsX4_refuseThoseWhoWaited := (fun _ h => List.mem_cons_of_mem _ (List.mem_append_left _ (List.mem_append_left _ (List.mem_append_right _ h))))
  have hL7 : ∀ (n : Nat) (x2 : Int32) (x3 : Int32)  (mm : Mem) (H : Heap) (locs : List Loc) (ls : Array Slot), F_X4_refuseThoseWhoWaited_L7 fu o b1  n x2 x3 mm = some m9 → va_P D vwCl (cw ad cI cR mm) H → va_S (AA ad) s.heap H locs → lv_has ls 5 [(0, .ref (ad o)), (1, .ref (ad b1)), (2, .int x2), (3, .int x3)] → W p l e (headSpec wsX4_refuseThoseWhoWaited { frames := 2, cells := 0, slots := 0, locals := 45 }).room s m ([.ref (ad o), .ref (ad b1)] : List Value).toArray below meth c H locs 0 0 (MQ below (va_Qv (fun (u : Mem) => u = m9) (KB D ad cI cR) (AA ad)) ([.ref (ad o), .ref (ad b1)] : List Value).toArray s 0 0 (AA ad)) (F0 m 7 ls []) := by
    intro n
    induction n with
    | zero =>
      intro x2 x3 mm H locs ls hf hP hS hl
      rw [F_X4_refuseThoseWhoWaited_L7] at hf
      cases hf
    | succ n7 ih7 =>
      intro x2 x3 mm H locs ls hf hP hS hl
      rw [F_X4_refuseThoseWhoWaited_L7] at hf
      refine lv_iload_n hx hb dX4_refuseThoseWhoWaited_7 rfl (lv_at hl 3 rfl) ?_
      refine lv_if_le (tgt := 72) hx hb dX4_refuseThoseWhoWaited_8 (by decide) (fun c33 => ?_) (fun c33 => ?_)
      · rw [if_pos c33] at hf
        cases hf
        exact w_vret hx hb hr hlocks hP hS dX4_refuseThoseWhoWaited_72
      · rw [if_neg c33] at hf
        refine lv_aload_n hx hb dX4_refuseThoseWhoWaited_11 rfl (lv_at hl 0 rfl) ?_
        refine lv_aload_n hx hb dX4_refuseThoseWhoWaited_12 rfl (lv_at hl 1 rfl) ?_
        refine w_get (C := RX1) (T := TX1) (N := 7) (ci := 1) (v := .ref (ad (b1 + 5))) hx hb hts hinX1 hown hK hP hb1.1 hb1.2.1 rfl 2 (by decide) (hts (.fieldLink RX4 116 "AdmissionControl$Lane" "queue" "LAdmissionControl$Row;") (List.mem_of_getElem? (i := 2) rfl)) (fun _ h9 => h9) rfl dX4_refuseThoseWhoWaited_13 ?_
        refine lv_iload_n hx hb dX4_refuseThoseWhoWaited_16 rfl (lv_at hl 2 rfl) ?_
        obtain ⟨r34, m35, hq, hf⟩ := ob_e hf
        refine w_ci (va_runV (As := [.int x2]) (rest := [.ref (ad o)]) ⟨hx, hb, hml, hown, hts⟩ (c_X3_at l D ad cI cR hi fu (b1 + 5) 8 x2 hb1.2.2.2.2 mm r34 m35 hq) (cwV 1 hts gX4_refuseThoseWhoWaited_X3_at rfl rfl rfl (by decide +kernel) ⟨Nat.le_of_ble_eq_true rfl, Nat.le_of_ble_eq_true rfl⟩) (w_preV (ci := 3) hK hP hN hb1.2.2.2.2.1 hb1.2.2.2.2.2.1 rfl) rfl rfl hl.1 rfl (lv_room (Nat.le_of_ble_eq_true rfl)) dX4_refuseThoseWhoWaited_17 ⟨Nat.zero_le _, Nat.zero_le _⟩) hA hS (fun H locs hP hS => ?_)
        rcases oq_e hf with ⟨m37, hq, hf⟩ | ⟨o36, m37, hq, hf⟩
        · refine w_cqN (va_runV (As := [.int r34]) (rest := []) ⟨hx, hb, hml, hown, hts⟩ (c_X4_find l D ad cI cR hi fu o r34 ho m35 none m37 hq) (cwV 1 hts gX4_refuseThoseWhoWaited_X4_find rfl rfl rfl (by decide +kernel) ⟨Nat.le_of_ble_eq_true rfl, Nat.le_of_ble_eq_true rfl⟩) (w_preV (ci := 4) hK hP hN ho.1 ho.2.1 rfl) rfl rfl hl.1 rfl (lv_room (Nat.le_of_ble_eq_true rfl)) dX4_refuseThoseWhoWaited_20 ⟨Nat.zero_le _, Nat.zero_le _⟩) hA hS (fun H locs hP hS => ?_)
          refine lv_astoreN (lv' := [(4, .null), (0, .ref (ad o)), (1, .ref (ad b1)), (2, .int x2), (3, .int x3)]) hx hb dX4_refuseThoseWhoWaited_23 hl (by decide) rfl (fun ls hl => ?_)
          refine lv_aloadN hx hb dX4_refuseThoseWhoWaited_25 (lv_at hl 0 rfl) ?_
          refine lv_ifnullN (tgt := 63) hx hb dX4_refuseThoseWhoWaited_27 (by decide) ?_
          obtain ⟨v38, ev38, hf⟩ := bd_e hf
          refine lv_iinc (v := v38) (lv' := [(2, .int v38), (4, .null), (0, .ref (ad o)), (1, .ref (ad b1)), (3, .int x3)]) hx hb dX4_refuseThoseWhoWaited_63 hl (k := 3) rfl (by rw [ev38]; rfl) (by decide) rfl (fun ls hl => ?_)
          obtain ⟨v39, ev39, hf⟩ := bd_e hf
          refine lv_iinc (v := v39) (lv' := [(3, .int v39), (2, .int v38), (4, .null), (0, .ref (ad o)), (1, .ref (ad b1))]) hx hb dX4_refuseThoseWhoWaited_66 hl (k := 4) rfl (by rw [ev39]; rfl) (by decide) rfl (fun ls hl => ?_)
          refine lv_goto (tgt := 7) hx hb dX4_refuseThoseWhoWaited_69 (by decide) ?_
          exact ih7 v38 v39 m37 _ _ _ hf hP hS (lv_sub hl [3, 4, 1, 0] rfl)
        · have ho36 := (t_X4_find ad cI cR fu o r34 ho m35 o36 m37 hq)
          refine w_cqS (va_runV (As := [.int r34]) (rest := []) ⟨hx, hb, hml, hown, hts⟩ (c_X4_find l D ad cI cR hi fu o r34 ho m35 (some o36) m37 hq) (cwV 1 hts gX4_refuseThoseWhoWaited_X4_find rfl rfl rfl (by decide +kernel) ⟨Nat.le_of_ble_eq_true rfl, Nat.le_of_ble_eq_true rfl⟩) (w_preV (ci := 4) hK hP hN ho.1 ho.2.1 rfl) rfl rfl hl.1 rfl (lv_room (Nat.le_of_ble_eq_true rfl)) dX4_refuseThoseWhoWaited_20 ⟨Nat.zero_le _, Nat.zero_le _⟩) hA hS (fun H locs hP hS => ?_)
          refine lv_astore (lv' := [(4, .ref (ad o36)), (0, .ref (ad o)), (1, .ref (ad b1)), (2, .int x2), (3, .int x3)]) hx hb dX4_refuseThoseWhoWaited_23 hl (by decide) rfl (fun ls hl => ?_)
          refine lv_aload hx hb dX4_refuseThoseWhoWaited_25 (lv_at hl 0 rfl) ?_
          refine lv_ifnull hx hb dX4_refuseThoseWhoWaited_27 ?_
          refine lv_aload_n hx hb dX4_refuseThoseWhoWaited_30 rfl (lv_at hl 1 rfl) ?_
          refine lv_aload hx hb dX4_refuseThoseWhoWaited_31 (lv_at hl 0 rfl) ?_
          obtain ⟨r40, m41, hq, hf⟩ := ob_e hf
          refine w_ci (va_runV (As := [.ref (ad o36)]) (rest := []) ⟨hx, hb, hml, hown, hts⟩ (c_X4_hasWaitedTooLong l D ad cI cR hi fu o o36 ho ho36 m37 r40 m41 hq) (cwV 1 hts gX4_refuseThoseWhoWaited_X4_hasWaitedTooLong rfl rfl rfl (by decide +kernel) ⟨Nat.le_of_ble_eq_true rfl, Nat.le_of_ble_eq_true rfl⟩) (w_preV (ci := 4) hK hP hN ho.1 ho.2.1 rfl) rfl rfl hl.1 rfl (lv_room (Nat.le_of_ble_eq_true rfl)) dX4_refuseThoseWhoWaited_33 ⟨Nat.zero_le _, Nat.zero_le _⟩) hA hS (fun H locs hP hS => ?_)
          refine lv_if_eq (tgt := 63) hx hb dX4_refuseThoseWhoWaited_36 (by decide) (fun c42 => ?_) (fun c42 => ?_)
          · rw [if_pos c42] at hf
            obtain ⟨v43, ev43, hf⟩ := bd_e hf
            refine lv_iinc (v := v43) (lv' := [(2, .int v43), (4, .ref (ad o36)), (0, .ref (ad o)), (1, .ref (ad b1)), (3, .int x3)]) hx hb dX4_refuseThoseWhoWaited_63 hl (k := 3) rfl (by rw [ev43]; rfl) (by decide) rfl (fun ls hl => ?_)
            obtain ⟨v44, ev44, hf⟩ := bd_e hf
            refine lv_iinc (v := v44) (lv' := [(3, .int v44), (2, .int v43), (4, .ref (ad o36)), (0, .ref (ad o)), (1, .ref (ad b1))]) hx hb dX4_refuseThoseWhoWaited_66 hl (k := 4) rfl (by rw [ev44]; rfl) (by decide) rfl (fun ls hl => ?_)
            refine lv_goto (tgt := 7) hx hb dX4_refuseThoseWhoWaited_69 (by decide) ?_
            exact ih7 v43 v44 m41 _ _ _ hf hP hS (lv_sub hl [3, 4, 1, 0] rfl)
          · rw [if_neg c42] at hf
            refine lv_aload_n hx hb dX4_refuseThoseWhoWaited_39 rfl (lv_at hl 2 rfl) ?_
            refine lv_iload_n hx hb dX4_refuseThoseWhoWaited_40 rfl (lv_at hl 3 rfl) ?_
            obtain ⟨m45, hq, hf⟩ := ov_e hf
            refine w_cv (va_runV (As := [.int x2]) (rest := []) ⟨hx, hb, hml, hown, hts⟩ (c_X1_leave l D ad cI cR hi fu b1 x2 hb1 m41 m45 hq) (cwV 1 hts gX4_refuseThoseWhoWaited_X1_leave rfl rfl rfl (by decide +kernel) ⟨Nat.le_of_ble_eq_true rfl, Nat.le_of_ble_eq_true rfl⟩) (w_preV (ci := 1) hK hP hN hb1.1 hb1.2.1 rfl) rfl rfl hl.1 rfl (lv_room (Nat.le_of_ble_eq_true rfl)) dX4_refuseThoseWhoWaited_41 ⟨Nat.zero_le _, Nat.zero_le _⟩) hA hS (fun H locs hP hS => ?_)
            refine lv_aload_n hx hb dX4_refuseThoseWhoWaited_44 rfl (lv_at hl 1 rfl) ?_
            refine lv_aload hx hb dX4_refuseThoseWhoWaited_45 (lv_at hl 0 rfl) ?_
            refine lv_iconst (v := 5) hx hb dX4_refuseThoseWhoWaited_47 (by decide) ?_
            obtain ⟨m46, hq, hf⟩ := ov_e hf
            refine w_cv (va_runV (As := [.ref (ad o36), .int 5]) (rest := []) ⟨hx, hb, hml, hown, hts⟩ (c_X4_refuse l D ad cI cR hi fu o o36 5 ho ho36 m45 m46 hq) (cwV 2 hts gX4_refuseThoseWhoWaited_X4_refuse rfl rfl rfl (by decide +kernel) ⟨Nat.le_of_ble_eq_true rfl, Nat.le_of_ble_eq_true rfl⟩) (w_preV (ci := 4) hK hP hN ho.1 ho.2.1 rfl) rfl rfl hl.1 rfl (lv_room (Nat.le_of_ble_eq_true rfl)) dX4_refuseThoseWhoWaited_48 ⟨Nat.zero_le _, Nat.zero_le _⟩) hA hS (fun H locs hP hS => ?_)
            refine lv_aload_n hx hb dX4_refuseThoseWhoWaited_51 rfl (lv_at hl 2 rfl) ?_
            refine lv_aload hx hb dX4_refuseThoseWhoWaited_52 (lv_at hl 0 rfl) ?_
            refine w_get (C := RX2) (T := TX2) (N := 11) (ci := 2) (v := .int (m46 o36 5)) hx hb hts hinX2 hown hK hP ho36.1 ho36.2 rfl 5 (by decide) (hts (.fieldLink RX4 119 "AdmissionControl$Request" "price" "I") (List.mem_of_getElem? (i := 3) rfl)) (fun _ h9 => h9) rfl dX4_refuseThoseWhoWaited_54 ?_
            obtain ⟨m47, hq, hf⟩ := ov_e hf
            refine w_cv (va_runV (As := [.int (m46 o36 5)]) (rest := []) ⟨hx, hb, hml, hown, hts⟩ (c_X1_gain l D ad cI cR hi fu b1 (m46 o36 5) hb1 m46 m47 hq) (cwV 1 hts gX4_refuseThoseWhoWaited_X1_gain rfl rfl rfl (by decide +kernel) ⟨Nat.le_of_ble_eq_true rfl, Nat.le_of_ble_eq_true rfl⟩) (w_preV (ci := 1) hK hP hN hb1.1 hb1.2.1 rfl) rfl rfl hl.1 rfl (lv_room (Nat.le_of_ble_eq_true rfl)) dX4_refuseThoseWhoWaited_57 ⟨Nat.zero_le _, Nat.zero_le _⟩) hA hS (fun H locs hP hS => ?_)
            refine lv_goto (tgt := 66) hx hb dX4_refuseThoseWhoWaited_60 (by decide) ?_
            obtain ⟨v48, ev48, hf⟩ := bd_e hf
            refine lv_iinc (v := v48) (lv' := [(3, .int v48), (4, .ref (ad o36)), (0, .ref (ad o)), (1, .ref (ad b1)), (2, .int x2)]) hx hb dX4_refuseThoseWhoWaited_66 hl (k := 4) rfl (by rw [ev48]; rfl) (by decide) rfl (fun ls hl => ?_)
            refine lv_goto (tgt := 7) hx hb dX4_refuseThoseWhoWaited_69 (by decide) ?_
            exact ih7 x2 v48 m47 _ _ _ hf hP hS (lv_sub hl [2, 3, 4, 0] rfl)
  have hl := lv_entry ([.ref (ad o), .ref (ad b1)]) (n := 5) (Nat.le_of_ble_eq_true rfl)
  rw [lg_entry_eq]
  generalize (lg_sl ([.ref (ad o), .ref (ad b1)]) ++ List.replicate (5 - (lg_sl ([.ref (ad o), .ref (ad b1)])).length) Slot.unset).toArray = ls at hl ⊢
  have hl : lv_has ls 5 [(0, .ref (ad o)), (1, .ref (ad b1))] := hl
  unfold F_X4_refuseThoseWhoWaited at hf
  refine lv_iconst (v := 0) hx hb dX4_refuseThoseWhoWaited_0 (by decide) ?_
  refine lv_istore_n (lv' := [(2, .int 0), (0, .ref (ad o)), (1, .ref (ad b1))]) hx hb dX4_refuseThoseWhoWaited_1 rfl hl (by decide) rfl (fun ls hl => ?_)
  refine lv_aload_n hx hb dX4_refuseThoseWhoWaited_2 rfl (lv_at hl 2 rfl) ?_
  refine w_get (C := RX1) (T := TX1) (N := 7) (ci := 1) (v := .int (mm b1 3)) hx hb hts hinX1 hown hK hP hb1.1 hb1.2.1 rfl 3 (by decide) (hts (.fieldLink RX4 113 "AdmissionControl$Lane" "length" "I") (List.mem_of_getElem? (i := 1) rfl)) (fun _ h9 => h9) rfl dX4_refuseThoseWhoWaited_3 ?_
  refine lv_istore_n (lv' := [(3, .int (mm b1 3)), (2, .int 0), (0, .ref (ad o)), (1, .ref (ad b1))]) hx hb dX4_refuseThoseWhoWaited_6 rfl hl (by decide) rfl (fun ls hl => ?_)
  exact hL7 fu 0 (mm b1 3) mm _ _ _ hf hP hS (lv_sub hl [2, 3, 1, 0] rfl)
