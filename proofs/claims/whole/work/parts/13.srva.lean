def F_X4_lane (fu : Nat) (o : Nat) (a1 : Int32) (mm : Mem) : Option (Option Nat × Mem) := if a1 = 0 then (some (some (o + 5), mm)) else (if a1 = 1 then (some (some (o + 12), mm)) else (some (some (o + 19), mm)))
set_option maxHeartbeats 4000000 in
set_option maxRecDepth 100000 in
theorem c_X4_lane (l : Launch) (D : va_G) (ad : Nat → Nat) (cI cR : ClassId) (hi : inj ad) (fu : Nat) (o : Nat) (a1 : Int32) (ho : sSrv ad cI cR o) (mm : Mem) (r0 : Option Nat) (m9 : Mem) (hf : F_X4_lane fu o a1 mm = some (r0, m9)) : MO l yX4_lane wsX4_lane { frames := 0, cells := 0, slots := 0, locals := 0 } D ad cI cR [.ref (ad o), .int a1] mm r0 m9 := by
  refine Met.ofW (cc := cX4_lane) (maxL := 2) (ret := (some (.object "AdmissionControl$Lane"))) (by decide) rfl ?_
  intro p e s m args below meth c s₁ B hml hv
  obtain ⟨rfl, hP, hK, hN⟩ := hv
  have hx := B.exec
  have hb := B.bytes
  have hr := B.returns
  have hts := atoms_spec (ws := wsX4_lane) B.pre
  have hown : s.vm.findClass RX4 = some m.cls := findClass_of_methodNamed B.named
  have hlocks := B.notSynchronized
  have hA : ∀ q, AA ad q → AA ad q := fun _ h => h
  have hS : va_S (AA ad) s.heap s.heap [] := va_S.rf
  have hinX4 : ∀ w ∈ wsX40, w ∈ wsX4_lane := (fun _ h => List.mem_cons_of_mem _ (List.mem_append_right _ h))
  have hl := lv_entry ([.ref (ad o), .int a1]) (n := 2) (Nat.le_of_ble_eq_true rfl)
  rw [lg_entry_eq]
  generalize (lg_sl ([.ref (ad o), .int a1]) ++ List.replicate (2 - (lg_sl ([.ref (ad o), .int a1])).length) Slot.unset).toArray = ls at hl ⊢
  have hl : lv_has ls 2 [(0, .ref (ad o)), (1, .int a1)] := hl
  unfold F_X4_lane at hf
  refine lv_iload_n hx hb dX4_lane_0 rfl (lv_at hl 1 rfl) ?_
  rcases Decidable.em (a1 = 0) with c3 | c3
  · rw [if_pos c3] at hf
    refine lv_lookup (tgt := 28) (off := 27) hx hb dX4_lane_1 (by decide) (by rw [c3]; rfl) (by decide) ?_
    refine lv_aload_n hx hb dX4_lane_28 rfl (lv_at hl 0 rfl) ?_
    refine w_get (C := RX4) (T := TX4) (N := 11) (ci := 4) (v := .ref (ad (o + 5))) hx hb hts hinX4 hown hK hP ho.1 ho.2.1 rfl 2 (by decide) (hts (.fieldLink RX4 26 "AdmissionControl$Server" "lane0" "LAdmissionControl$Lane;") (List.mem_of_getElem? (i := 1) rfl)) (fun _ h9 => h9) rfl dX4_lane_29 ?_
    cases hf
    exact w_aret (r := some (o + 5)) hx hb hr hlocks rfl hP hS dX4_lane_32
  · rw [if_neg c3] at hf
    rcases Decidable.em (a1 = 1) with c4 | c4
    · rw [if_pos c4] at hf
      refine lv_lookup (tgt := 33) (off := 32) hx hb dX4_lane_1 (by decide) (by rw [c4]; rfl) (by decide) ?_
      refine lv_aload_n hx hb dX4_lane_33 rfl (lv_at hl 0 rfl) ?_
      refine w_get (C := RX4) (T := TX4) (N := 11) (ci := 4) (v := .ref (ad (o + 12))) hx hb hts hinX4 hown hK hP ho.1 ho.2.1 rfl 3 (by decide) (hts (.fieldLink RX4 30 "AdmissionControl$Server" "lane1" "LAdmissionControl$Lane;") (List.mem_of_getElem? (i := 2) rfl)) (fun _ h9 => h9) rfl dX4_lane_34 ?_
      cases hf
      exact w_aret (r := some (o + 12)) hx hb hr hlocks rfl hP hS dX4_lane_37
    · rw [if_neg c4] at hf
      refine lv_lookup (tgt := 38) (off := 37) hx hb dX4_lane_1 (by decide) (lk_out2 c3 c4) (by decide) ?_
      refine lv_aload_n hx hb dX4_lane_38 rfl (lv_at hl 0 rfl) ?_
      refine w_get (C := RX4) (T := TX4) (N := 11) (ci := 4) (v := .ref (ad (o + 19))) hx hb hts hinX4 hown hK hP ho.1 ho.2.1 rfl 4 (by decide) (hts (.fieldLink RX4 33 "AdmissionControl$Server" "lane2" "LAdmissionControl$Lane;") (List.mem_of_getElem? (i := 3) rfl)) (fun _ h9 => h9) rfl dX4_lane_39 ?_
      cases hf
      exact w_aret (r := some (o + 19)) hx hb hr hlocks rfl hP hS dX4_lane_42
theorem t_X4_lane (ad : Nat → Nat) (cI cR : ClassId) (fu : Nat) (o : Nat) (a1 : Int32) (ho : sSrv ad cI cR o) (mm : Mem) (q : Nat) (m1 : Mem) (hq : F_X4_lane fu o a1 mm = some (some q, m1)) : sLane ad cI cR q := by
  unfold F_X4_lane at hq
  split at hq
  · cases hq; exact ho.2.2.2.2.1
  · split at hq
    · cases hq; exact ho.2.2.2.2.2.1
    · cases hq; exact ho.2.2.2.2.2.2.1
def F_X4_find (fu : Nat) (o : Nat) (a1 : Int32) (mm : Mem) : Option (Option Nat × Mem) := if a1 < 0 then (some (none, mm)) else (if (mm o 6) ≤ a1 then (some (none, mm)) else (if (nI 32) ≤ a1 then (some (none, mm)) else (gd (inb a1 32) (some (some ((o + 27) + a1.toNatClampNeg), mm)))))
set_option maxHeartbeats 4000000 in
set_option maxRecDepth 100000 in
theorem c_X4_find (l : Launch) (D : va_G) (ad : Nat → Nat) (cI cR : ClassId) (hi : inj ad) (fu : Nat) (o : Nat) (a1 : Int32) (ho : sSrv ad cI cR o) (mm : Mem) (r0 : Option Nat) (m9 : Mem) (hf : F_X4_find fu o a1 mm = some (r0, m9)) : MO l yX4_find wsX4_find { frames := 0, cells := 0, slots := 0, locals := 0 } D ad cI cR [.ref (ad o), .int a1] mm r0 m9 := by
  refine Met.ofW (cc := cX4_find) (maxL := 2) (ret := (some (.object "AdmissionControl$Request"))) (by decide) rfl ?_
  intro p e s m args below meth c s₁ B hml hv
  obtain ⟨rfl, hP, hK, hN⟩ := hv
  have hx := B.exec
  have hb := B.bytes
  have hr := B.returns
  have hts := atoms_spec (ws := wsX4_find) B.pre
  have hown : s.vm.findClass RX4 = some m.cls := findClass_of_methodNamed B.named
  have hlocks := B.notSynchronized
  have hA : ∀ q, AA ad q → AA ad q := fun _ h => h
  have hS : va_S (AA ad) s.heap s.heap [] := va_S.rf
  have hinX4 : ∀ w ∈ wsX40, w ∈ wsX4_find := (fun _ h => List.mem_cons_of_mem _ (List.mem_append_right _ h))
  have hl := lv_entry ([.ref (ad o), .int a1]) (n := 2) (Nat.le_of_ble_eq_true rfl)
  rw [lg_entry_eq]
  generalize (lg_sl ([.ref (ad o), .int a1]) ++ List.replicate (2 - (lg_sl ([.ref (ad o), .int a1])).length) Slot.unset).toArray = ls at hl ⊢
  have hl : lv_has ls 2 [(0, .ref (ad o)), (1, .int a1)] := hl
  unfold F_X4_find at hf
  refine lv_iload_n hx hb dX4_find_0 rfl (lv_at hl 1 rfl) ?_
  refine lv_if_lt (tgt := 30) hx hb dX4_find_1 (by decide) (fun c4 => ?_) (fun c4 => ?_)
  · rw [if_pos c4] at hf
    refine lv_null hx hb dX4_find_30 ?_
    cases hf
    exact w_aret (r := none) hx hb hr hlocks rfl hP hS dX4_find_31
  · rw [if_neg c4] at hf
    refine lv_iload_n hx hb dX4_find_4 rfl (lv_at hl 1 rfl) ?_
    refine lv_aload_n hx hb dX4_find_5 rfl (lv_at hl 0 rfl) ?_
    refine w_get (C := RX4) (T := TX4) (N := 11) (ci := 4) (v := .int (mm o 6)) hx hb hts hinX4 hown hK hP ho.1 ho.2.1 rfl 6 (by decide) (hts (.fieldLink RX4 42 "AdmissionControl$Server" "count" "I") (List.mem_of_getElem? (i := 1) rfl)) (fun _ h9 => h9) rfl dX4_find_6 ?_
    refine lv_icmp_ge (tgt := 30) hx hb dX4_find_9 (by decide) (fun c5 => ?_) (fun c5 => ?_)
    · rw [if_pos c5] at hf
      refine lv_null hx hb dX4_find_30 ?_
      cases hf
      exact w_aret (r := none) hx hb hr hlocks rfl hP hS dX4_find_31
    · rw [if_neg c5] at hf
      refine lv_iload_n hx hb dX4_find_12 rfl (lv_at hl 1 rfl) ?_
      refine lv_aload_n hx hb dX4_find_13 rfl (lv_at hl 0 rfl) ?_
      refine w_get (C := RX4) (T := TX4) (N := 11) (ci := 4) (v := .ref (ad (o + 26))) hx hb hts hinX4 hown hK hP ho.1 ho.2.1 rfl 5 (by decide) (hts (.fieldLink RX4 38 "AdmissionControl$Server" "slots" "[LAdmissionControl$Request;") (List.mem_of_getElem? (i := 2) rfl)) (fun _ h9 => h9) rfl dX4_find_14 ?_
      refine w_lenS hx hb hK hP ho.2.2.2.2.2.2.2 dX4_find_17 ?_
      refine lv_icmp_ge (tgt := 30) hx hb dX4_find_18 (by decide) (fun c6 => ?_) (fun c6 => ?_)
      · rw [if_pos c6] at hf
        refine lv_null hx hb dX4_find_30 ?_
        cases hf
        exact w_aret (r := none) hx hb hr hlocks rfl hP hS dX4_find_31
      · rw [if_neg c6] at hf
        refine lv_aload_n hx hb dX4_find_21 rfl (lv_at hl 0 rfl) ?_
        refine w_get (C := RX4) (T := TX4) (N := 11) (ci := 4) (v := .ref (ad (o + 26))) hx hb hts hinX4 hown hK hP ho.1 ho.2.1 rfl 5 (by decide) (hts (.fieldLink RX4 38 "AdmissionControl$Server" "slots" "[LAdmissionControl$Request;") (List.mem_of_getElem? (i := 2) rfl)) (fun _ h9 => h9) rfl dX4_find_22 ?_
        refine lv_iload_n hx hb dX4_find_25 rfl (lv_at hl 1 rfl) ?_
        obtain ⟨hnb, hf⟩ := gd_e hf
        refine w_aldS hx hb hK hP ho.2.2.2.2.2.2.2 hnb dX4_find_26 ?_
        refine lv_goto (tgt := 31) hx hb dX4_find_27 (by decide) ?_
        cases hf
        exact w_aret (r := some ((o + 27) + a1.toNatClampNeg)) hx hb hr hlocks rfl hP hS dX4_find_31
theorem t_X4_find (ad : Nat → Nat) (cI cR : ClassId) (fu : Nat) (o : Nat) (a1 : Int32) (ho : sSrv ad cI cR o) (mm : Mem) (q : Nat) (m1 : Mem) (hq : F_X4_find fu o a1 mm = some (some q, m1)) : sReq ad cI cR q := by
  unfold F_X4_find at hq
  split at hq
  · cases hq
  · split at hq
    · cases hq
    · split at hq
      · cases hq
      · obtain ⟨hnb, hq⟩ := gd_e hq
        cases hq
        exact ho.2.2.2.2.2.2.2.2.2 _ (inb_lt hnb)
def F_X4_copyFrom_L97 (fu : Nat) (o : Nat) (b1 : Nat)  : Nat → Int32 → Mem → Option (Mem)
  | 0, _, _ => none
  | n + 1, x2, mm => if (mm o 6) ≤ x2 then (some mm) else (oq (F_X4_find fu o x2 mm) (fun m37 => oq (F_X4_find fu b1 x2 m37) (fun m39 => bd (x2 + 1) fun v40 => F_X4_copyFrom_L97 fu o b1 n v40 m39) (fun o38 m39 => bd (x2 + 1) fun v41 => F_X4_copyFrom_L97 fu o b1 n v41 m39)) (fun o36 m37 => oq (F_X4_find fu b1 x2 m37) (fun m43 => bd (x2 + 1) fun v44 => F_X4_copyFrom_L97 fu o b1 n v44 m43) (fun o42 m43 => ov (F_X2_copyFrom fu o36 o42 m43) fun m45 => bd (x2 + 1) fun v46 => F_X4_copyFrom_L97 fu o b1 n v46 m45)))
def F_X4_copyFrom (fu : Nat) (o : Nat) (b1 : Nat) (mm : Mem) : Option (Mem) := ov (F_X3_copyFrom fu (o + 1) 4 (b1 + 1) 4 mm) fun m47 => ov (F_X3_copyFrom fu (o + 3) 5 (b1 + 3) 5 m47) fun m48 => ov (F_X1_copyFrom fu (o + 5) (b1 + 5) m48) fun m49 => ov (F_X1_copyFrom fu (o + 12) (b1 + 12) m49) fun m50 => ov (F_X1_copyFrom fu (o + 19) (b1 + 19) m50) fun m51 => bd (mput m51 o 6 (m51 b1 6)) fun m52 => bd (mput m52 o 7 (m52 b1 7)) fun m53 => bd (mput m53 o 8 (m53 b1 8)) fun m54 => bd (mput m54 o 9 (m54 b1 9)) fun m55 => bd (mput m55 o 10 (m55 b1 10)) fun m56 => F_X4_copyFrom_L97 fu o b1 fu 0 m56
set_option maxHeartbeats 4000000 in
set_option maxRecDepth 100000 in
theorem c_X4_copyFrom (l : Launch) (D : va_G) (ad : Nat → Nat) (cI cR : ClassId) (hi : inj ad) (fu : Nat) (o : Nat) (b1 : Nat) (ho : sSrv ad cI cR o) (hb1 : sSrv ad cI cR b1) (mm : Mem) (m9 : Mem) (hf : F_X4_copyFrom fu o b1 mm = some m9) : MV l yX4_copyFrom wsX4_copyFrom { frames := 2, cells := 0, slots := 0, locals := 43 } D ad cI cR [.ref (ad o), .ref (ad b1)] mm m9 := by
  refine Met.ofW (cc := cX4_copyFrom) (maxL := 5) (ret := none) (by decide) rfl ?_
  intro p e s m args below meth c s₁ B hml hv
  obtain ⟨rfl, hP, hK, hN⟩ := hv
  have hx := B.exec
  have hb := B.bytes
  have hr := B.returns
  have hts := atoms_spec (ws := wsX4_copyFrom) B.pre
  have hown : s.vm.findClass RX4 = some m.cls := findClass_of_methodNamed B.named
  have hlocks := B.notSynchronized
  have hA : ∀ q, AA ad q → AA ad q := fun _ h => h
  have hS : va_S (AA ad) s.heap s.heap [] := va_S.rf
  have hinX4 : ∀ w ∈ wsX40, w ∈ wsX4_copyFrom := (fun _ h => List.mem_cons_of_mem _ (List.mem_append_left _ (List.mem_append_left _ (List.mem_append_left _ (List.mem_append_right _ h)))))
  have hL97 : ∀ (n : Nat) (x2 : Int32)  (mm : Mem) (H : Heap) (locs : List Loc) (ls : Array Slot), F_X4_copyFrom_L97 fu o b1  n x2 mm = some m9 → va_P D vwCl (cw ad cI cR mm) H → va_S (AA ad) s.heap H locs → lv_has ls 5 [(0, .ref (ad o)), (1, .ref (ad b1)), (2, .int x2)] → W p l e (headSpec wsX4_copyFrom { frames := 2, cells := 0, slots := 0, locals := 43 }).room s m ([.ref (ad o), .ref (ad b1)] : List Value).toArray below meth c H locs 0 0 (MQ below (va_Qv (fun (u : Mem) => u = m9) (KB D ad cI cR) (AA ad)) ([.ref (ad o), .ref (ad b1)] : List Value).toArray s 0 0 (AA ad)) (F0 m 97 ls []) := by
    intro n
    induction n with
    | zero =>
      intro x2 mm H locs ls hf hP hS hl
      rw [F_X4_copyFrom_L97] at hf
      cases hf
    | succ n97 ih97 =>
      intro x2 mm H locs ls hf hP hS hl
      rw [F_X4_copyFrom_L97] at hf
      refine lv_iload_n hx hb dX4_copyFrom_97 rfl (lv_at hl 2 rfl) ?_
      refine lv_aload_n hx hb dX4_copyFrom_98 rfl (lv_at hl 0 rfl) ?_
      refine w_get (C := RX4) (T := TX4) (N := 11) (ci := 4) (v := .int (mm o 6)) hx hb hts hinX4 hown hK hP ho.1 ho.2.1 rfl 6 (by decide) (hts (.fieldLink RX4 42 "AdmissionControl$Server" "count" "I") (List.mem_of_getElem? (i := 6) rfl)) (fun _ h9 => h9) rfl dX4_copyFrom_99 ?_
      refine lv_icmp_ge (tgt := 139) hx hb dX4_copyFrom_102 (by decide) (fun c35 => ?_) (fun c35 => ?_)
      · rw [if_pos c35] at hf
        cases hf
        exact w_vret hx hb hr hlocks hP hS dX4_copyFrom_139
      · rw [if_neg c35] at hf
        refine lv_aload_n hx hb dX4_copyFrom_105 rfl (lv_at hl 0 rfl) ?_
        refine lv_iload_n hx hb dX4_copyFrom_106 rfl (lv_at hl 2 rfl) ?_
        rcases oq_e hf with ⟨m37, hq, hf⟩ | ⟨o36, m37, hq, hf⟩
        · refine w_cqN (va_runV (As := [.int x2]) (rest := []) ⟨hx, hb, hml, hown, hts⟩ (c_X4_find l D ad cI cR hi fu o x2 ho mm none m37 hq) (cwV 1 hts gX4_copyFrom_X4_find rfl rfl rfl (by decide +kernel) ⟨Nat.le_of_ble_eq_true rfl, Nat.le_of_ble_eq_true rfl⟩) (w_preV (ci := 4) hK hP hN ho.1 ho.2.1 rfl) rfl rfl hl.1 rfl (lv_room (Nat.le_of_ble_eq_true rfl)) dX4_copyFrom_107 ⟨Nat.zero_le _, Nat.zero_le _⟩) hA hS (fun H locs hP hS => ?_)
          refine lv_astore_nN (lv' := [(3, .null), (0, .ref (ad o)), (1, .ref (ad b1)), (2, .int x2)]) hx hb dX4_copyFrom_110 rfl hl (by decide) rfl (fun ls hl => ?_)
          refine lv_aload_n hx hb dX4_copyFrom_111 rfl (lv_at hl 2 rfl) ?_
          refine lv_iload_n hx hb dX4_copyFrom_112 rfl (lv_at hl 3 rfl) ?_
          rcases oq_e hf with ⟨m39, hq, hf⟩ | ⟨o38, m39, hq, hf⟩
          · refine w_cqN (va_runV (As := [.int x2]) (rest := []) ⟨hx, hb, hml, hown, hts⟩ (c_X4_find l D ad cI cR hi fu b1 x2 hb1 m37 none m39 hq) (cwV 1 hts gX4_copyFrom_X4_find rfl rfl rfl (by decide +kernel) ⟨Nat.le_of_ble_eq_true rfl, Nat.le_of_ble_eq_true rfl⟩) (w_preV (ci := 4) hK hP hN hb1.1 hb1.2.1 rfl) rfl rfl hl.1 rfl (lv_room (Nat.le_of_ble_eq_true rfl)) dX4_copyFrom_113 ⟨Nat.zero_le _, Nat.zero_le _⟩) hA hS (fun H locs hP hS => ?_)
            refine lv_astoreN (lv' := [(4, .null), (3, .null), (0, .ref (ad o)), (1, .ref (ad b1)), (2, .int x2)]) hx hb dX4_copyFrom_116 hl (by decide) rfl (fun ls hl => ?_)
            refine lv_aload_nN hx hb dX4_copyFrom_118 rfl (lv_at hl 1 rfl) ?_
            refine lv_ifnullN (tgt := 133) hx hb dX4_copyFrom_119 (by decide) ?_
            obtain ⟨v40, ev40, hf⟩ := bd_e hf
            refine lv_iinc (v := v40) (lv' := [(2, .int v40), (4, .null), (3, .null), (0, .ref (ad o)), (1, .ref (ad b1))]) hx hb dX4_copyFrom_133 hl (k := 4) rfl (by rw [ev40]; rfl) (by decide) rfl (fun ls hl => ?_)
            refine lv_goto (tgt := 97) hx hb dX4_copyFrom_136 (by decide) ?_
            exact ih97 v40 m39 _ _ _ hf hP hS (lv_sub hl [3, 4, 0] rfl)
          · have ho38 := (t_X4_find ad cI cR fu b1 x2 hb1 m37 o38 m39 hq)
            refine w_cqS (va_runV (As := [.int x2]) (rest := []) ⟨hx, hb, hml, hown, hts⟩ (c_X4_find l D ad cI cR hi fu b1 x2 hb1 m37 (some o38) m39 hq) (cwV 1 hts gX4_copyFrom_X4_find rfl rfl rfl (by decide +kernel) ⟨Nat.le_of_ble_eq_true rfl, Nat.le_of_ble_eq_true rfl⟩) (w_preV (ci := 4) hK hP hN hb1.1 hb1.2.1 rfl) rfl rfl hl.1 rfl (lv_room (Nat.le_of_ble_eq_true rfl)) dX4_copyFrom_113 ⟨Nat.zero_le _, Nat.zero_le _⟩) hA hS (fun H locs hP hS => ?_)
            refine lv_astore (lv' := [(4, .ref (ad o38)), (3, .null), (0, .ref (ad o)), (1, .ref (ad b1)), (2, .int x2)]) hx hb dX4_copyFrom_116 hl (by decide) rfl (fun ls hl => ?_)
            refine lv_aload_nN hx hb dX4_copyFrom_118 rfl (lv_at hl 1 rfl) ?_
            refine lv_ifnullN (tgt := 133) hx hb dX4_copyFrom_119 (by decide) ?_
            obtain ⟨v41, ev41, hf⟩ := bd_e hf
            refine lv_iinc (v := v41) (lv' := [(2, .int v41), (4, .ref (ad o38)), (3, .null), (0, .ref (ad o)), (1, .ref (ad b1))]) hx hb dX4_copyFrom_133 hl (k := 4) rfl (by rw [ev41]; rfl) (by decide) rfl (fun ls hl => ?_)
            refine lv_goto (tgt := 97) hx hb dX4_copyFrom_136 (by decide) ?_
            exact ih97 v41 m39 _ _ _ hf hP hS (lv_sub hl [3, 4, 0] rfl)
        · have ho36 := (t_X4_find ad cI cR fu o x2 ho mm o36 m37 hq)
          refine w_cqS (va_runV (As := [.int x2]) (rest := []) ⟨hx, hb, hml, hown, hts⟩ (c_X4_find l D ad cI cR hi fu o x2 ho mm (some o36) m37 hq) (cwV 1 hts gX4_copyFrom_X4_find rfl rfl rfl (by decide +kernel) ⟨Nat.le_of_ble_eq_true rfl, Nat.le_of_ble_eq_true rfl⟩) (w_preV (ci := 4) hK hP hN ho.1 ho.2.1 rfl) rfl rfl hl.1 rfl (lv_room (Nat.le_of_ble_eq_true rfl)) dX4_copyFrom_107 ⟨Nat.zero_le _, Nat.zero_le _⟩) hA hS (fun H locs hP hS => ?_)
          refine lv_astore_n (lv' := [(3, .ref (ad o36)), (0, .ref (ad o)), (1, .ref (ad b1)), (2, .int x2)]) hx hb dX4_copyFrom_110 rfl hl (by decide) rfl (fun ls hl => ?_)
          refine lv_aload_n hx hb dX4_copyFrom_111 rfl (lv_at hl 2 rfl) ?_
          refine lv_iload_n hx hb dX4_copyFrom_112 rfl (lv_at hl 3 rfl) ?_
          rcases oq_e hf with ⟨m43, hq, hf⟩ | ⟨o42, m43, hq, hf⟩
          · refine w_cqN (va_runV (As := [.int x2]) (rest := []) ⟨hx, hb, hml, hown, hts⟩ (c_X4_find l D ad cI cR hi fu b1 x2 hb1 m37 none m43 hq) (cwV 1 hts gX4_copyFrom_X4_find rfl rfl rfl (by decide +kernel) ⟨Nat.le_of_ble_eq_true rfl, Nat.le_of_ble_eq_true rfl⟩) (w_preV (ci := 4) hK hP hN hb1.1 hb1.2.1 rfl) rfl rfl hl.1 rfl (lv_room (Nat.le_of_ble_eq_true rfl)) dX4_copyFrom_113 ⟨Nat.zero_le _, Nat.zero_le _⟩) hA hS (fun H locs hP hS => ?_)
            refine lv_astoreN (lv' := [(4, .null), (3, .ref (ad o36)), (0, .ref (ad o)), (1, .ref (ad b1)), (2, .int x2)]) hx hb dX4_copyFrom_116 hl (by decide) rfl (fun ls hl => ?_)
            refine lv_aload_n hx hb dX4_copyFrom_118 rfl (lv_at hl 1 rfl) ?_
            refine lv_ifnull hx hb dX4_copyFrom_119 ?_
            refine lv_aloadN hx hb dX4_copyFrom_122 (lv_at hl 0 rfl) ?_
            refine lv_ifnullN (tgt := 133) hx hb dX4_copyFrom_124 (by decide) ?_
            obtain ⟨v44, ev44, hf⟩ := bd_e hf
            refine lv_iinc (v := v44) (lv' := [(2, .int v44), (4, .null), (3, .ref (ad o36)), (0, .ref (ad o)), (1, .ref (ad b1))]) hx hb dX4_copyFrom_133 hl (k := 4) rfl (by rw [ev44]; rfl) (by decide) rfl (fun ls hl => ?_)
            refine lv_goto (tgt := 97) hx hb dX4_copyFrom_136 (by decide) ?_
            exact ih97 v44 m43 _ _ _ hf hP hS (lv_sub hl [3, 4, 0] rfl)
          · have ho42 := (t_X4_find ad cI cR fu b1 x2 hb1 m37 o42 m43 hq)
            refine w_cqS (va_runV (As := [.int x2]) (rest := []) ⟨hx, hb, hml, hown, hts⟩ (c_X4_find l D ad cI cR hi fu b1 x2 hb1 m37 (some o42) m43 hq) (cwV 1 hts gX4_copyFrom_X4_find rfl rfl rfl (by decide +kernel) ⟨Nat.le_of_ble_eq_true rfl, Nat.le_of_ble_eq_true rfl⟩) (w_preV (ci := 4) hK hP hN hb1.1 hb1.2.1 rfl) rfl rfl hl.1 rfl (lv_room (Nat.le_of_ble_eq_true rfl)) dX4_copyFrom_113 ⟨Nat.zero_le _, Nat.zero_le _⟩) hA hS (fun H locs hP hS => ?_)
            refine lv_astore (lv' := [(4, .ref (ad o42)), (3, .ref (ad o36)), (0, .ref (ad o)), (1, .ref (ad b1)), (2, .int x2)]) hx hb dX4_copyFrom_116 hl (by decide) rfl (fun ls hl => ?_)
            refine lv_aload_n hx hb dX4_copyFrom_118 rfl (lv_at hl 1 rfl) ?_
            refine lv_ifnull hx hb dX4_copyFrom_119 ?_
            refine lv_aload hx hb dX4_copyFrom_122 (lv_at hl 0 rfl) ?_
            refine lv_ifnull hx hb dX4_copyFrom_124 ?_
            refine lv_aload_n hx hb dX4_copyFrom_127 rfl (lv_at hl 1 rfl) ?_
            refine lv_aload hx hb dX4_copyFrom_128 (lv_at hl 0 rfl) ?_
            obtain ⟨m45, hq, hf⟩ := ov_e hf
            refine w_cv (va_runV (As := [.ref (ad o42)]) (rest := []) ⟨hx, hb, hml, hown, hts⟩ (c_X2_copyFrom l D ad cI cR hi fu o36 o42 ho36 ho42 m43 m45 hq) (cwV 1 hts gX4_copyFrom_X2_copyFrom rfl rfl rfl (by decide +kernel) ⟨Nat.le_of_ble_eq_true rfl, Nat.le_of_ble_eq_true rfl⟩) (w_preV (ci := 2) hK hP hN ho36.1 ho36.2 rfl) rfl rfl hl.1 rfl (lv_room (Nat.le_of_ble_eq_true rfl)) dX4_copyFrom_130 ⟨Nat.zero_le _, Nat.zero_le _⟩) hA hS (fun H locs hP hS => ?_)
            obtain ⟨v46, ev46, hf⟩ := bd_e hf
            refine lv_iinc (v := v46) (lv' := [(2, .int v46), (4, .ref (ad o42)), (3, .ref (ad o36)), (0, .ref (ad o)), (1, .ref (ad b1))]) hx hb dX4_copyFrom_133 hl (k := 4) rfl (by rw [ev46]; rfl) (by decide) rfl (fun ls hl => ?_)
            refine lv_goto (tgt := 97) hx hb dX4_copyFrom_136 (by decide) ?_
            exact ih97 v46 m45 _ _ _ hf hP hS (lv_sub hl [3, 4, 0] rfl)
  have hl := lv_entry ([.ref (ad o), .ref (ad b1)]) (n := 5) (Nat.le_of_ble_eq_true rfl)
  rw [lg_entry_eq]
  generalize (lg_sl ([.ref (ad o), .ref (ad b1)]) ++ List.replicate (5 - (lg_sl ([.ref (ad o), .ref (ad b1)])).length) Slot.unset).toArray = ls at hl ⊢
  have hl : lv_has ls 5 [(0, .ref (ad o)), (1, .ref (ad b1))] := hl
  unfold F_X4_copyFrom at hf
  refine lv_aload_n hx hb dX4_copyFrom_0 rfl (lv_at hl 0 rfl) ?_
  refine w_get (C := RX4) (T := TX4) (N := 11) (ci := 4) (v := .ref (ad (o + 1))) hx hb hts hinX4 hown hK hP ho.1 ho.2.1 rfl 0 (by decide) (hts (.fieldLink RX4 14 "AdmissionControl$Server" "settings" "LAdmissionControl$Row;") (List.mem_of_getElem? (i := 1) rfl)) (fun _ h9 => h9) rfl dX4_copyFrom_1 ?_
  refine lv_aload_n hx hb dX4_copyFrom_4 rfl (lv_at hl 1 rfl) ?_
  refine w_get (C := RX4) (T := TX4) (N := 11) (ci := 4) (v := .ref (ad (b1 + 1))) hx hb hts hinX4 hown hK hP hb1.1 hb1.2.1 rfl 0 (by decide) (hts (.fieldLink RX4 14 "AdmissionControl$Server" "settings" "LAdmissionControl$Row;") (List.mem_of_getElem? (i := 1) rfl)) (fun _ h9 => h9) rfl dX4_copyFrom_5 ?_
  obtain ⟨m47, hq, hf⟩ := ov_e hf
  refine w_cv (va_runV (As := [.ref (ad (b1 + 1))]) (rest := []) ⟨hx, hb, hml, hown, hts⟩ (c_X3_copyFrom l D ad cI cR hi fu (o + 1) 4 (b1 + 1) 4 ho.2.2.1 hb1.2.2.1 mm m47 hq) (cwV 1 hts gX4_copyFrom_X3_copyFrom rfl rfl rfl (by decide +kernel) ⟨Nat.le_of_ble_eq_true rfl, Nat.le_of_ble_eq_true rfl⟩) (w_preV (ci := 3) hK hP hN ho.2.2.1.1 ho.2.2.1.2.1 rfl) rfl rfl hl.1 rfl (lv_room (Nat.le_of_ble_eq_true rfl)) dX4_copyFrom_8 ⟨Nat.zero_le _, Nat.zero_le _⟩) hA hS (fun H locs hP hS => ?_)
  refine lv_aload_n hx hb dX4_copyFrom_11 rfl (lv_at hl 0 rfl) ?_
  refine w_get (C := RX4) (T := TX4) (N := 11) (ci := 4) (v := .ref (ad (o + 3))) hx hb hts hinX4 hown hK hP ho.1 ho.2.1 rfl 1 (by decide) (hts (.fieldLink RX4 20 "AdmissionControl$Server" "estimates" "LAdmissionControl$Row;") (List.mem_of_getElem? (i := 2) rfl)) (fun _ h9 => h9) rfl dX4_copyFrom_12 ?_
  refine lv_aload_n hx hb dX4_copyFrom_15 rfl (lv_at hl 1 rfl) ?_
  refine w_get (C := RX4) (T := TX4) (N := 11) (ci := 4) (v := .ref (ad (b1 + 3))) hx hb hts hinX4 hown hK hP hb1.1 hb1.2.1 rfl 1 (by decide) (hts (.fieldLink RX4 20 "AdmissionControl$Server" "estimates" "LAdmissionControl$Row;") (List.mem_of_getElem? (i := 2) rfl)) (fun _ h9 => h9) rfl dX4_copyFrom_16 ?_
  obtain ⟨m48, hq, hf⟩ := ov_e hf
  refine w_cv (va_runV (As := [.ref (ad (b1 + 3))]) (rest := []) ⟨hx, hb, hml, hown, hts⟩ (c_X3_copyFrom l D ad cI cR hi fu (o + 3) 5 (b1 + 3) 5 ho.2.2.2.1 hb1.2.2.2.1 m47 m48 hq) (cwV 1 hts gX4_copyFrom_X3_copyFrom rfl rfl rfl (by decide +kernel) ⟨Nat.le_of_ble_eq_true rfl, Nat.le_of_ble_eq_true rfl⟩) (w_preV (ci := 3) hK hP hN ho.2.2.2.1.1 ho.2.2.2.1.2.1 rfl) rfl rfl hl.1 rfl (lv_room (Nat.le_of_ble_eq_true rfl)) dX4_copyFrom_19 ⟨Nat.zero_le _, Nat.zero_le _⟩) hA hS (fun H locs hP hS => ?_)
  refine lv_aload_n hx hb dX4_copyFrom_22 rfl (lv_at hl 0 rfl) ?_
  refine w_get (C := RX4) (T := TX4) (N := 11) (ci := 4) (v := .ref (ad (o + 5))) hx hb hts hinX4 hown hK hP ho.1 ho.2.1 rfl 2 (by decide) (hts (.fieldLink RX4 26 "AdmissionControl$Server" "lane0" "LAdmissionControl$Lane;") (List.mem_of_getElem? (i := 3) rfl)) (fun _ h9 => h9) rfl dX4_copyFrom_23 ?_
  refine lv_aload_n hx hb dX4_copyFrom_26 rfl (lv_at hl 1 rfl) ?_
  refine w_get (C := RX4) (T := TX4) (N := 11) (ci := 4) (v := .ref (ad (b1 + 5))) hx hb hts hinX4 hown hK hP hb1.1 hb1.2.1 rfl 2 (by decide) (hts (.fieldLink RX4 26 "AdmissionControl$Server" "lane0" "LAdmissionControl$Lane;") (List.mem_of_getElem? (i := 3) rfl)) (fun _ h9 => h9) rfl dX4_copyFrom_27 ?_
  obtain ⟨m49, hq, hf⟩ := ov_e hf
  refine w_cv (va_runV (As := [.ref (ad (b1 + 5))]) (rest := []) ⟨hx, hb, hml, hown, hts⟩ (c_X1_copyFrom l D ad cI cR hi fu (o + 5) (b1 + 5) ho.2.2.2.2.1 hb1.2.2.2.2.1 m48 m49 hq) (cwV 1 hts gX4_copyFrom_X1_copyFrom rfl rfl rfl (by decide +kernel) ⟨Nat.le_of_ble_eq_true rfl, Nat.le_of_ble_eq_true rfl⟩) (w_preV (ci := 1) hK hP hN ho.2.2.2.2.1.1 ho.2.2.2.2.1.2.1 rfl) rfl rfl hl.1 rfl (lv_room (Nat.le_of_ble_eq_true rfl)) dX4_copyFrom_30 ⟨Nat.zero_le _, Nat.zero_le _⟩) hA hS (fun H locs hP hS => ?_)
  refine lv_aload_n hx hb dX4_copyFrom_33 rfl (lv_at hl 0 rfl) ?_
  refine w_get (C := RX4) (T := TX4) (N := 11) (ci := 4) (v := .ref (ad (o + 12))) hx hb hts hinX4 hown hK hP ho.1 ho.2.1 rfl 3 (by decide) (hts (.fieldLink RX4 30 "AdmissionControl$Server" "lane1" "LAdmissionControl$Lane;") (List.mem_of_getElem? (i := 4) rfl)) (fun _ h9 => h9) rfl dX4_copyFrom_34 ?_
  refine lv_aload_n hx hb dX4_copyFrom_37 rfl (lv_at hl 1 rfl) ?_
  refine w_get (C := RX4) (T := TX4) (N := 11) (ci := 4) (v := .ref (ad (b1 + 12))) hx hb hts hinX4 hown hK hP hb1.1 hb1.2.1 rfl 3 (by decide) (hts (.fieldLink RX4 30 "AdmissionControl$Server" "lane1" "LAdmissionControl$Lane;") (List.mem_of_getElem? (i := 4) rfl)) (fun _ h9 => h9) rfl dX4_copyFrom_38 ?_
  obtain ⟨m50, hq, hf⟩ := ov_e hf
  refine w_cv (va_runV (As := [.ref (ad (b1 + 12))]) (rest := []) ⟨hx, hb, hml, hown, hts⟩ (c_X1_copyFrom l D ad cI cR hi fu (o + 12) (b1 + 12) ho.2.2.2.2.2.1 hb1.2.2.2.2.2.1 m49 m50 hq) (cwV 1 hts gX4_copyFrom_X1_copyFrom rfl rfl rfl (by decide +kernel) ⟨Nat.le_of_ble_eq_true rfl, Nat.le_of_ble_eq_true rfl⟩) (w_preV (ci := 1) hK hP hN ho.2.2.2.2.2.1.1 ho.2.2.2.2.2.1.2.1 rfl) rfl rfl hl.1 rfl (lv_room (Nat.le_of_ble_eq_true rfl)) dX4_copyFrom_41 ⟨Nat.zero_le _, Nat.zero_le _⟩) hA hS (fun H locs hP hS => ?_)
  refine lv_aload_n hx hb dX4_copyFrom_44 rfl (lv_at hl 0 rfl) ?_
  refine w_get (C := RX4) (T := TX4) (N := 11) (ci := 4) (v := .ref (ad (o + 19))) hx hb hts hinX4 hown hK hP ho.1 ho.2.1 rfl 4 (by decide) (hts (.fieldLink RX4 33 "AdmissionControl$Server" "lane2" "LAdmissionControl$Lane;") (List.mem_of_getElem? (i := 5) rfl)) (fun _ h9 => h9) rfl dX4_copyFrom_45 ?_
  refine lv_aload_n hx hb dX4_copyFrom_48 rfl (lv_at hl 1 rfl) ?_
  refine w_get (C := RX4) (T := TX4) (N := 11) (ci := 4) (v := .ref (ad (b1 + 19))) hx hb hts hinX4 hown hK hP hb1.1 hb1.2.1 rfl 4 (by decide) (hts (.fieldLink RX4 33 "AdmissionControl$Server" "lane2" "LAdmissionControl$Lane;") (List.mem_of_getElem? (i := 5) rfl)) (fun _ h9 => h9) rfl dX4_copyFrom_49 ?_
  obtain ⟨m51, hq, hf⟩ := ov_e hf
  refine w_cv (va_runV (As := [.ref (ad (b1 + 19))]) (rest := []) ⟨hx, hb, hml, hown, hts⟩ (c_X1_copyFrom l D ad cI cR hi fu (o + 19) (b1 + 19) ho.2.2.2.2.2.2.1 hb1.2.2.2.2.2.2.1 m50 m51 hq) (cwV 1 hts gX4_copyFrom_X1_copyFrom rfl rfl rfl (by decide +kernel) ⟨Nat.le_of_ble_eq_true rfl, Nat.le_of_ble_eq_true rfl⟩) (w_preV (ci := 1) hK hP hN ho.2.2.2.2.2.2.1.1 ho.2.2.2.2.2.2.1.2.1 rfl) rfl rfl hl.1 rfl (lv_room (Nat.le_of_ble_eq_true rfl)) dX4_copyFrom_52 ⟨Nat.zero_le _, Nat.zero_le _⟩) hA hS (fun H locs hP hS => ?_)
  refine lv_aload_n hx hb dX4_copyFrom_55 rfl (lv_at hl 0 rfl) ?_
  refine lv_aload_n hx hb dX4_copyFrom_56 rfl (lv_at hl 1 rfl) ?_
  refine w_get (C := RX4) (T := TX4) (N := 11) (ci := 4) (v := .int (m51 b1 6)) hx hb hts hinX4 hown hK hP hb1.1 hb1.2.1 rfl 6 (by decide) (hts (.fieldLink RX4 42 "AdmissionControl$Server" "count" "I") (List.mem_of_getElem? (i := 6) rfl)) (fun _ h9 => h9) rfl dX4_copyFrom_57 ?_
  obtain ⟨m52, em52, hf⟩ := bd_e hf
  refine w_put (C := RX4) (T := TX4) (N := 11) (ci := 4) (x := (m51 b1 6)) hx hb hts hinX4 tyX4 tyX4_ok nmX4 hown hi hA hK hP hS ho.1 ho.2.1 rfl 6 (by decide) (hts (.fieldLink RX4 42 "AdmissionControl$Server" "count" "I") (List.mem_of_getElem? (i := 6) rfl)) (fun _ h9 => h9) rfl rfl rfl (Nat.le_of_ble_eq_true rfl) rfl dX4_copyFrom_60 (fun H locs hP hS => ?_)
  rw [← em52] at hP
  refine lv_aload_n hx hb dX4_copyFrom_63 rfl (lv_at hl 0 rfl) ?_
  refine lv_aload_n hx hb dX4_copyFrom_64 rfl (lv_at hl 1 rfl) ?_
  refine w_get (C := RX4) (T := TX4) (N := 11) (ci := 4) (v := .int (m52 b1 7)) hx hb hts hinX4 hown hK hP hb1.1 hb1.2.1 rfl 7 (by decide) (hts (.fieldLink RX4 46 "AdmissionControl$Server" "open" "I") (List.mem_of_getElem? (i := 7) rfl)) (fun _ h9 => h9) rfl dX4_copyFrom_65 ?_
  obtain ⟨m53, em53, hf⟩ := bd_e hf
  refine w_put (C := RX4) (T := TX4) (N := 11) (ci := 4) (x := (m52 b1 7)) hx hb hts hinX4 tyX4 tyX4_ok nmX4 hown hi hA hK hP hS ho.1 ho.2.1 rfl 7 (by decide) (hts (.fieldLink RX4 46 "AdmissionControl$Server" "open" "I") (List.mem_of_getElem? (i := 7) rfl)) (fun _ h9 => h9) rfl rfl rfl (Nat.le_of_ble_eq_true rfl) rfl dX4_copyFrom_68 (fun H locs hP hS => ?_)
  rw [← em53] at hP
  refine lv_aload_n hx hb dX4_copyFrom_71 rfl (lv_at hl 0 rfl) ?_
  refine lv_aload_n hx hb dX4_copyFrom_72 rfl (lv_at hl 1 rfl) ?_
  refine w_get (C := RX4) (T := TX4) (N := 11) (ci := 4) (v := .int (m53 b1 8)) hx hb hts hinX4 hown hK hP hb1.1 hb1.2.1 rfl 8 (by decide) (hts (.fieldLink RX4 49 "AdmissionControl$Server" "rejected" "I") (List.mem_of_getElem? (i := 8) rfl)) (fun _ h9 => h9) rfl dX4_copyFrom_73 ?_
  obtain ⟨m54, em54, hf⟩ := bd_e hf
  refine w_put (C := RX4) (T := TX4) (N := 11) (ci := 4) (x := (m53 b1 8)) hx hb hts hinX4 tyX4 tyX4_ok nmX4 hown hi hA hK hP hS ho.1 ho.2.1 rfl 8 (by decide) (hts (.fieldLink RX4 49 "AdmissionControl$Server" "rejected" "I") (List.mem_of_getElem? (i := 8) rfl)) (fun _ h9 => h9) rfl rfl rfl (Nat.le_of_ble_eq_true rfl) rfl dX4_copyFrom_76 (fun H locs hP hS => ?_)
  rw [← em54] at hP
  refine lv_aload_n hx hb dX4_copyFrom_79 rfl (lv_at hl 0 rfl) ?_
  refine lv_aload_n hx hb dX4_copyFrom_80 rfl (lv_at hl 1 rfl) ?_
  refine w_get (C := RX4) (T := TX4) (N := 11) (ci := 4) (v := .int (m54 b1 9)) hx hb hts hinX4 hown hK hP hb1.1 hb1.2.1 rfl 9 (by decide) (hts (.fieldLink RX4 52 "AdmissionControl$Server" "clock" "I") (List.mem_of_getElem? (i := 9) rfl)) (fun _ h9 => h9) rfl dX4_copyFrom_81 ?_
  obtain ⟨m55, em55, hf⟩ := bd_e hf
  refine w_put (C := RX4) (T := TX4) (N := 11) (ci := 4) (x := (m54 b1 9)) hx hb hts hinX4 tyX4 tyX4_ok nmX4 hown hi hA hK hP hS ho.1 ho.2.1 rfl 9 (by decide) (hts (.fieldLink RX4 52 "AdmissionControl$Server" "clock" "I") (List.mem_of_getElem? (i := 9) rfl)) (fun _ h9 => h9) rfl rfl rfl (Nat.le_of_ble_eq_true rfl) rfl dX4_copyFrom_84 (fun H locs hP hS => ?_)
  rw [← em55] at hP
  refine lv_aload_n hx hb dX4_copyFrom_87 rfl (lv_at hl 0 rfl) ?_
  refine lv_aload_n hx hb dX4_copyFrom_88 rfl (lv_at hl 1 rfl) ?_
  refine w_get (C := RX4) (T := TX4) (N := 11) (ci := 4) (v := .int (m55 b1 10)) hx hb hts hinX4 hown hK hP hb1.1 hb1.2.1 rfl 10 (by decide) (hts (.fieldLink RX4 55 "AdmissionControl$Server" "idle" "I") (List.mem_of_getElem? (i := 10) rfl)) (fun _ h9 => h9) rfl dX4_copyFrom_89 ?_
  obtain ⟨m56, em56, hf⟩ := bd_e hf
  refine w_put (C := RX4) (T := TX4) (N := 11) (ci := 4) (x := (m55 b1 10)) hx hb hts hinX4 tyX4 tyX4_ok nmX4 hown hi hA hK hP hS ho.1 ho.2.1 rfl 10 (by decide) (hts (.fieldLink RX4 55 "AdmissionControl$Server" "idle" "I") (List.mem_of_getElem? (i := 10) rfl)) (fun _ h9 => h9) rfl rfl rfl (Nat.le_of_ble_eq_true rfl) rfl dX4_copyFrom_92 (fun H locs hP hS => ?_)
  rw [← em56] at hP
  refine lv_iconst (v := 0) hx hb dX4_copyFrom_95 (by decide) ?_
  refine lv_istore_n (lv' := [(2, .int 0), (0, .ref (ad o)), (1, .ref (ad b1))]) hx hb dX4_copyFrom_96 rfl hl (by decide) rfl (fun ls hl => ?_)
  exact hL97 fu 0 m56 _ _ _ hf hP hS (lv_sub hl [1, 2, 0] rfl)
def F_X4_errorOfOffer (fu : Nat) (o : Nat) (a1 : Int32) (a2 : Int32) (a3 : Int32) (mm : Mem) : Option (Int32 × Mem) := ob (F_X6_isKind fu a1 mm) fun r11 m12 => if r11 = 0 then (some ((-100001), m12)) else (ob (F_X6_isShape fu a2 m12) fun r14 m15 => if r14 = 0 then (some ((-100001), m15)) else (ob (F_X6_isBetween fu 1 a3 60 m15) fun r17 m18 => if r17 = 0 then (some ((-100002), m18)) else (if (m18 o 6) < 32 then (some (0, m18)) else (some ((-100004), m18)))))
set_option maxHeartbeats 4000000 in
set_option maxRecDepth 100000 in
theorem c_X4_errorOfOffer (l : Launch) (D : va_G) (ad : Nat → Nat) (cI cR : ClassId) (hi : inj ad) (fu : Nat) (o : Nat) (a1 : Int32) (a2 : Int32) (a3 : Int32) (ho : sSrv ad cI cR o) (mm : Mem) (r0 : Int32) (m9 : Mem) (hf : F_X4_errorOfOffer fu o a1 a2 a3 mm = some (r0, m9)) : MI l yX4_errorOfOffer wsX4_errorOfOffer { frames := 1, cells := 0, slots := 0, locals := 22 } D ad cI cR [.ref (ad o), .int a1, .int a2, .int a3] mm r0 m9 := by
  refine Met.ofW (cc := cX4_errorOfOffer) (maxL := 4) (ret := (some .int)) (by decide) rfl ?_
  intro p e s m args below meth c s₁ B hml hv
  obtain ⟨rfl, hP, hK, hN⟩ := hv
  have hx := B.exec
  have hb := B.bytes
  have hr := B.returns
  have hts := atoms_spec (ws := wsX4_errorOfOffer) B.pre
  have hown : s.vm.findClass RX4 = some m.cls := findClass_of_methodNamed B.named
  have hlocks := B.notSynchronized
  have hA : ∀ q, AA ad q → AA ad q := fun _ h => h
  have hS : va_S (AA ad) s.heap s.heap [] := va_S.rf
  have hinX4 : ∀ w ∈ wsX40, w ∈ wsX4_errorOfOffer := (fun _ h => List.mem_cons_of_mem _ (List.mem_append_right _ h))
  have hl := lv_entry ([.ref (ad o), .int a1, .int a2, .int a3]) (n := 4) (Nat.le_of_ble_eq_true rfl)
  rw [lg_entry_eq]
  generalize (lg_sl ([.ref (ad o), .int a1, .int a2, .int a3]) ++ List.replicate (4 - (lg_sl ([.ref (ad o), .int a1, .int a2, .int a3])).length) Slot.unset).toArray = ls at hl ⊢
  have hl : lv_has ls 4 [(0, .ref (ad o)), (1, .int a1), (2, .int a2), (3, .int a3)] := hl
  unfold F_X4_errorOfOffer at hf
  refine lv_iload_n hx hb dX4_errorOfOffer_0 rfl (lv_at hl 1 rfl) ?_
  obtain ⟨r11, m12, hq, hf⟩ := ob_e hf
  refine w_ci (va_runSN (As := [.int a1]) (rest := []) ⟨hx, hb, hml, hown, hts⟩ (c_X6_isKind l D ad cI cR hi fu a1 mm r11 m12 hq) ⟨va_cnB 1 hts gX4_errorOfOffer_X6_isKind_n77 rfl rfl rfl hN.1 (hts (.initialized RX6) (List.mem_of_getElem? (i := 6) rfl)) (by decide +kernel) ⟨Nat.le_of_ble_eq_true rfl, Nat.le_of_ble_eq_true rfl⟩, (hts (.static yX6_isKind) (List.mem_of_getElem? (i := 5) rfl)), trivial⟩ (w_preS hK hP hN) rfl rfl hl.1 rfl (lv_room (Nat.le_of_ble_eq_true rfl)) dX4_errorOfOffer_1 ⟨Nat.zero_le _, Nat.zero_le _⟩) hA hS (fun H locs hP hS => ?_)
  refine lv_if_eq (tgt := 14) hx hb dX4_errorOfOffer_4 (by decide) (fun c13 => ?_) (fun c13 => ?_)
  · rw [if_pos c13] at hf
    refine lv_ldc (v := (-100001)) hx hb hown (hts (.constant RX4 84 (-100001)) (List.mem_of_getElem? (i := 1) rfl)) dX4_errorOfOffer_14 ?_
    cases hf
    exact w_iret hx hb hr hlocks hP hS dX4_errorOfOffer_16
  · rw [if_neg c13] at hf
    refine lv_iload_n hx hb dX4_errorOfOffer_7 rfl (lv_at hl 2 rfl) ?_
    obtain ⟨r14, m15, hq, hf⟩ := ob_e hf
    refine w_ci (va_runSN (As := [.int a2]) (rest := []) ⟨hx, hb, hml, hown, hts⟩ (c_X6_isShape l D ad cI cR hi fu a2 m12 r14 m15 hq) ⟨va_cnB 1 hts gX4_errorOfOffer_X6_isShape_n81 rfl rfl rfl hN.2.1 (hts (.initialized RX6) (List.mem_of_getElem? (i := 6) rfl)) (by decide +kernel) ⟨Nat.le_of_ble_eq_true rfl, Nat.le_of_ble_eq_true rfl⟩, (hts (.static yX6_isShape) (List.mem_of_getElem? (i := 8) rfl)), trivial⟩ (w_preS hK hP hN) rfl rfl hl.1 rfl (lv_room (Nat.le_of_ble_eq_true rfl)) dX4_errorOfOffer_8 ⟨Nat.zero_le _, Nat.zero_le _⟩) hA hS (fun H locs hP hS => ?_)
    refine lv_if_ne (tgt := 17) hx hb dX4_errorOfOffer_11 (by decide) (fun c16 => ?_) (fun c16 => ?_)
    · rw [if_neg c16] at hf
      refine lv_iconst (v := 1) hx hb dX4_errorOfOffer_17 (by decide) ?_
      refine lv_iload_n hx hb dX4_errorOfOffer_18 rfl (lv_at hl 3 rfl) ?_
      refine lv_bipush (v := 60) hx hb dX4_errorOfOffer_19 (by decide) ?_
      obtain ⟨r17, m18, hq, hf⟩ := ob_e hf
      refine w_ci (va_runSN (As := [.int 1, .int a3, .int 60]) (rest := []) ⟨hx, hb, hml, hown, hts⟩ (c_X6_isBetween l D ad cI cR hi fu 1 a3 60 m15 r17 m18 hq) ⟨va_cnB 3 hts gX4_errorOfOffer_X6_isBetween_n85 rfl rfl rfl hN.2.2.1 (hts (.initialized RX6) (List.mem_of_getElem? (i := 6) rfl)) (by decide +kernel) ⟨Nat.le_of_ble_eq_true rfl, Nat.le_of_ble_eq_true rfl⟩, (hts (.static yX6_isBetween) (List.mem_of_getElem? (i := 10) rfl)), trivial⟩ (w_preS hK hP hN) rfl rfl hl.1 rfl (lv_room (Nat.le_of_ble_eq_true rfl)) dX4_errorOfOffer_21 ⟨Nat.zero_le _, Nat.zero_le _⟩) hA hS (fun H locs hP hS => ?_)
      refine lv_if_ne (tgt := 30) hx hb dX4_errorOfOffer_24 (by decide) (fun c19 => ?_) (fun c19 => ?_)
      · rw [if_neg c19] at hf
        refine lv_aload_n hx hb dX4_errorOfOffer_30 rfl (lv_at hl 0 rfl) ?_
        refine w_get (C := RX4) (T := TX4) (N := 11) (ci := 4) (v := .int (m18 o 6)) hx hb hts hinX4 hown hK hP ho.1 ho.2.1 rfl 6 (by decide) (hts (.fieldLink RX4 42 "AdmissionControl$Server" "count" "I") (List.mem_of_getElem? (i := 3) rfl)) (fun _ h9 => h9) rfl dX4_errorOfOffer_31 ?_
        refine lv_bipush (v := 32) hx hb dX4_errorOfOffer_34 (by decide) ?_
        refine lv_icmp_lt (tgt := 44) hx hb dX4_errorOfOffer_36 (by decide) (fun c20 => ?_) (fun c20 => ?_)
        · rw [if_pos c20] at hf
          refine lv_iconst (v := 0) hx hb dX4_errorOfOffer_44 (by decide) ?_
          cases hf
          exact w_iret hx hb hr hlocks hP hS dX4_errorOfOffer_45
        · rw [if_neg c20] at hf
          refine lv_ldc (v := (-100004)) hx hb hown (hts (.constant RX4 90 (-100004)) (List.mem_of_getElem? (i := 4) rfl)) dX4_errorOfOffer_39 ?_
          refine lv_goto (tgt := 45) hx hb dX4_errorOfOffer_41 (by decide) ?_
          cases hf
          exact w_iret hx hb hr hlocks hP hS dX4_errorOfOffer_45
      · rw [if_pos c19] at hf
        refine lv_ldc (v := (-100002)) hx hb hown (hts (.constant RX4 89 (-100002)) (List.mem_of_getElem? (i := 2) rfl)) dX4_errorOfOffer_27 ?_
        cases hf
        exact w_iret hx hb hr hlocks hP hS dX4_errorOfOffer_29
    · rw [if_pos c16] at hf
      refine lv_ldc (v := (-100001)) hx hb hown (hts (.constant RX4 84 (-100001)) (List.mem_of_getElem? (i := 1) rfl)) dX4_errorOfOffer_14 ?_
      cases hf
      exact w_iret hx hb hr hlocks hP hS dX4_errorOfOffer_16
def F_X4_errorOfTicks (fu : Nat) (o : Nat) (a1 : Int32) (mm : Mem) : Option (Int32 × Mem) := ob (F_X6_isBetween fu 1 a1 99 mm) fun r6 m7 => if r6 = 0 then (some ((-100002), m7)) else (bd ((m7 o 9) + a1) fun v9 => if v9 ≤ 999 then (some (0, m7)) else (some ((-100004), m7)))
set_option maxHeartbeats 4000000 in
set_option maxRecDepth 100000 in
theorem c_X4_errorOfTicks (l : Launch) (D : va_G) (ad : Nat → Nat) (cI cR : ClassId) (hi : inj ad) (fu : Nat) (o : Nat) (a1 : Int32) (ho : sSrv ad cI cR o) (mm : Mem) (r0 : Int32) (m9 : Mem) (hf : F_X4_errorOfTicks fu o a1 mm = some (r0, m9)) : MI l yX4_errorOfTicks wsX4_errorOfTicks { frames := 1, cells := 0, slots := 0, locals := 22 } D ad cI cR [.ref (ad o), .int a1] mm r0 m9 := by
  refine Met.ofW (cc := cX4_errorOfTicks) (maxL := 2) (ret := (some .int)) (by decide) rfl ?_
  intro p e s m args below meth c s₁ B hml hv
  obtain ⟨rfl, hP, hK, hN⟩ := hv
  have hx := B.exec
  have hb := B.bytes
  have hr := B.returns
  have hts := atoms_spec (ws := wsX4_errorOfTicks) B.pre
  have hown : s.vm.findClass RX4 = some m.cls := findClass_of_methodNamed B.named
  have hlocks := B.notSynchronized
  have hA : ∀ q, AA ad q → AA ad q := fun _ h => h
  have hS : va_S (AA ad) s.heap s.heap [] := va_S.rf
  have hinX4 : ∀ w ∈ wsX40, w ∈ wsX4_errorOfTicks := (fun _ h => List.mem_cons_of_mem _ (List.mem_append_right _ h))
  have hl := lv_entry ([.ref (ad o), .int a1]) (n := 2) (Nat.le_of_ble_eq_true rfl)
  rw [lg_entry_eq]
  generalize (lg_sl ([.ref (ad o), .int a1]) ++ List.replicate (2 - (lg_sl ([.ref (ad o), .int a1])).length) Slot.unset).toArray = ls at hl ⊢
  have hl : lv_has ls 2 [(0, .ref (ad o)), (1, .int a1)] := hl
  unfold F_X4_errorOfTicks at hf
  refine lv_iconst (v := 1) hx hb dX4_errorOfTicks_0 (by decide) ?_
  refine lv_iload_n hx hb dX4_errorOfTicks_1 rfl (lv_at hl 1 rfl) ?_
  refine lv_bipush (v := 99) hx hb dX4_errorOfTicks_2 (by decide) ?_
  obtain ⟨r6, m7, hq, hf⟩ := ob_e hf
  refine w_ci (va_runSN (As := [.int 1, .int a1, .int 99]) (rest := []) ⟨hx, hb, hml, hown, hts⟩ (c_X6_isBetween l D ad cI cR hi fu 1 a1 99 mm r6 m7 hq) ⟨va_cnB 3 hts gX4_errorOfTicks_X6_isBetween_n85 rfl rfl rfl hN.2.2.1 (hts (.initialized RX6) (List.mem_of_getElem? (i := 5) rfl)) (by decide +kernel) ⟨Nat.le_of_ble_eq_true rfl, Nat.le_of_ble_eq_true rfl⟩, (hts (.static yX6_isBetween) (List.mem_of_getElem? (i := 4) rfl)), trivial⟩ (w_preS hK hP hN) rfl rfl hl.1 rfl (lv_room (Nat.le_of_ble_eq_true rfl)) dX4_errorOfTicks_4 ⟨Nat.zero_le _, Nat.zero_le _⟩) hA hS (fun H locs hP hS => ?_)
  refine lv_if_ne (tgt := 13) hx hb dX4_errorOfTicks_7 (by decide) (fun c8 => ?_) (fun c8 => ?_)
  · rw [if_neg c8] at hf
    refine lv_aload_n hx hb dX4_errorOfTicks_13 rfl (lv_at hl 0 rfl) ?_
    refine w_get (C := RX4) (T := TX4) (N := 11) (ci := 4) (v := .int (m7 o 9)) hx hb hts hinX4 hown hK hP ho.1 ho.2.1 rfl 9 (by decide) (hts (.fieldLink RX4 52 "AdmissionControl$Server" "clock" "I") (List.mem_of_getElem? (i := 2) rfl)) (fun _ h9 => h9) rfl dX4_errorOfTicks_14 ?_
    refine lv_iload_n hx hb dX4_errorOfTicks_17 rfl (lv_at hl 1 rfl) ?_
    obtain ⟨v9, ev9, hf⟩ := bd_e hf
    refine lv_iadd hx hb dX4_errorOfTicks_18 ?_
    refine w_top ev9 ?_
    refine lv_sipush (v := 999) hx hb dX4_errorOfTicks_19 (by decide) ?_
    refine lv_icmp_le (tgt := 30) hx hb dX4_errorOfTicks_22 (by decide) (fun c10 => ?_) (fun c10 => ?_)
    · rw [if_pos c10] at hf
      refine lv_iconst (v := 0) hx hb dX4_errorOfTicks_30 (by decide) ?_
      cases hf
      exact w_iret hx hb hr hlocks hP hS dX4_errorOfTicks_31
    · rw [if_neg c10] at hf
      refine lv_ldc (v := (-100004)) hx hb hown (hts (.constant RX4 90 (-100004)) (List.mem_of_getElem? (i := 3) rfl)) dX4_errorOfTicks_25 ?_
      refine lv_goto (tgt := 31) hx hb dX4_errorOfTicks_27 (by decide) ?_
      cases hf
      exact w_iret hx hb hr hlocks hP hS dX4_errorOfTicks_31
  · rw [if_pos c8] at hf
    refine lv_ldc (v := (-100002)) hx hb hown (hts (.constant RX4 89 (-100002)) (List.mem_of_getElem? (i := 1) rfl)) dX4_errorOfTicks_10 ?_
    cases hf
    exact w_iret hx hb hr hlocks hP hS dX4_errorOfTicks_12
def F_X4_expectedCost (fu : Nat) (o : Nat) (a1 : Int32) (mm : Mem) : Option (Int32 × Mem) := ob (F_X3_at fu (o + 3) 5 a1 mm) fun r5 m6 => bd (r5 / 16) fun v7 => bd (if 1 < v7 then v7 else 1) fun v8 => some (v8, m6)
set_option maxHeartbeats 4000000 in
set_option maxRecDepth 100000 in
theorem c_X4_expectedCost (l : Launch) (D : va_G) (ad : Nat → Nat) (cI cR : ClassId) (hi : inj ad) (fu : Nat) (o : Nat) (a1 : Int32) (ho : sSrv ad cI cR o) (mm : Mem) (r0 : Int32) (m9 : Mem) (hf : F_X4_expectedCost fu o a1 mm = some (r0, m9)) : MI l yX4_expectedCost wsX4_expectedCost { frames := 1, cells := 0, slots := 0, locals := 21 } D ad cI cR [.ref (ad o), .int a1] mm r0 m9 := by
  refine Met.ofW (cc := cX4_expectedCost) (maxL := 2) (ret := (some .int)) (by decide) rfl ?_
  intro p e s m args below meth c s₁ B hml hv
  obtain ⟨rfl, hP, hK, hN⟩ := hv
  have hx := B.exec
  have hb := B.bytes
  have hr := B.returns
  have hts := atoms_spec (ws := wsX4_expectedCost) B.pre
  have hown : s.vm.findClass RX4 = some m.cls := findClass_of_methodNamed B.named
  have hlocks := B.notSynchronized
  have hA : ∀ q, AA ad q → AA ad q := fun _ h => h
  have hS : va_S (AA ad) s.heap s.heap [] := va_S.rf
  have hinX4 : ∀ w ∈ wsX40, w ∈ wsX4_expectedCost := (fun _ h => List.mem_cons_of_mem _ (List.mem_append_left _ (List.mem_append_right _ h)))
  have hl := lv_entry ([.ref (ad o), .int a1]) (n := 2) (Nat.le_of_ble_eq_true rfl)
  rw [lg_entry_eq]
  generalize (lg_sl ([.ref (ad o), .int a1]) ++ List.replicate (2 - (lg_sl ([.ref (ad o), .int a1])).length) Slot.unset).toArray = ls at hl ⊢
  have hl : lv_has ls 2 [(0, .ref (ad o)), (1, .int a1)] := hl
  unfold F_X4_expectedCost at hf
  refine lv_iconst (v := 1) hx hb dX4_expectedCost_0 (by decide) ?_
  refine lv_aload_n hx hb dX4_expectedCost_1 rfl (lv_at hl 0 rfl) ?_
  refine w_get (C := RX4) (T := TX4) (N := 11) (ci := 4) (v := .ref (ad (o + 3))) hx hb hts hinX4 hown hK hP ho.1 ho.2.1 rfl 1 (by decide) (hts (.fieldLink RX4 20 "AdmissionControl$Server" "estimates" "LAdmissionControl$Row;") (List.mem_of_getElem? (i := 1) rfl)) (fun _ h9 => h9) rfl dX4_expectedCost_2 ?_
  refine lv_iload_n hx hb dX4_expectedCost_5 rfl (lv_at hl 1 rfl) ?_
  obtain ⟨r5, m6, hq, hf⟩ := ob_e hf
  refine w_ci (va_runV (As := [.int a1]) (rest := [.int 1]) ⟨hx, hb, hml, hown, hts⟩ (c_X3_at l D ad cI cR hi fu (o + 3) 5 a1 ho.2.2.2.1 mm r5 m6 hq) (cwV 1 hts gX4_expectedCost_X3_at rfl rfl rfl (by decide +kernel) ⟨Nat.le_of_ble_eq_true rfl, Nat.le_of_ble_eq_true rfl⟩) (w_preV (ci := 3) hK hP hN ho.2.2.2.1.1 ho.2.2.2.1.2.1 rfl) rfl rfl hl.1 rfl (lv_room (Nat.le_of_ble_eq_true rfl)) dX4_expectedCost_6 ⟨Nat.zero_le _, Nat.zero_le _⟩) hA hS (fun H locs hP hS => ?_)
  refine lv_bipush (v := 16) hx hb dX4_expectedCost_9 (by decide) ?_
  obtain ⟨v7, ev7, hf⟩ := bd_e hf
  refine lv_idiv hx hb dX4_expectedCost_11 (by decide) ?_
  refine w_top ev7 ?_
  obtain ⟨v8, ev8, hf⟩ := bd_e hf
  refine va_mmax hx hb (hml.trans hl.1.symm) hown (hts (.methodLink RX4 107 Lib.Math.max.name) (List.mem_of_getElem? (i := 2) rfl)) (hts (.static Lib.Math.max.name) (List.mem_of_getElem? (i := 3) rfl)) (hts (.initialized "java/lang/Math") (List.mem_of_getElem? (i := 4) rfl)) (hts (.code Lib.Math.max.name Lib.Math.max.code 2 (some .int)) (List.mem_of_getElem? (i := 5) rfl)) (Nat.le_of_ble_eq_true rfl) (Nat.le_of_ble_eq_true rfl) (Nat.zero_le _) (Nat.zero_le _) dX4_expectedCost_12 ?_
  refine w_top ev8 ?_
  cases hf
  exact w_iret hx hb hr hlocks hP hS dX4_expectedCost_15
def F_X4_backlogOf_L4 (fu : Nat) (o : Nat) (b1 : Nat)  : Nat → Int32 → Int32 → Mem → Option (Int32 × Mem)
  | 0, _, _, _ => none
  | n + 1, x2, x3, mm => if (mm b1 3) ≤ x3 then (some (x2, mm)) else (ob (F_X3_at fu (b1 + 5) 8 x3 mm) fun r32 m33 => oq (F_X4_find fu o r32 m33) (fun m35 => bd (x3 + 1) fun v36 => F_X4_backlogOf_L4 fu o b1 n x2 v36 m35) (fun o34 m35 => bd ((m35 o34 5) - (m35 o34 6)) fun v37 => bd (if 1 < v37 then v37 else 1) fun v38 => bd (x2 + v38) fun v39 => bd (x3 + 1) fun v40 => F_X4_backlogOf_L4 fu o b1 n v39 v40 m35))
def F_X4_backlogOf (fu : Nat) (o : Nat) (b1 : Nat) (mm : Mem) : Option (Int32 × Mem) := F_X4_backlogOf_L4 fu o b1 fu 0 0 mm
set_option maxHeartbeats 4000000 in
set_option maxRecDepth 100000 in
theorem c_X4_backlogOf (l : Launch) (D : va_G) (ad : Nat → Nat) (cI cR : ClassId) (hi : inj ad) (fu : Nat) (o : Nat) (b1 : Nat) (ho : sSrv ad cI cR o) (hb1 : sLane ad cI cR b1) (mm : Mem) (r0 : Int32) (m9 : Mem) (hf : F_X4_backlogOf fu o b1 mm = some (r0, m9)) : MI l yX4_backlogOf wsX4_backlogOf { frames := 1, cells := 0, slots := 0, locals := 21 } D ad cI cR [.ref (ad o), .ref (ad b1)] mm r0 m9 := by
  refine Met.ofW (cc := cX4_backlogOf) (maxL := 5) (ret := (some .int)) (by decide) rfl ?_
  intro p e s m args below meth c s₁ B hml hv
  obtain ⟨rfl, hP, hK, hN⟩ := hv
  have hx := B.exec
  have hb := B.bytes
  have hr := B.returns
  have hts := atoms_spec (ws := wsX4_backlogOf) B.pre
  have hown : s.vm.findClass RX4 = some m.cls := findClass_of_methodNamed B.named
  have hlocks := B.notSynchronized
  have hA : ∀ q, AA ad q → AA ad q := fun _ h => h
  have hS : va_S (AA ad) s.heap s.heap [] := va_S.rf
  have hinX1 : ∀ w ∈ wsX10, w ∈ wsX4_backlogOf := (fun _ h => List.mem_cons_of_mem _ (List.mem_append_left _ (List.mem_append_left _ (List.mem_append_left _ (List.mem_append_right _ h)))))
  have hinX2 : ∀ w ∈ wsX20, w ∈ wsX4_backlogOf := (fun _ h => List.mem_cons_of_mem _ (List.mem_append_left _ (List.mem_append_left _ (List.mem_append_right _ h))))
  have hL4 : ∀ (n : Nat) (x2 : Int32) (x3 : Int32)  (mm : Mem) (H : Heap) (locs : List Loc) (ls : Array Slot), F_X4_backlogOf_L4 fu o b1  n x2 x3 mm = some (r0, m9) → va_P D vwCl (cw ad cI cR mm) H → va_S (AA ad) s.heap H locs → lv_has ls 5 [(0, .ref (ad o)), (1, .ref (ad b1)), (2, .int x2), (3, .int x3)] → W p l e (headSpec wsX4_backlogOf { frames := 1, cells := 0, slots := 0, locals := 21 }).room s m ([.ref (ad o), .ref (ad b1)] : List Value).toArray below meth c H locs 0 0 (MQ below (va_Qi (fun (r' : Int32) (u : Mem) => r' = r0 ∧ u = m9) (KB D ad cI cR) (AA ad)) ([.ref (ad o), .ref (ad b1)] : List Value).toArray s 0 0 (AA ad)) (F0 m 4 ls []) := by
    intro n
    induction n with
    | zero =>
      intro x2 x3 mm H locs ls hf hP hS hl
      rw [F_X4_backlogOf_L4] at hf
      cases hf
    | succ n4 ih4 =>
      intro x2 x3 mm H locs ls hf hP hS hl
      rw [F_X4_backlogOf_L4] at hf
      refine lv_iload_n hx hb dX4_backlogOf_4 rfl (lv_at hl 3 rfl) ?_
      refine lv_aload_n hx hb dX4_backlogOf_5 rfl (lv_at hl 1 rfl) ?_
      refine w_get (C := RX1) (T := TX1) (N := 7) (ci := 1) (v := .int (mm b1 3)) hx hb hts hinX1 hown hK hP hb1.1 hb1.2.1 rfl 3 (by decide) (hts (.fieldLink RX4 113 "AdmissionControl$Lane" "length" "I") (List.mem_of_getElem? (i := 1) rfl)) (fun _ h9 => h9) rfl dX4_backlogOf_6 ?_
      refine lv_icmp_ge (tgt := 55) hx hb dX4_backlogOf_9 (by decide) (fun c31 => ?_) (fun c31 => ?_)
      · rw [if_pos c31] at hf
        refine lv_iload_n hx hb dX4_backlogOf_55 rfl (lv_at hl 2 rfl) ?_
        cases hf
        exact w_iret hx hb hr hlocks hP hS dX4_backlogOf_56
      · rw [if_neg c31] at hf
        refine lv_aload_n hx hb dX4_backlogOf_12 rfl (lv_at hl 0 rfl) ?_
        refine lv_aload_n hx hb dX4_backlogOf_13 rfl (lv_at hl 1 rfl) ?_
        refine w_get (C := RX1) (T := TX1) (N := 7) (ci := 1) (v := .ref (ad (b1 + 5))) hx hb hts hinX1 hown hK hP hb1.1 hb1.2.1 rfl 2 (by decide) (hts (.fieldLink RX4 116 "AdmissionControl$Lane" "queue" "LAdmissionControl$Row;") (List.mem_of_getElem? (i := 2) rfl)) (fun _ h9 => h9) rfl dX4_backlogOf_14 ?_
        refine lv_iload_n hx hb dX4_backlogOf_17 rfl (lv_at hl 3 rfl) ?_
        obtain ⟨r32, m33, hq, hf⟩ := ob_e hf
        refine w_ci (va_runV (As := [.int x3]) (rest := [.ref (ad o)]) ⟨hx, hb, hml, hown, hts⟩ (c_X3_at l D ad cI cR hi fu (b1 + 5) 8 x3 hb1.2.2.2.2 mm r32 m33 hq) (cwV 1 hts gX4_backlogOf_X3_at rfl rfl rfl (by decide +kernel) ⟨Nat.le_of_ble_eq_true rfl, Nat.le_of_ble_eq_true rfl⟩) (w_preV (ci := 3) hK hP hN hb1.2.2.2.2.1 hb1.2.2.2.2.2.1 rfl) rfl rfl hl.1 rfl (lv_room (Nat.le_of_ble_eq_true rfl)) dX4_backlogOf_18 ⟨Nat.zero_le _, Nat.zero_le _⟩) hA hS (fun H locs hP hS => ?_)
        rcases oq_e hf with ⟨m35, hq, hf⟩ | ⟨o34, m35, hq, hf⟩
        · refine w_cqN (va_runV (As := [.int r32]) (rest := []) ⟨hx, hb, hml, hown, hts⟩ (c_X4_find l D ad cI cR hi fu o r32 ho m33 none m35 hq) (cwV 1 hts gX4_backlogOf_X4_find rfl rfl rfl (by decide +kernel) ⟨Nat.le_of_ble_eq_true rfl, Nat.le_of_ble_eq_true rfl⟩) (w_preV (ci := 4) hK hP hN ho.1 ho.2.1 rfl) rfl rfl hl.1 rfl (lv_room (Nat.le_of_ble_eq_true rfl)) dX4_backlogOf_21 ⟨Nat.zero_le _, Nat.zero_le _⟩) hA hS (fun H locs hP hS => ?_)
          refine lv_astoreN (lv' := [(4, .null), (0, .ref (ad o)), (1, .ref (ad b1)), (2, .int x2), (3, .int x3)]) hx hb dX4_backlogOf_24 hl (by decide) rfl (fun ls hl => ?_)
          refine lv_aloadN hx hb dX4_backlogOf_26 (lv_at hl 0 rfl) ?_
          refine lv_ifnullN (tgt := 49) hx hb dX4_backlogOf_28 (by decide) ?_
          obtain ⟨v36, ev36, hf⟩ := bd_e hf
          refine lv_iinc (v := v36) (lv' := [(3, .int v36), (4, .null), (0, .ref (ad o)), (1, .ref (ad b1)), (2, .int x2)]) hx hb dX4_backlogOf_49 hl (k := 4) rfl (by rw [ev36]; rfl) (by decide) rfl (fun ls hl => ?_)
          refine lv_goto (tgt := 4) hx hb dX4_backlogOf_52 (by decide) ?_
          exact ih4 x2 v36 m35 _ _ _ hf hP hS (lv_sub hl [2, 3, 4, 0] rfl)
        · have ho34 := (t_X4_find ad cI cR fu o r32 ho m33 o34 m35 hq)
          refine w_cqS (va_runV (As := [.int r32]) (rest := []) ⟨hx, hb, hml, hown, hts⟩ (c_X4_find l D ad cI cR hi fu o r32 ho m33 (some o34) m35 hq) (cwV 1 hts gX4_backlogOf_X4_find rfl rfl rfl (by decide +kernel) ⟨Nat.le_of_ble_eq_true rfl, Nat.le_of_ble_eq_true rfl⟩) (w_preV (ci := 4) hK hP hN ho.1 ho.2.1 rfl) rfl rfl hl.1 rfl (lv_room (Nat.le_of_ble_eq_true rfl)) dX4_backlogOf_21 ⟨Nat.zero_le _, Nat.zero_le _⟩) hA hS (fun H locs hP hS => ?_)
          refine lv_astore (lv' := [(4, .ref (ad o34)), (0, .ref (ad o)), (1, .ref (ad b1)), (2, .int x2), (3, .int x3)]) hx hb dX4_backlogOf_24 hl (by decide) rfl (fun ls hl => ?_)
          refine lv_aload hx hb dX4_backlogOf_26 (lv_at hl 0 rfl) ?_
          refine lv_ifnull hx hb dX4_backlogOf_28 ?_
          refine lv_iload_n hx hb dX4_backlogOf_31 rfl (lv_at hl 3 rfl) ?_
          refine lv_iconst (v := 1) hx hb dX4_backlogOf_32 (by decide) ?_
          refine lv_aload hx hb dX4_backlogOf_33 (lv_at hl 0 rfl) ?_
          refine w_get (C := RX2) (T := TX2) (N := 11) (ci := 2) (v := .int (m35 o34 5)) hx hb hts hinX2 hown hK hP ho34.1 ho34.2 rfl 5 (by decide) (hts (.fieldLink RX4 119 "AdmissionControl$Request" "price" "I") (List.mem_of_getElem? (i := 3) rfl)) (fun _ h9 => h9) rfl dX4_backlogOf_35 ?_
          refine lv_aload hx hb dX4_backlogOf_38 (lv_at hl 0 rfl) ?_
          refine w_get (C := RX2) (T := TX2) (N := 11) (ci := 2) (v := .int (m35 o34 6)) hx hb hts hinX2 hown hK hP ho34.1 ho34.2 rfl 6 (by decide) (hts (.fieldLink RX4 122 "AdmissionControl$Request" "units" "I") (List.mem_of_getElem? (i := 4) rfl)) (fun _ h9 => h9) rfl dX4_backlogOf_40 ?_
          obtain ⟨v37, ev37, hf⟩ := bd_e hf
          refine lv_isub hx hb dX4_backlogOf_43 ?_
          refine w_top ev37 ?_
          obtain ⟨v38, ev38, hf⟩ := bd_e hf
          refine va_mmax hx hb (hml.trans hl.1.symm) hown (hts (.methodLink RX4 107 Lib.Math.max.name) (List.mem_of_getElem? (i := 5) rfl)) (hts (.static Lib.Math.max.name) (List.mem_of_getElem? (i := 6) rfl)) (hts (.initialized "java/lang/Math") (List.mem_of_getElem? (i := 7) rfl)) (hts (.code Lib.Math.max.name Lib.Math.max.code 2 (some .int)) (List.mem_of_getElem? (i := 8) rfl)) (Nat.le_of_ble_eq_true rfl) (Nat.le_of_ble_eq_true rfl) (Nat.zero_le _) (Nat.zero_le _) dX4_backlogOf_44 ?_
          refine w_top ev38 ?_
          obtain ⟨v39, ev39, hf⟩ := bd_e hf
          refine lv_iadd hx hb dX4_backlogOf_47 ?_
          refine w_top ev39 ?_
          refine lv_istore_n (lv' := [(2, .int v39), (4, .ref (ad o34)), (0, .ref (ad o)), (1, .ref (ad b1)), (3, .int x3)]) hx hb dX4_backlogOf_48 rfl hl (by decide) rfl (fun ls hl => ?_)
          obtain ⟨v40, ev40, hf⟩ := bd_e hf
          refine lv_iinc (v := v40) (lv' := [(3, .int v40), (2, .int v39), (4, .ref (ad o34)), (0, .ref (ad o)), (1, .ref (ad b1))]) hx hb dX4_backlogOf_49 hl (k := 4) rfl (by rw [ev40]; rfl) (by decide) rfl (fun ls hl => ?_)
          refine lv_goto (tgt := 4) hx hb dX4_backlogOf_52 (by decide) ?_
          exact ih4 v39 v40 m35 _ _ _ hf hP hS (lv_sub hl [3, 4, 1, 0] rfl)
  have hl := lv_entry ([.ref (ad o), .ref (ad b1)]) (n := 5) (Nat.le_of_ble_eq_true rfl)
  rw [lg_entry_eq]
  generalize (lg_sl ([.ref (ad o), .ref (ad b1)]) ++ List.replicate (5 - (lg_sl ([.ref (ad o), .ref (ad b1)])).length) Slot.unset).toArray = ls at hl ⊢
  have hl : lv_has ls 5 [(0, .ref (ad o)), (1, .ref (ad b1))] := hl
  unfold F_X4_backlogOf at hf
  refine lv_iconst (v := 0) hx hb dX4_backlogOf_0 (by decide) ?_
  refine lv_istore_n (lv' := [(2, .int 0), (0, .ref (ad o)), (1, .ref (ad b1))]) hx hb dX4_backlogOf_1 rfl hl (by decide) rfl (fun ls hl => ?_)
  refine lv_iconst (v := 0) hx hb dX4_backlogOf_2 (by decide) ?_
  refine lv_istore_n (lv' := [(3, .int 0), (2, .int 0), (0, .ref (ad o)), (1, .ref (ad b1))]) hx hb dX4_backlogOf_3 rfl hl (by decide) rfl (fun ls hl => ?_)
  exact hL4 fu 0 0 mm _ _ _ hf hP hS (lv_sub hl [2, 3, 1, 0] rfl)
def F_X4_firstRefusal (fu : Nat) (o : Nat) (b1 : Nat) (a2 : Int32) (mm : Mem) : Option (Int32 × Mem) := ob (F_X3_at fu (b1 + 1) 4 3 mm) fun r28 m29 => if a2 ≤ r28 then (if (m29 b1 3) < 8 then (ob (F_X3_at fu ((o + 5) + 1) 4 0 m29) fun r32 m33 => ob (F_X3_at fu ((o + 12) + 1) 4 0 m33) fun r34 m35 => bd (r32 + r34) fun v36 => ob (F_X3_at fu ((o + 19) + 1) 4 0 m35) fun r37 m38 => bd (v36 + r37) fun v39 => ob (F_X3_at fu (b1 + 1) 4 0 m38) fun r40 m41 => ob (F_X3_at fu (o + 1) 4 0 m41) fun r42 m43 => bd (r40 * r42) fun v44 => ob (F_X4_backlogOf fu o b1 m43) fun r45 m46 => bd (r45 + a2) fun v47 => bd (v47 * v39) fun v48 => ob (F_X6_quotient fu v48 v44 m46) fun r49 m50 => ob (F_X3_at fu (o + 1) 4 1 m50) fun r51 m52 => if r49 ≤ r51 then (if a2 ≤ (m52 b1 4) then (some (0, m52)) else (some (4, m52))) else (some (3, m52))) else (some (2, m29))) else (some (1, m29))
set_option maxHeartbeats 4000000 in
set_option maxRecDepth 100000 in
theorem c_X4_firstRefusal (l : Launch) (D : va_G) (ad : Nat → Nat) (cI cR : ClassId) (hi : inj ad) (fu : Nat) (o : Nat) (b1 : Nat) (a2 : Int32) (ho : sSrv ad cI cR o) (hb1 : sLane ad cI cR b1) (mm : Mem) (r0 : Int32) (m9 : Mem) (hf : F_X4_firstRefusal fu o b1 a2 mm = some (r0, m9)) : MI l yX4_firstRefusal wsX4_firstRefusal { frames := 2, cells := 0, slots := 0, locals := 45 } D ad cI cR [.ref (ad o), .ref (ad b1), .int a2] mm r0 m9 := by
  refine Met.ofW (cc := cX4_firstRefusal) (maxL := 6) (ret := (some .int)) (by decide) rfl ?_
  intro p e s m args below meth c s₁ B hml hv
  obtain ⟨rfl, hP, hK, hN⟩ := hv
  have hx := B.exec
  have hb := B.bytes
  have hr := B.returns
  have hts := atoms_spec (ws := wsX4_firstRefusal) B.pre
  have hown : s.vm.findClass RX4 = some m.cls := findClass_of_methodNamed B.named
  have hlocks := B.notSynchronized
  have hA : ∀ q, AA ad q → AA ad q := fun _ h => h
  have hS : va_S (AA ad) s.heap s.heap [] := va_S.rf
  have hinX1 : ∀ w ∈ wsX10, w ∈ wsX4_firstRefusal := (fun _ h => List.mem_cons_of_mem _ (List.mem_append_left _ (List.mem_append_left _ (List.mem_append_left _ (List.mem_append_right _ h)))))
  have hinX4 : ∀ w ∈ wsX40, w ∈ wsX4_firstRefusal := (fun _ h => List.mem_cons_of_mem _ (List.mem_append_left _ (List.mem_append_left _ (List.mem_append_right _ h))))
  have hl := lv_entry ([.ref (ad o), .ref (ad b1), .int a2]) (n := 6) (Nat.le_of_ble_eq_true rfl)
  rw [lg_entry_eq]
  generalize (lg_sl ([.ref (ad o), .ref (ad b1), .int a2]) ++ List.replicate (6 - (lg_sl ([.ref (ad o), .ref (ad b1), .int a2])).length) Slot.unset).toArray = ls at hl ⊢
  have hl : lv_has ls 6 [(0, .ref (ad o)), (1, .ref (ad b1)), (2, .int a2)] := hl
  unfold F_X4_firstRefusal at hf
  refine lv_iload_n hx hb dX4_firstRefusal_0 rfl (lv_at hl 2 rfl) ?_
  refine lv_aload_n hx hb dX4_firstRefusal_1 rfl (lv_at hl 1 rfl) ?_
  refine w_get (C := RX1) (T := TX1) (N := 7) (ci := 1) (v := .ref (ad (b1 + 1))) hx hb hts hinX1 hown hK hP hb1.1 hb1.2.1 rfl 0 (by decide) (hts (.fieldLink RX4 125 "AdmissionControl$Lane" "settings" "LAdmissionControl$Row;") (List.mem_of_getElem? (i := 1) rfl)) (fun _ h9 => h9) rfl dX4_firstRefusal_2 ?_
  refine lv_iconst (v := 3) hx hb dX4_firstRefusal_5 (by decide) ?_
  obtain ⟨r28, m29, hq, hf⟩ := ob_e hf
  refine w_ci (va_runV (As := [.int 3]) (rest := [.int a2]) ⟨hx, hb, hml, hown, hts⟩ (c_X3_at l D ad cI cR hi fu (b1 + 1) 4 3 hb1.2.2.1 mm r28 m29 hq) (cwV 1 hts gX4_firstRefusal_X3_at rfl rfl rfl (by decide +kernel) ⟨Nat.le_of_ble_eq_true rfl, Nat.le_of_ble_eq_true rfl⟩) (w_preV (ci := 3) hK hP hN hb1.2.2.1.1 hb1.2.2.1.2.1 rfl) rfl rfl hl.1 rfl (lv_room (Nat.le_of_ble_eq_true rfl)) dX4_firstRefusal_6 ⟨Nat.zero_le _, Nat.zero_le _⟩) hA hS (fun H locs hP hS => ?_)
  refine lv_icmp_le (tgt := 14) hx hb dX4_firstRefusal_9 (by decide) (fun c30 => ?_) (fun c30 => ?_)
  · rw [if_pos c30] at hf
    refine lv_aload_n hx hb dX4_firstRefusal_14 rfl (lv_at hl 1 rfl) ?_
    refine w_get (C := RX1) (T := TX1) (N := 7) (ci := 1) (v := .int (m29 b1 3)) hx hb hts hinX1 hown hK hP hb1.1 hb1.2.1 rfl 3 (by decide) (hts (.fieldLink RX4 113 "AdmissionControl$Lane" "length" "I") (List.mem_of_getElem? (i := 2) rfl)) (fun _ h9 => h9) rfl dX4_firstRefusal_15 ?_
    refine lv_bipush (v := 8) hx hb dX4_firstRefusal_18 (by decide) ?_
    refine lv_icmp_lt (tgt := 25) hx hb dX4_firstRefusal_20 (by decide) (fun c31 => ?_) (fun c31 => ?_)
    · rw [if_pos c31] at hf
      refine lv_aload_n hx hb dX4_firstRefusal_25 rfl (lv_at hl 0 rfl) ?_
      refine w_get (C := RX4) (T := TX4) (N := 11) (ci := 4) (v := .ref (ad (o + 5))) hx hb hts hinX4 hown hK hP ho.1 ho.2.1 rfl 2 (by decide) (hts (.fieldLink RX4 26 "AdmissionControl$Server" "lane0" "LAdmissionControl$Lane;") (List.mem_of_getElem? (i := 3) rfl)) (fun _ h9 => h9) rfl dX4_firstRefusal_26 ?_
      refine w_get (C := RX1) (T := TX1) (N := 7) (ci := 1) (v := .ref (ad ((o + 5) + 1))) hx hb hts hinX1 hown hK hP ho.2.2.2.2.1.1 ho.2.2.2.2.1.2.1 rfl 0 (by decide) (hts (.fieldLink RX4 125 "AdmissionControl$Lane" "settings" "LAdmissionControl$Row;") (List.mem_of_getElem? (i := 1) rfl)) (fun _ h9 => h9) rfl dX4_firstRefusal_29 ?_
      refine lv_iconst (v := 0) hx hb dX4_firstRefusal_32 (by decide) ?_
      obtain ⟨r32, m33, hq, hf⟩ := ob_e hf
      refine w_ci (va_runV (As := [.int 0]) (rest := []) ⟨hx, hb, hml, hown, hts⟩ (c_X3_at l D ad cI cR hi fu ((o + 5) + 1) 4 0 ho.2.2.2.2.1.2.2.1 m29 r32 m33 hq) (cwV 1 hts gX4_firstRefusal_X3_at rfl rfl rfl (by decide +kernel) ⟨Nat.le_of_ble_eq_true rfl, Nat.le_of_ble_eq_true rfl⟩) (w_preV (ci := 3) hK hP hN ho.2.2.2.2.1.2.2.1.1 ho.2.2.2.2.1.2.2.1.2.1 rfl) rfl rfl hl.1 rfl (lv_room (Nat.le_of_ble_eq_true rfl)) dX4_firstRefusal_33 ⟨Nat.zero_le _, Nat.zero_le _⟩) hA hS (fun H locs hP hS => ?_)
      refine lv_aload_n hx hb dX4_firstRefusal_36 rfl (lv_at hl 0 rfl) ?_
      refine w_get (C := RX4) (T := TX4) (N := 11) (ci := 4) (v := .ref (ad (o + 12))) hx hb hts hinX4 hown hK hP ho.1 ho.2.1 rfl 3 (by decide) (hts (.fieldLink RX4 30 "AdmissionControl$Server" "lane1" "LAdmissionControl$Lane;") (List.mem_of_getElem? (i := 4) rfl)) (fun _ h9 => h9) rfl dX4_firstRefusal_37 ?_
      refine w_get (C := RX1) (T := TX1) (N := 7) (ci := 1) (v := .ref (ad ((o + 12) + 1))) hx hb hts hinX1 hown hK hP ho.2.2.2.2.2.1.1 ho.2.2.2.2.2.1.2.1 rfl 0 (by decide) (hts (.fieldLink RX4 125 "AdmissionControl$Lane" "settings" "LAdmissionControl$Row;") (List.mem_of_getElem? (i := 1) rfl)) (fun _ h9 => h9) rfl dX4_firstRefusal_40 ?_
      refine lv_iconst (v := 0) hx hb dX4_firstRefusal_43 (by decide) ?_
      obtain ⟨r34, m35, hq, hf⟩ := ob_e hf
      refine w_ci (va_runV (As := [.int 0]) (rest := [.int r32]) ⟨hx, hb, hml, hown, hts⟩ (c_X3_at l D ad cI cR hi fu ((o + 12) + 1) 4 0 ho.2.2.2.2.2.1.2.2.1 m33 r34 m35 hq) (cwV 1 hts gX4_firstRefusal_X3_at rfl rfl rfl (by decide +kernel) ⟨Nat.le_of_ble_eq_true rfl, Nat.le_of_ble_eq_true rfl⟩) (w_preV (ci := 3) hK hP hN ho.2.2.2.2.2.1.2.2.1.1 ho.2.2.2.2.2.1.2.2.1.2.1 rfl) rfl rfl hl.1 rfl (lv_room (Nat.le_of_ble_eq_true rfl)) dX4_firstRefusal_44 ⟨Nat.zero_le _, Nat.zero_le _⟩) hA hS (fun H locs hP hS => ?_)
      obtain ⟨v36, ev36, hf⟩ := bd_e hf
      refine lv_iadd hx hb dX4_firstRefusal_47 ?_
      refine w_top ev36 ?_
      refine lv_aload_n hx hb dX4_firstRefusal_48 rfl (lv_at hl 0 rfl) ?_
      refine w_get (C := RX4) (T := TX4) (N := 11) (ci := 4) (v := .ref (ad (o + 19))) hx hb hts hinX4 hown hK hP ho.1 ho.2.1 rfl 4 (by decide) (hts (.fieldLink RX4 33 "AdmissionControl$Server" "lane2" "LAdmissionControl$Lane;") (List.mem_of_getElem? (i := 5) rfl)) (fun _ h9 => h9) rfl dX4_firstRefusal_49 ?_
      refine w_get (C := RX1) (T := TX1) (N := 7) (ci := 1) (v := .ref (ad ((o + 19) + 1))) hx hb hts hinX1 hown hK hP ho.2.2.2.2.2.2.1.1 ho.2.2.2.2.2.2.1.2.1 rfl 0 (by decide) (hts (.fieldLink RX4 125 "AdmissionControl$Lane" "settings" "LAdmissionControl$Row;") (List.mem_of_getElem? (i := 1) rfl)) (fun _ h9 => h9) rfl dX4_firstRefusal_52 ?_
      refine lv_iconst (v := 0) hx hb dX4_firstRefusal_55 (by decide) ?_
      obtain ⟨r37, m38, hq, hf⟩ := ob_e hf
      refine w_ci (va_runV (As := [.int 0]) (rest := [.int v36]) ⟨hx, hb, hml, hown, hts⟩ (c_X3_at l D ad cI cR hi fu ((o + 19) + 1) 4 0 ho.2.2.2.2.2.2.1.2.2.1 m35 r37 m38 hq) (cwV 1 hts gX4_firstRefusal_X3_at rfl rfl rfl (by decide +kernel) ⟨Nat.le_of_ble_eq_true rfl, Nat.le_of_ble_eq_true rfl⟩) (w_preV (ci := 3) hK hP hN ho.2.2.2.2.2.2.1.2.2.1.1 ho.2.2.2.2.2.2.1.2.2.1.2.1 rfl) rfl rfl hl.1 rfl (lv_room (Nat.le_of_ble_eq_true rfl)) dX4_firstRefusal_56 ⟨Nat.zero_le _, Nat.zero_le _⟩) hA hS (fun H locs hP hS => ?_)
      obtain ⟨v39, ev39, hf⟩ := bd_e hf
      refine lv_iadd hx hb dX4_firstRefusal_59 ?_
      refine w_top ev39 ?_
      refine lv_istore_n (lv' := [(3, .int v39), (0, .ref (ad o)), (1, .ref (ad b1)), (2, .int a2)]) hx hb dX4_firstRefusal_60 rfl hl (by decide) rfl (fun ls hl => ?_)
      refine lv_aload_n hx hb dX4_firstRefusal_61 rfl (lv_at hl 2 rfl) ?_
      refine w_get (C := RX1) (T := TX1) (N := 7) (ci := 1) (v := .ref (ad (b1 + 1))) hx hb hts hinX1 hown hK hP hb1.1 hb1.2.1 rfl 0 (by decide) (hts (.fieldLink RX4 125 "AdmissionControl$Lane" "settings" "LAdmissionControl$Row;") (List.mem_of_getElem? (i := 1) rfl)) (fun _ h9 => h9) rfl dX4_firstRefusal_62 ?_
      refine lv_iconst (v := 0) hx hb dX4_firstRefusal_65 (by decide) ?_
      obtain ⟨r40, m41, hq, hf⟩ := ob_e hf
      refine w_ci (va_runV (As := [.int 0]) (rest := []) ⟨hx, hb, hml, hown, hts⟩ (c_X3_at l D ad cI cR hi fu (b1 + 1) 4 0 hb1.2.2.1 m38 r40 m41 hq) (cwV 1 hts gX4_firstRefusal_X3_at rfl rfl rfl (by decide +kernel) ⟨Nat.le_of_ble_eq_true rfl, Nat.le_of_ble_eq_true rfl⟩) (w_preV (ci := 3) hK hP hN hb1.2.2.1.1 hb1.2.2.1.2.1 rfl) rfl rfl hl.1 rfl (lv_room (Nat.le_of_ble_eq_true rfl)) dX4_firstRefusal_66 ⟨Nat.zero_le _, Nat.zero_le _⟩) hA hS (fun H locs hP hS => ?_)
      refine lv_aload_n hx hb dX4_firstRefusal_69 rfl (lv_at hl 1 rfl) ?_
      refine w_get (C := RX4) (T := TX4) (N := 11) (ci := 4) (v := .ref (ad (o + 1))) hx hb hts hinX4 hown hK hP ho.1 ho.2.1 rfl 0 (by decide) (hts (.fieldLink RX4 14 "AdmissionControl$Server" "settings" "LAdmissionControl$Row;") (List.mem_of_getElem? (i := 6) rfl)) (fun _ h9 => h9) rfl dX4_firstRefusal_70 ?_
      refine lv_iconst (v := 0) hx hb dX4_firstRefusal_73 (by decide) ?_
      obtain ⟨r42, m43, hq, hf⟩ := ob_e hf
      refine w_ci (va_runV (As := [.int 0]) (rest := [.int r40]) ⟨hx, hb, hml, hown, hts⟩ (c_X3_at l D ad cI cR hi fu (o + 1) 4 0 ho.2.2.1 m41 r42 m43 hq) (cwV 1 hts gX4_firstRefusal_X3_at rfl rfl rfl (by decide +kernel) ⟨Nat.le_of_ble_eq_true rfl, Nat.le_of_ble_eq_true rfl⟩) (w_preV (ci := 3) hK hP hN ho.2.2.1.1 ho.2.2.1.2.1 rfl) rfl rfl hl.1 rfl (lv_room (Nat.le_of_ble_eq_true rfl)) dX4_firstRefusal_74 ⟨Nat.zero_le _, Nat.zero_le _⟩) hA hS (fun H locs hP hS => ?_)
      obtain ⟨v44, ev44, hf⟩ := bd_e hf
      refine lv_imul hx hb dX4_firstRefusal_77 ?_
      refine w_top ev44 ?_
      refine lv_istore (lv' := [(4, .int v44), (3, .int v39), (0, .ref (ad o)), (1, .ref (ad b1)), (2, .int a2)]) hx hb dX4_firstRefusal_78 hl (by decide) rfl (fun ls hl => ?_)
      refine lv_aload_n hx hb dX4_firstRefusal_80 rfl (lv_at hl 2 rfl) ?_
      refine lv_aload_n hx hb dX4_firstRefusal_81 rfl (lv_at hl 3 rfl) ?_
      obtain ⟨r45, m46, hq, hf⟩ := ob_e hf
      refine w_ci (va_runV (As := [.ref (ad b1)]) (rest := []) ⟨hx, hb, hml, hown, hts⟩ (c_X4_backlogOf l D ad cI cR hi fu o b1 ho hb1 m43 r45 m46 hq) (cwV 1 hts gX4_firstRefusal_X4_backlogOf rfl rfl rfl (by decide +kernel) ⟨Nat.le_of_ble_eq_true rfl, Nat.le_of_ble_eq_true rfl⟩) (w_preV (ci := 4) hK hP hN ho.1 ho.2.1 rfl) rfl rfl hl.1 rfl (lv_room (Nat.le_of_ble_eq_true rfl)) dX4_firstRefusal_82 ⟨Nat.zero_le _, Nat.zero_le _⟩) hA hS (fun H locs hP hS => ?_)
      refine lv_iload_n hx hb dX4_firstRefusal_85 rfl (lv_at hl 4 rfl) ?_
      obtain ⟨v47, ev47, hf⟩ := bd_e hf
      refine lv_iadd hx hb dX4_firstRefusal_86 ?_
      refine w_top ev47 ?_
      refine lv_iload_n hx hb dX4_firstRefusal_87 rfl (lv_at hl 1 rfl) ?_
      obtain ⟨v48, ev48, hf⟩ := bd_e hf
      refine lv_imul hx hb dX4_firstRefusal_88 ?_
      refine w_top ev48 ?_
      refine lv_iload hx hb dX4_firstRefusal_89 (lv_at hl 0 rfl) ?_
      obtain ⟨r49, m50, hq, hf⟩ := ob_e hf
      refine w_ci (va_runSN (As := [.int v48, .int v44]) (rest := []) ⟨hx, hb, hml, hown, hts⟩ (c_X6_quotient l D ad cI cR hi fu v48 v44 m46 r49 m50 hq) ⟨va_cnB 2 hts gX4_firstRefusal_X6_quotient_n130 rfl rfl rfl hN.2.2.2.1 (hts (.initialized RX6) (List.mem_of_getElem? (i := 33) rfl)) (by decide +kernel) ⟨Nat.le_of_ble_eq_true rfl, Nat.le_of_ble_eq_true rfl⟩, (hts (.static yX6_quotient) (List.mem_of_getElem? (i := 32) rfl)), trivial⟩ (w_preS hK hP hN) rfl rfl hl.1 rfl (lv_room (Nat.le_of_ble_eq_true rfl)) dX4_firstRefusal_91 ⟨Nat.zero_le _, Nat.zero_le _⟩) hA hS (fun H locs hP hS => ?_)
      refine lv_istore (lv' := [(5, .int r49), (4, .int v44), (3, .int v39), (0, .ref (ad o)), (1, .ref (ad b1)), (2, .int a2)]) hx hb dX4_firstRefusal_94 hl (by decide) rfl (fun ls hl => ?_)
      refine lv_iload hx hb dX4_firstRefusal_96 (lv_at hl 0 rfl) ?_
      refine lv_aload_n hx hb dX4_firstRefusal_98 rfl (lv_at hl 3 rfl) ?_
      refine w_get (C := RX4) (T := TX4) (N := 11) (ci := 4) (v := .ref (ad (o + 1))) hx hb hts hinX4 hown hK hP ho.1 ho.2.1 rfl 0 (by decide) (hts (.fieldLink RX4 14 "AdmissionControl$Server" "settings" "LAdmissionControl$Row;") (List.mem_of_getElem? (i := 6) rfl)) (fun _ h9 => h9) rfl dX4_firstRefusal_99 ?_
      refine lv_iconst (v := 1) hx hb dX4_firstRefusal_102 (by decide) ?_
      obtain ⟨r51, m52, hq, hf⟩ := ob_e hf
      refine w_ci (va_runV (As := [.int 1]) (rest := [.int r49]) ⟨hx, hb, hml, hown, hts⟩ (c_X3_at l D ad cI cR hi fu (o + 1) 4 1 ho.2.2.1 m50 r51 m52 hq) (cwV 1 hts gX4_firstRefusal_X3_at rfl rfl rfl (by decide +kernel) ⟨Nat.le_of_ble_eq_true rfl, Nat.le_of_ble_eq_true rfl⟩) (w_preV (ci := 3) hK hP hN ho.2.2.1.1 ho.2.2.1.2.1 rfl) rfl rfl hl.1 rfl (lv_room (Nat.le_of_ble_eq_true rfl)) dX4_firstRefusal_103 ⟨Nat.zero_le _, Nat.zero_le _⟩) hA hS (fun H locs hP hS => ?_)
      refine lv_icmp_le (tgt := 111) hx hb dX4_firstRefusal_106 (by decide) (fun c53 => ?_) (fun c53 => ?_)
      · rw [if_pos c53] at hf
        refine lv_aload_n hx hb dX4_firstRefusal_111 rfl (lv_at hl 4 rfl) ?_
        refine w_get (C := RX1) (T := TX1) (N := 7) (ci := 1) (v := .int (m52 b1 4)) hx hb hts hinX1 hown hK hP hb1.1 hb1.2.1 rfl 4 (by decide) (hts (.fieldLink RX4 133 "AdmissionControl$Lane" "tokens" "I") (List.mem_of_getElem? (i := 7) rfl)) (fun _ h9 => h9) rfl dX4_firstRefusal_112 ?_
        refine lv_iload_n hx hb dX4_firstRefusal_115 rfl (lv_at hl 5 rfl) ?_
        refine lv_icmp_ge (tgt := 123) hx hb dX4_firstRefusal_116 (by decide) (fun c54 => ?_) (fun c54 => ?_)
        · rw [if_pos c54] at hf
          refine lv_iconst (v := 0) hx hb dX4_firstRefusal_123 (by decide) ?_
          cases hf
          exact w_iret hx hb hr hlocks hP hS dX4_firstRefusal_124
        · rw [if_neg c54] at hf
          refine lv_iconst (v := 4) hx hb dX4_firstRefusal_119 (by decide) ?_
          refine lv_goto (tgt := 124) hx hb dX4_firstRefusal_120 (by decide) ?_
          cases hf
          exact w_iret hx hb hr hlocks hP hS dX4_firstRefusal_124
      · rw [if_neg c53] at hf
        refine lv_iconst (v := 3) hx hb dX4_firstRefusal_109 (by decide) ?_
        cases hf
        exact w_iret hx hb hr hlocks hP hS dX4_firstRefusal_110
    · rw [if_neg c31] at hf
      refine lv_iconst (v := 2) hx hb dX4_firstRefusal_23 (by decide) ?_
      cases hf
      exact w_iret hx hb hr hlocks hP hS dX4_firstRefusal_24
  · rw [if_neg c30] at hf
    refine lv_iconst (v := 1) hx hb dX4_firstRefusal_12 (by decide) ?_
    cases hf
    exact w_iret hx hb hr hlocks hP hS dX4_firstRefusal_13
