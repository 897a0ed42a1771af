def F_X4_nextLane_L4 (fu : Nat) (o : Nat)  : Nat → Option Nat → Int32 → Mem → Option (Option Nat × Mem)
  | 0, _, _, _ => none
  | n + 1, w1, x2, mm => cq w1 (if 3 ≤ x2 then (some (none, mm)) else (oq (F_X4_lane fu o x2 mm) (fun m37 => none) (fun o36 m37 => if (m37 o36 3) ≤ 0 then (bd (x2 + 1) fun v39 => F_X4_nextLane_L4 fu o n none v39 m37) else (bd (x2 + 1) fun v40 => F_X4_nextLane_L4 fu o n (some o36) v40 m37)))) (fun u1 => if 3 ≤ x2 then (some (some u1, mm)) else (oq (F_X4_lane fu o x2 mm) (fun m43 => none) (fun o42 m43 => if (m43 o42 3) ≤ 0 then (bd (x2 + 1) fun v45 => F_X4_nextLane_L4 fu o n (some u1) v45 m43) else (if (m43 u1 5) ≤ (m43 o42 5) then (bd (x2 + 1) fun v47 => F_X4_nextLane_L4 fu o n (some u1) v47 m43) else (bd (x2 + 1) fun v48 => F_X4_nextLane_L4 fu o n (some o42) v48 m43)))))
def F_X4_nextLane (fu : Nat) (o : Nat) (mm : Mem) : Option (Option Nat × Mem) := F_X4_nextLane_L4 fu o fu none 0 mm
set_option maxHeartbeats 4000000 in
set_option maxRecDepth 100000 in
theorem c_X4_nextLane (l : Launch) (D : va_G) (ad : Nat → Nat) (cI cR : ClassId) (hi : inj ad) (fu : Nat) (o : Nat) (ho : sSrv ad cI cR o) (mm : Mem) (r0 : Option Nat) (m9 : Mem) (hf : F_X4_nextLane fu o mm = some (r0, m9)) : MO l yX4_nextLane wsX4_nextLane { frames := 1, cells := 0, slots := 0, locals := 21 } D ad cI cR [.ref (ad o)] mm r0 m9 := by
  refine Met.ofW (cc := cX4_nextLane) (maxL := 4) (ret := (some (.object "AdmissionControl$Lane"))) (by decide) rfl ?_
  intro p e s m args below meth c s₁ B hml hv
  obtain ⟨rfl, hP, hK, hN⟩ := hv
  have hx := B.exec
  have hb := B.bytes
  have hr := B.returns
  have hts := atoms_spec (ws := wsX4_nextLane) B.pre
  have hown : s.vm.findClass RX4 = some m.cls := findClass_of_methodNamed B.named
  have hlocks := B.notSynchronized
  have hA : ∀ q, AA ad q → AA ad q := fun _ h => h
  have hS : va_S (AA ad) s.heap s.heap [] := va_S.rf
  have hinX1 : ∀ w ∈ wsX10, w ∈ wsX4_nextLane := (fun _ h => List.mem_cons_of_mem _ (List.mem_append_left _ (List.mem_append_right _ h)))
  have hL4 : ∀ (n : Nat) (w1 : Option Nat) (x2 : Int32) (hw1 : ∀ c, w1 = some c → sLane ad cI cR c) (mm : Mem) (H : Heap) (locs : List Loc) (ls : Array Slot), F_X4_nextLane_L4 fu o  n w1 x2 mm = some (r0, m9) → va_P D vwCl (cw ad cI cR mm) H → va_S (AA ad) s.heap H locs → lv_has ls 4 [(0, .ref (ad o)), (1, va_rf (w1.map ad)), (2, .int x2)] → W p l e (headSpec wsX4_nextLane { frames := 1, cells := 0, slots := 0, locals := 21 }).room s m ([.ref (ad o)] : List Value).toArray below meth c H locs 0 0 (MQ below (va_Qq (fun (r' : Option Nat) (u : Mem) => r' = r0.map ad ∧ u = m9) (KB D ad cI cR) (AA ad)) ([.ref (ad o)] : List Value).toArray s 0 0 (AA ad)) (F0 m 4 ls []) := by
    intro n
    induction n with
    | zero =>
      intro w1 x2 hw1 mm H locs ls hf hP hS hl
      rw [F_X4_nextLane_L4] at hf
      cases hf
    | succ n4 ih4 =>
      intro w1 x2 hw1 mm H locs ls hf hP hS hl
      rw [F_X4_nextLane_L4] at hf
      cases w1 with
      | none =>
        rw [cq_n] at hf
        have hl : lv_has ls 4 [(0, .ref (ad o)), (1, .null), (2, .int x2)] := hl
        refine lv_iload_n hx hb dX4_nextLane_4 rfl (lv_at hl 2 rfl) ?_
        refine lv_iconst (v := 3) hx hb dX4_nextLane_5 (by decide) ?_
        refine lv_icmp_ge (tgt := 45) hx hb dX4_nextLane_6 (by decide) (fun c35 => ?_) (fun c35 => ?_)
        · rw [if_pos c35] at hf
          refine lv_aload_nN hx hb dX4_nextLane_45 rfl (lv_at hl 1 rfl) ?_
          cases hf
          exact w_aret (r := none) hx hb hr hlocks rfl hP hS dX4_nextLane_46
        · rw [if_neg c35] at hf
          refine lv_aload_n hx hb dX4_nextLane_9 rfl (lv_at hl 0 rfl) ?_
          refine lv_iload_n hx hb dX4_nextLane_10 rfl (lv_at hl 2 rfl) ?_
          rcases oq_e hf with ⟨m37, hq, hf⟩ | ⟨o36, m37, hq, hf⟩
          · refine w_cqN (va_runV (As := [.int x2]) (rest := []) ⟨hx, hb, hml, hown, hts⟩ (c_X4_lane l D ad cI cR hi fu o x2 ho mm none m37 hq) (cwV 1 hts gX4_nextLane_X4_lane rfl rfl rfl (by decide +kernel) ⟨Nat.le_of_ble_eq_true rfl, Nat.le_of_ble_eq_true rfl⟩) (w_preV (ci := 4) hK hP hN ho.1 ho.2.1 rfl) rfl rfl hl.1 rfl (lv_room (Nat.le_of_ble_eq_true rfl)) dX4_nextLane_11 ⟨Nat.zero_le _, Nat.zero_le _⟩) hA hS (fun H locs hP hS => ?_)
            refine lv_astore_nN (lv' := [(3, .null), (0, .ref (ad o)), (1, .null), (2, .int x2)]) hx hb dX4_nextLane_14 rfl hl (by decide) rfl (fun ls hl => ?_)
            refine lv_aload_nN hx hb dX4_nextLane_15 rfl (lv_at hl 0 rfl) ?_
            cases hf
          · have ho36 := (t_X4_lane ad cI cR fu o x2 ho mm o36 m37 hq)
            refine w_cqS (va_runV (As := [.int x2]) (rest := []) ⟨hx, hb, hml, hown, hts⟩ (c_X4_lane l D ad cI cR hi fu o x2 ho mm (some o36) m37 hq) (cwV 1 hts gX4_nextLane_X4_lane rfl rfl rfl (by decide +kernel) ⟨Nat.le_of_ble_eq_true rfl, Nat.le_of_ble_eq_true rfl⟩) (w_preV (ci := 4) hK hP hN ho.1 ho.2.1 rfl) rfl rfl hl.1 rfl (lv_room (Nat.le_of_ble_eq_true rfl)) dX4_nextLane_11 ⟨Nat.zero_le _, Nat.zero_le _⟩) hA hS (fun H locs hP hS => ?_)
            refine lv_astore_n (lv' := [(3, .ref (ad o36)), (0, .ref (ad o)), (1, .null), (2, .int x2)]) hx hb dX4_nextLane_14 rfl hl (by decide) rfl (fun ls hl => ?_)
            refine lv_aload_n hx hb dX4_nextLane_15 rfl (lv_at hl 0 rfl) ?_
            refine w_get (C := RX1) (T := TX1) (N := 7) (ci := 1) (v := .int (m37 o36 3)) hx hb hts hinX1 hown hK hP ho36.1 ho36.2.1 rfl 3 (by decide) (hts (.fieldLink RX4 113 "AdmissionControl$Lane" "length" "I") (List.mem_of_getElem? (i := 1) rfl)) (fun _ h9 => h9) rfl dX4_nextLane_16 ?_
            refine lv_if_le (tgt := 39) hx hb dX4_nextLane_19 (by decide) (fun c38 => ?_) (fun c38 => ?_)
            · rw [if_pos c38] at hf
              obtain ⟨v39, ev39, hf⟩ := bd_e hf
              refine lv_iinc (v := v39) (lv' := [(2, .int v39), (3, .ref (ad o36)), (0, .ref (ad o)), (1, .null)]) hx hb dX4_nextLane_39 hl (k := 3) rfl (by rw [ev39]; rfl) (by decide) rfl (fun ls hl => ?_)
              refine lv_goto (tgt := 4) hx hb dX4_nextLane_42 (by decide) ?_
              exact ih4 none v39 (fun c h => by cases h) m37 _ _ _ hf hP hS (lv_sub hl [2, 3, 0] rfl)
            · rw [if_neg c38] at hf
              refine lv_aload_nN hx hb dX4_nextLane_22 rfl (lv_at hl 2 rfl) ?_
              refine lv_ifnullN (tgt := 37) hx hb dX4_nextLane_23 (by decide) ?_
              refine lv_aload_n hx hb dX4_nextLane_37 rfl (lv_at hl 0 rfl) ?_
              refine lv_astore_n (lv' := [(1, .ref (ad o36)), (3, .ref (ad o36)), (0, .ref (ad o)), (2, .int x2)]) hx hb dX4_nextLane_38 rfl hl (by decide) rfl (fun ls hl => ?_)
              obtain ⟨v40, ev40, hf⟩ := bd_e hf
              refine lv_iinc (v := v40) (lv' := [(2, .int v40), (1, .ref (ad o36)), (3, .ref (ad o36)), (0, .ref (ad o))]) hx hb dX4_nextLane_39 hl (k := 3) rfl (by rw [ev40]; rfl) (by decide) rfl (fun ls hl => ?_)
              refine lv_goto (tgt := 4) hx hb dX4_nextLane_42 (by decide) ?_
              exact ih4 (some o36) v40 (fun c h => by cases h; exact ho36) m37 _ _ _ hf hP hS (lv_sub hl [3, 1, 0] rfl)
      | some u1 =>
        rw [cq_s] at hf
        have hl : lv_has ls 4 [(0, .ref (ad o)), (1, .ref (ad u1)), (2, .int x2)] := hl
        refine lv_iload_n hx hb dX4_nextLane_4 rfl (lv_at hl 2 rfl) ?_
        refine lv_iconst (v := 3) hx hb dX4_nextLane_5 (by decide) ?_
        refine lv_icmp_ge (tgt := 45) hx hb dX4_nextLane_6 (by decide) (fun c41 => ?_) (fun c41 => ?_)
        · rw [if_pos c41] at hf
          refine lv_aload_n hx hb dX4_nextLane_45 rfl (lv_at hl 1 rfl) ?_
          cases hf
          exact w_aret (r := some u1) hx hb hr hlocks rfl hP hS dX4_nextLane_46
        · rw [if_neg c41] at hf
          refine lv_aload_n hx hb dX4_nextLane_9 rfl (lv_at hl 0 rfl) ?_
          refine lv_iload_n hx hb dX4_nextLane_10 rfl (lv_at hl 2 rfl) ?_
          rcases oq_e hf with ⟨m43, hq, hf⟩ | ⟨o42, m43, hq, hf⟩
          · refine w_cqN (va_runV (As := [.int x2]) (rest := []) ⟨hx, hb, hml, hown, hts⟩ (c_X4_lane l D ad cI cR hi fu o x2 ho mm none m43 hq) (cwV 1 hts gX4_nextLane_X4_lane rfl rfl rfl (by decide +kernel) ⟨Nat.le_of_ble_eq_true rfl, Nat.le_of_ble_eq_true rfl⟩) (w_preV (ci := 4) hK hP hN ho.1 ho.2.1 rfl) rfl rfl hl.1 rfl (lv_room (Nat.le_of_ble_eq_true rfl)) dX4_nextLane_11 ⟨Nat.zero_le _, Nat.zero_le _⟩) hA hS (fun H locs hP hS => ?_)
            refine lv_astore_nN (lv' := [(3, .null), (0, .ref (ad o)), (1, .ref (ad u1)), (2, .int x2)]) hx hb dX4_nextLane_14 rfl hl (by decide) rfl (fun ls hl => ?_)
            refine lv_aload_nN hx hb dX4_nextLane_15 rfl (lv_at hl 0 rfl) ?_
            cases hf
          · have ho42 := (t_X4_lane ad cI cR fu o x2 ho mm o42 m43 hq)
            refine w_cqS (va_runV (As := [.int x2]) (rest := []) ⟨hx, hb, hml, hown, hts⟩ (c_X4_lane l D ad cI cR hi fu o x2 ho mm (some o42) m43 hq) (cwV 1 hts gX4_nextLane_X4_lane rfl rfl rfl (by decide +kernel) ⟨Nat.le_of_ble_eq_true rfl, Nat.le_of_ble_eq_true rfl⟩) (w_preV (ci := 4) hK hP hN ho.1 ho.2.1 rfl) rfl rfl hl.1 rfl (lv_room (Nat.le_of_ble_eq_true rfl)) dX4_nextLane_11 ⟨Nat.zero_le _, Nat.zero_le _⟩) hA hS (fun H locs hP hS => ?_)
            refine lv_astore_n (lv' := [(3, .ref (ad o42)), (0, .ref (ad o)), (1, .ref (ad u1)), (2, .int x2)]) hx hb dX4_nextLane_14 rfl hl (by decide) rfl (fun ls hl => ?_)
            refine lv_aload_n hx hb dX4_nextLane_15 rfl (lv_at hl 0 rfl) ?_
            refine w_get (C := RX1) (T := TX1) (N := 7) (ci := 1) (v := .int (m43 o42 3)) hx hb hts hinX1 hown hK hP ho42.1 ho42.2.1 rfl 3 (by decide) (hts (.fieldLink RX4 113 "AdmissionControl$Lane" "length" "I") (List.mem_of_getElem? (i := 1) rfl)) (fun _ h9 => h9) rfl dX4_nextLane_16 ?_
            refine lv_if_le (tgt := 39) hx hb dX4_nextLane_19 (by decide) (fun c44 => ?_) (fun c44 => ?_)
            · rw [if_pos c44] at hf
              obtain ⟨v45, ev45, hf⟩ := bd_e hf
              refine lv_iinc (v := v45) (lv' := [(2, .int v45), (3, .ref (ad o42)), (0, .ref (ad o)), (1, .ref (ad u1))]) hx hb dX4_nextLane_39 hl (k := 3) rfl (by rw [ev45]; rfl) (by decide) rfl (fun ls hl => ?_)
              refine lv_goto (tgt := 4) hx hb dX4_nextLane_42 (by decide) ?_
              exact ih4 (some u1) v45 (fun c h => by cases h; exact (hw1 u1 rfl)) m43 _ _ _ hf hP hS (lv_sub hl [2, 3, 0] rfl)
            · rw [if_neg c44] at hf
              refine lv_aload_n hx hb dX4_nextLane_22 rfl (lv_at hl 2 rfl) ?_
              refine lv_ifnull hx hb dX4_nextLane_23 ?_
              refine lv_aload_n hx hb dX4_nextLane_26 rfl (lv_at hl 0 rfl) ?_
              refine w_get (C := RX1) (T := TX1) (N := 7) (ci := 1) (v := .int (m43 o42 5)) hx hb hts hinX1 hown hK hP ho42.1 ho42.2.1 rfl 5 (by decide) (hts (.fieldLink RX4 178 "AdmissionControl$Lane" "pass" "I") (List.mem_of_getElem? (i := 2) rfl)) (fun _ h9 => h9) rfl dX4_nextLane_27 ?_
              refine lv_aload_n hx hb dX4_nextLane_30 rfl (lv_at hl 2 rfl) ?_
              refine w_get (C := RX1) (T := TX1) (N := 7) (ci := 1) (v := .int (m43 u1 5)) hx hb hts hinX1 hown hK hP (hw1 u1 rfl).1 (hw1 u1 rfl).2.1 rfl 5 (by decide) (hts (.fieldLink RX4 178 "AdmissionControl$Lane" "pass" "I") (List.mem_of_getElem? (i := 2) rfl)) (fun _ h9 => h9) rfl dX4_nextLane_31 ?_
              refine lv_icmp_ge (tgt := 39) hx hb dX4_nextLane_34 (by decide) (fun c46 => ?_) (fun c46 => ?_)
              · rw [if_pos c46] at hf
                obtain ⟨v47, ev47, hf⟩ := bd_e hf
                refine lv_iinc (v := v47) (lv' := [(2, .int v47), (3, .ref (ad o42)), (0, .ref (ad o)), (1, .ref (ad u1))]) hx hb dX4_nextLane_39 hl (k := 3) rfl (by rw [ev47]; rfl) (by decide) rfl (fun ls hl => ?_)
                refine lv_goto (tgt := 4) hx hb dX4_nextLane_42 (by decide) ?_
                exact ih4 (some u1) v47 (fun c h => by cases h; exact (hw1 u1 rfl)) m43 _ _ _ hf hP hS (lv_sub hl [2, 3, 0] rfl)
              · rw [if_neg c46] at hf
                refine lv_aload_n hx hb dX4_nextLane_37 rfl (lv_at hl 0 rfl) ?_
                refine lv_astore_n (lv' := [(1, .ref (ad o42)), (3, .ref (ad o42)), (0, .ref (ad o)), (2, .int x2)]) hx hb dX4_nextLane_38 rfl hl (by decide) rfl (fun ls hl => ?_)
                obtain ⟨v48, ev48, hf⟩ := bd_e hf
                refine lv_iinc (v := v48) (lv' := [(2, .int v48), (1, .ref (ad o42)), (3, .ref (ad o42)), (0, .ref (ad o))]) hx hb dX4_nextLane_39 hl (k := 3) rfl (by rw [ev48]; rfl) (by decide) rfl (fun ls hl => ?_)
                refine lv_goto (tgt := 4) hx hb dX4_nextLane_42 (by decide) ?_
                exact ih4 (some o42) v48 (fun c h => by cases h; exact ho42) m43 _ _ _ hf hP hS (lv_sub hl [3, 1, 0] rfl)
  have hl := lv_entry ([.ref (ad o)]) (n := 4) (Nat.le_of_ble_eq_true rfl)
  rw [lg_entry_eq]
  generalize (lg_sl ([.ref (ad o)]) ++ List.replicate (4 - (lg_sl ([.ref (ad o)])).length) Slot.unset).toArray = ls at hl ⊢
  have hl : lv_has ls 4 [(0, .ref (ad o))] := hl
  unfold F_X4_nextLane at hf
  refine lv_null hx hb dX4_nextLane_0 ?_
  refine lv_astore_nN (lv' := [(1, .null), (0, .ref (ad o))]) hx hb dX4_nextLane_1 rfl hl (by decide) rfl (fun ls hl => ?_)
  refine lv_iconst (v := 0) hx hb dX4_nextLane_2 (by decide) ?_
  refine lv_istore_n (lv' := [(2, .int 0), (1, .null), (0, .ref (ad o))]) hx hb dX4_nextLane_3 rfl hl (by decide) rfl (fun ls hl => ?_)
  exact hL4 fu none 0 (fun c h => by cases h) mm _ _ _ hf hP hS (lv_sub hl [2, 1, 0] rfl)
theorem t_X4_nextLane_L4 (ad : Nat → Nat) (cI cR : ClassId) (fu : Nat) (o : Nat) (ho : sSrv ad cI cR o) : ∀ (n : Nat) (w : Option Nat) (x : Int32) (mm : Mem) (q : Nat) (m1 : Mem), (∀ c, w = some c → sLane ad cI cR c) → F_X4_nextLane_L4 fu o n w x mm = some (some q, m1) → sLane ad cI cR q := by
  intro n
  induction n with
  | zero =>
    intro w x mm q m1 hw hq
    rw [F_X4_nextLane_L4] at hq
    cases hq
  | succ n ih =>
    intro w x mm q m1 hw hq
    rw [F_X4_nextLane_L4] at hq
    cases w with
    | none =>
      rw [cq_n] at hq
      split at hq
      · cases hq
      · rcases oq_e hq with ⟨m2, h1, h2⟩ | ⟨c, m2, h1, h2⟩
        · cases h2
        · have hc := t_X4_lane ad cI cR fu o x ho mm c m2 h1
          split at h2
          · obtain ⟨v, ev, h2⟩ := bd_e h2
            exact ih _ _ _ _ _ (fun c h => by cases h) h2
          · obtain ⟨v, ev, h2⟩ := bd_e h2
            exact ih _ _ _ _ _ (fun c' h => by cases h; exact hc) h2
    | some u =>
      rw [cq_s] at hq
      split at hq
      · cases hq; exact hw q rfl
      · rcases oq_e hq with ⟨m2, h1, h2⟩ | ⟨c, m2, h1, h2⟩
        · cases h2
        · have hc := t_X4_lane ad cI cR fu o x ho mm c m2 h1
          split at h2
          · obtain ⟨v, ev, h2⟩ := bd_e h2
            exact ih _ _ _ _ _ hw h2
          · split at h2
            · obtain ⟨v, ev, h2⟩ := bd_e h2
              exact ih _ _ _ _ _ hw h2
            · obtain ⟨v, ev, h2⟩ := bd_e h2
              exact ih _ _ _ _ _ (fun c' h => by cases h; exact hc) h2
theorem t_X4_nextLane (ad : Nat → Nat) (cI cR : ClassId) (fu : Nat) (o : Nat) (ho : sSrv ad cI cR o) (mm : Mem) (q : Nat) (m1 : Mem) (hq : F_X4_nextLane fu o mm = some (some q, m1)) : sLane ad cI cR q := t_X4_nextLane_L4 ad cI cR fu o ho fu none 0 mm q m1 (fun c h => by cases h) hq
def F_X4_complete (fu : Nat) (o : Nat) (b1 : Nat) (b2 : Nat) (mm : Mem) : Option (Mem) := bd (mput mm b2 4 2) fun m19 => bd (mput m19 b2 10 (m19 o 9)) fun m20 => bd ((m20 o 7) - 1) fun v21 => bd (mput m20 o 7 v21) fun m22 => ov (F_X1_leave fu b1 0 m22) fun m23 => ob (F_X3_at fu (o + 3) 5 (m23 b2 2) m23) fun r24 m25 => bd (16 * (m25 b2 3)) fun v26 => bd (v26 - r24) fun v27 => bd (v27 / 4) fun v28 => bd (r24 + v28) fun v29 => ov (F_X3_put fu (o + 3) 5 (m25 b2 2) v29 m25) fun m30 => if (m30 b2 5) ≤ (m30 b2 3) then (bd ((m30 b2 3) - (m30 b2 5)) fun v32 => bd ((m30 b1 4) - v32) fun v33 => bd (mput m30 b1 4 v33) fun m34 => some m34) else (bd ((m30 b2 5) - (m30 b2 3)) fun v35 => ov (F_X1_gain fu b1 v35 m30) fun m36 => some m36)
set_option maxHeartbeats 4000000 in
set_option maxRecDepth 100000 in
theorem c_X4_complete (l : Launch) (D : va_G) (ad : Nat → Nat) (cI cR : ClassId) (hi : inj ad) (fu : Nat) (o : Nat) (b1 : Nat) (b2 : Nat) (ho : sSrv ad cI cR o) (hb1 : sLane ad cI cR b1) (hb2 : sReq ad cI cR b2) (mm : Mem) (m9 : Mem) (hf : F_X4_complete fu o b1 b2 mm = some m9) : MV l yX4_complete wsX4_complete { frames := 2, cells := 0, slots := 0, locals := 44 } D ad cI cR [.ref (ad o), .ref (ad b1), .ref (ad b2)] mm m9 := by
  refine Met.ofW (cc := cX4_complete) (maxL := 4) (ret := none) (by decide) rfl ?_
  intro p e s m args below meth c s₁ B hml hv
  obtain ⟨rfl, hP, hK, hN⟩ := hv
  have hx := B.exec
  have hb := B.bytes
  have hr := B.returns
  have hts := atoms_spec (ws := wsX4_complete) B.pre
  have hown : s.vm.findClass RX4 = some m.cls := findClass_of_methodNamed B.named
  have hlocks := B.notSynchronized
  have hA : ∀ q, AA ad q → AA ad q := fun _ h => h
  have hS : va_S (AA ad) s.heap s.heap [] := va_S.rf
  have hinX1 : ∀ w ∈ wsX10, w ∈ wsX4_complete := (fun _ h => List.mem_cons_of_mem _ (List.mem_append_left _ (List.mem_append_right _ h)))
  have hinX2 : ∀ w ∈ wsX20, w ∈ wsX4_complete := (fun _ h => List.mem_cons_of_mem _ (List.mem_append_left _ (List.mem_append_left _ (List.mem_append_left _ (List.mem_append_right _ h)))))
  have hinX4 : ∀ w ∈ wsX40, w ∈ wsX4_complete := (fun _ h => List.mem_cons_of_mem _ (List.mem_append_left _ (List.mem_append_left _ (List.mem_append_right _ h))))
  have hl := lv_entry ([.ref (ad o), .ref (ad b1), .ref (ad b2)]) (n := 4) (Nat.le_of_ble_eq_true rfl)
  rw [lg_entry_eq]
  generalize (lg_sl ([.ref (ad o), .ref (ad b1), .ref (ad b2)]) ++ List.replicate (4 - (lg_sl ([.ref (ad o), .ref (ad b1), .ref (ad b2)])).length) Slot.unset).toArray = ls at hl ⊢
  have hl : lv_has ls 4 [(0, .ref (ad o)), (1, .ref (ad b1)), (2, .ref (ad b2))] := hl
  unfold F_X4_complete at hf
  refine lv_aload_n hx hb dX4_complete_0 rfl (lv_at hl 2 rfl) ?_
  refine lv_iconst (v := 2) hx hb dX4_complete_1 (by decide) ?_
  obtain ⟨m19, em19, hf⟩ := bd_e hf
  refine w_put (C := RX2) (T := TX2) (N := 11) (ci := 2) (x := 2) hx hb hts hinX2 tyX2 tyX2_ok nmX2 hown hi hA hK hP hS hb2.1 hb2.2 rfl 4 (by decide) (hts (.fieldLink RX4 172 "AdmissionControl$Request" "state" "I") (List.mem_of_getElem? (i := 1) rfl)) (fun _ h9 => h9) rfl rfl rfl (Nat.le_of_ble_eq_true rfl) rfl dX4_complete_2 (fun H locs hP hS => ?_)
  rw [← em19] at hP
  refine lv_aload_n hx hb dX4_complete_5 rfl (lv_at hl 2 rfl) ?_
  refine lv_aload_n hx hb dX4_complete_6 rfl (lv_at hl 0 rfl) ?_
  refine w_get (C := RX4) (T := TX4) (N := 11) (ci := 4) (v := .int (m19 o 9)) hx hb hts hinX4 hown hK hP ho.1 ho.2.1 rfl 9 (by decide) (hts (.fieldLink RX4 52 "AdmissionControl$Server" "clock" "I") (List.mem_of_getElem? (i := 2) rfl)) (fun _ h9 => h9) rfl dX4_complete_7 ?_
  obtain ⟨m20, em20, hf⟩ := bd_e hf
  refine w_put (C := RX2) (T := TX2) (N := 11) (ci := 2) (x := (m19 o 9)) hx hb hts hinX2 tyX2 tyX2_ok nmX2 hown hi hA hK hP hS hb2.1 hb2.2 rfl 10 (by decide) (hts (.fieldLink RX4 187 "AdmissionControl$Request" "tick" "I") (List.mem_of_getElem? (i := 3) rfl)) (fun _ h9 => h9) rfl rfl rfl (Nat.le_of_ble_eq_true rfl) rfl dX4_complete_10 (fun H locs hP hS => ?_)
  rw [← em20] at hP
  refine lv_aload_n hx hb dX4_complete_13 rfl (lv_at hl 0 rfl) ?_
  refine lv_dup hx hb dX4_complete_14 rfl ?_
  refine w_get (C := RX4) (T := TX4) (N := 11) (ci := 4) (v := .int (m20 o 7)) hx hb hts hinX4 hown hK hP ho.1 ho.2.1 rfl 7 (by decide) (hts (.fieldLink RX4 46 "AdmissionControl$Server" "open" "I") (List.mem_of_getElem? (i := 4) rfl)) (fun _ h9 => h9) rfl dX4_complete_15 ?_
  refine lv_iconst (v := 1) hx hb dX4_complete_18 (by decide) ?_
  obtain ⟨v21, ev21, hf⟩ := bd_e hf
  refine lv_isub hx hb dX4_complete_19 ?_
  refine w_top ev21 ?_
  obtain ⟨m22, em22, hf⟩ := bd_e hf
  refine w_put (C := RX4) (T := TX4) (N := 11) (ci := 4) (x := v21) hx hb hts hinX4 tyX4 tyX4_ok nmX4 hown hi hA hK hP hS ho.1 ho.2.1 rfl 7 (by decide) (hts (.fieldLink RX4 46 "AdmissionControl$Server" "open" "I") (List.mem_of_getElem? (i := 4) rfl)) (fun _ h9 => h9) rfl rfl rfl (Nat.le_of_ble_eq_true rfl) rfl dX4_complete_20 (fun H locs hP hS => ?_)
  rw [← em22] at hP
  refine lv_aload_n hx hb dX4_complete_23 rfl (lv_at hl 1 rfl) ?_
  refine lv_iconst (v := 0) hx hb dX4_complete_24 (by decide) ?_
  obtain ⟨m23, hq, hf⟩ := ov_e hf
  refine w_cv (va_runV (As := [.int 0]) (rest := []) ⟨hx, hb, hml, hown, hts⟩ (c_X1_leave l D ad cI cR hi fu b1 0 hb1 m22 m23 hq) (cwV 1 hts gX4_complete_X1_leave rfl rfl rfl (by decide +kernel) ⟨Nat.le_of_ble_eq_true rfl, Nat.le_of_ble_eq_true rfl⟩) (w_preV (ci := 1) hK hP hN hb1.1 hb1.2.1 rfl) rfl rfl hl.1 rfl (lv_room (Nat.le_of_ble_eq_true rfl)) dX4_complete_25 ⟨Nat.zero_le _, Nat.zero_le _⟩) hA hS (fun H locs hP hS => ?_)
  refine lv_aload_n hx hb dX4_complete_28 rfl (lv_at hl 0 rfl) ?_
  refine w_get (C := RX4) (T := TX4) (N := 11) (ci := 4) (v := .ref (ad (o + 3))) hx hb hts hinX4 hown hK hP ho.1 ho.2.1 rfl 1 (by decide) (hts (.fieldLink RX4 20 "AdmissionControl$Server" "estimates" "LAdmissionControl$Row;") (List.mem_of_getElem? (i := 5) rfl)) (fun _ h9 => h9) rfl dX4_complete_29 ?_
  refine lv_aload_n hx hb dX4_complete_32 rfl (lv_at hl 2 rfl) ?_
  refine w_get (C := RX2) (T := TX2) (N := 11) (ci := 2) (v := .int (m23 b2 2)) hx hb hts hinX2 hown hK hP hb2.1 hb2.2 rfl 2 (by decide) (hts (.fieldLink RX4 136 "AdmissionControl$Request" "shape" "I") (List.mem_of_getElem? (i := 6) rfl)) (fun _ h9 => h9) rfl dX4_complete_33 ?_
  obtain ⟨r24, m25, hq, hf⟩ := ob_e hf
  refine w_ci (va_runV (As := [.int (m23 b2 2)]) (rest := []) ⟨hx, hb, hml, hown, hts⟩ (c_X3_at l D ad cI cR hi fu (o + 3) 5 (m23 b2 2) ho.2.2.2.1 m23 r24 m25 hq) (cwV 1 hts gX4_complete_X3_at rfl rfl rfl (by decide +kernel) ⟨Nat.le_of_ble_eq_true rfl, Nat.le_of_ble_eq_true rfl⟩) (w_preV (ci := 3) hK hP hN ho.2.2.2.1.1 ho.2.2.2.1.2.1 rfl) rfl rfl hl.1 rfl (lv_room (Nat.le_of_ble_eq_true rfl)) dX4_complete_36 ⟨Nat.zero_le _, Nat.zero_le _⟩) hA hS (fun H locs hP hS => ?_)
  refine lv_istore_n (lv' := [(3, .int r24), (0, .ref (ad o)), (1, .ref (ad b1)), (2, .ref (ad b2))]) hx hb dX4_complete_39 rfl hl (by decide) rfl (fun ls hl => ?_)
  refine lv_aload_n hx hb dX4_complete_40 rfl (lv_at hl 1 rfl) ?_
  refine w_get (C := RX4) (T := TX4) (N := 11) (ci := 4) (v := .ref (ad (o + 3))) hx hb hts hinX4 hown hK hP ho.1 ho.2.1 rfl 1 (by decide) (hts (.fieldLink RX4 20 "AdmissionControl$Server" "estimates" "LAdmissionControl$Row;") (List.mem_of_getElem? (i := 5) rfl)) (fun _ h9 => h9) rfl dX4_complete_41 ?_
  refine lv_aload_n hx hb dX4_complete_44 rfl (lv_at hl 3 rfl) ?_
  refine w_get (C := RX2) (T := TX2) (N := 11) (ci := 2) (v := .int (m25 b2 2)) hx hb hts hinX2 hown hK hP hb2.1 hb2.2 rfl 2 (by decide) (hts (.fieldLink RX4 136 "AdmissionControl$Request" "shape" "I") (List.mem_of_getElem? (i := 6) rfl)) (fun _ h9 => h9) rfl dX4_complete_45 ?_
  refine lv_iload_n hx hb dX4_complete_48 rfl (lv_at hl 0 rfl) ?_
  refine lv_bipush (v := 16) hx hb dX4_complete_49 (by decide) ?_
  refine lv_aload_n hx hb dX4_complete_51 rfl (lv_at hl 3 rfl) ?_
  refine w_get (C := RX2) (T := TX2) (N := 11) (ci := 2) (v := .int (m25 b2 3)) hx hb hts hinX2 hown hK hP hb2.1 hb2.2 rfl 3 (by decide) (hts (.fieldLink RX4 210 "AdmissionControl$Request" "cost" "I") (List.mem_of_getElem? (i := 7) rfl)) (fun _ h9 => h9) rfl dX4_complete_52 ?_
  obtain ⟨v26, ev26, hf⟩ := bd_e hf
  refine lv_imul hx hb dX4_complete_55 ?_
  refine w_top ev26 ?_
  refine lv_iload_n hx hb dX4_complete_56 rfl (lv_at hl 0 rfl) ?_
  obtain ⟨v27, ev27, hf⟩ := bd_e hf
  refine lv_isub hx hb dX4_complete_57 ?_
  refine w_top ev27 ?_
  refine lv_iconst (v := 4) hx hb dX4_complete_58 (by decide) ?_
  obtain ⟨v28, ev28, hf⟩ := bd_e hf
  refine lv_idiv hx hb dX4_complete_59 (by decide) ?_
  refine w_top ev28 ?_
  obtain ⟨v29, ev29, hf⟩ := bd_e hf
  refine lv_iadd hx hb dX4_complete_60 ?_
  refine w_top ev29 ?_
  obtain ⟨m30, hq, hf⟩ := ov_e hf
  refine w_cv (va_runV (As := [.int (m25 b2 2), .int v29]) (rest := []) ⟨hx, hb, hml, hown, hts⟩ (c_X3_put l D ad cI cR hi fu (o + 3) 5 (m25 b2 2) v29 ho.2.2.2.1 m25 m30 hq) (cwV 2 hts gX4_complete_X3_put rfl rfl rfl (by decide +kernel) ⟨Nat.le_of_ble_eq_true rfl, Nat.le_of_ble_eq_true rfl⟩) (w_preV (ci := 3) hK hP hN ho.2.2.2.1.1 ho.2.2.2.1.2.1 rfl) rfl rfl hl.1 rfl (lv_room (Nat.le_of_ble_eq_true rfl)) dX4_complete_61 ⟨Nat.zero_le _, Nat.zero_le _⟩) hA hS (fun H locs hP hS => ?_)
  refine lv_aload_n hx hb dX4_complete_64 rfl (lv_at hl 3 rfl) ?_
  refine w_get (C := RX2) (T := TX2) (N := 11) (ci := 2) (v := .int (m30 b2 5)) hx hb hts hinX2 hown hK hP hb2.1 hb2.2 rfl 5 (by decide) (hts (.fieldLink RX4 119 "AdmissionControl$Request" "price" "I") (List.mem_of_getElem? (i := 8) rfl)) (fun _ h9 => h9) rfl dX4_complete_65 ?_
  refine lv_aload_n hx hb dX4_complete_68 rfl (lv_at hl 3 rfl) ?_
  refine w_get (C := RX2) (T := TX2) (N := 11) (ci := 2) (v := .int (m30 b2 3)) hx hb hts hinX2 hown hK hP hb2.1 hb2.2 rfl 3 (by decide) (hts (.fieldLink RX4 210 "AdmissionControl$Request" "cost" "I") (List.mem_of_getElem? (i := 7) rfl)) (fun _ h9 => h9) rfl dX4_complete_69 ?_
  refine lv_icmp_le (tgt := 91) hx hb dX4_complete_72 (by decide) (fun c31 => ?_) (fun c31 => ?_)
  · rw [if_pos c31] at hf
    refine lv_aload_n hx hb dX4_complete_91 rfl (lv_at hl 2 rfl) ?_
    refine lv_dup hx hb dX4_complete_92 rfl ?_
    refine w_get (C := RX1) (T := TX1) (N := 7) (ci := 1) (v := .int (m30 b1 4)) hx hb hts hinX1 hown hK hP hb1.1 hb1.2.1 rfl 4 (by decide) (hts (.fieldLink RX4 133 "AdmissionControl$Lane" "tokens" "I") (List.mem_of_getElem? (i := 9) rfl)) (fun _ h9 => h9) rfl dX4_complete_93 ?_
    refine lv_aload_n hx hb dX4_complete_96 rfl (lv_at hl 3 rfl) ?_
    refine w_get (C := RX2) (T := TX2) (N := 11) (ci := 2) (v := .int (m30 b2 3)) hx hb hts hinX2 hown hK hP hb2.1 hb2.2 rfl 3 (by decide) (hts (.fieldLink RX4 210 "AdmissionControl$Request" "cost" "I") (List.mem_of_getElem? (i := 7) rfl)) (fun _ h9 => h9) rfl dX4_complete_97 ?_
    refine lv_aload_n hx hb dX4_complete_100 rfl (lv_at hl 3 rfl) ?_
    refine w_get (C := RX2) (T := TX2) (N := 11) (ci := 2) (v := .int (m30 b2 5)) hx hb hts hinX2 hown hK hP hb2.1 hb2.2 rfl 5 (by decide) (hts (.fieldLink RX4 119 "AdmissionControl$Request" "price" "I") (List.mem_of_getElem? (i := 8) rfl)) (fun _ h9 => h9) rfl dX4_complete_101 ?_
    obtain ⟨v32, ev32, hf⟩ := bd_e hf
    refine lv_isub hx hb dX4_complete_104 ?_
    refine w_top ev32 ?_
    obtain ⟨v33, ev33, hf⟩ := bd_e hf
    refine lv_isub hx hb dX4_complete_105 ?_
    refine w_top ev33 ?_
    obtain ⟨m34, em34, hf⟩ := bd_e hf
    refine w_put (C := RX1) (T := TX1) (N := 7) (ci := 1) (x := v33) hx hb hts hinX1 tyX1 tyX1_ok nmX1 hown hi hA hK hP hS hb1.1 hb1.2.1 rfl 4 (by decide) (hts (.fieldLink RX4 133 "AdmissionControl$Lane" "tokens" "I") (List.mem_of_getElem? (i := 9) rfl)) (fun _ h9 => h9) rfl rfl rfl (Nat.le_of_ble_eq_true rfl) rfl dX4_complete_106 (fun H locs hP hS => ?_)
    rw [← em34] at hP
    cases hf
    exact w_vret hx hb hr hlocks hP hS dX4_complete_109
  · rw [if_neg c31] at hf
    refine lv_aload_n hx hb dX4_complete_75 rfl (lv_at hl 2 rfl) ?_
    refine lv_aload_n hx hb dX4_complete_76 rfl (lv_at hl 3 rfl) ?_
    refine w_get (C := RX2) (T := TX2) (N := 11) (ci := 2) (v := .int (m30 b2 5)) hx hb hts hinX2 hown hK hP hb2.1 hb2.2 rfl 5 (by decide) (hts (.fieldLink RX4 119 "AdmissionControl$Request" "price" "I") (List.mem_of_getElem? (i := 8) rfl)) (fun _ h9 => h9) rfl dX4_complete_77 ?_
    refine lv_aload_n hx hb dX4_complete_80 rfl (lv_at hl 3 rfl) ?_
    refine w_get (C := RX2) (T := TX2) (N := 11) (ci := 2) (v := .int (m30 b2 3)) hx hb hts hinX2 hown hK hP hb2.1 hb2.2 rfl 3 (by decide) (hts (.fieldLink RX4 210 "AdmissionControl$Request" "cost" "I") (List.mem_of_getElem? (i := 7) rfl)) (fun _ h9 => h9) rfl dX4_complete_81 ?_
    obtain ⟨v35, ev35, hf⟩ := bd_e hf
    refine lv_isub hx hb dX4_complete_84 ?_
    refine w_top ev35 ?_
    obtain ⟨m36, hq, hf⟩ := ov_e hf
    refine w_cv (va_runV (As := [.int v35]) (rest := []) ⟨hx, hb, hml, hown, hts⟩ (c_X1_gain l D ad cI cR hi fu b1 v35 hb1 m30 m36 hq) (cwV 1 hts gX4_complete_X1_gain rfl rfl rfl (by decide +kernel) ⟨Nat.le_of_ble_eq_true rfl, Nat.le_of_ble_eq_true rfl⟩) (w_preV (ci := 1) hK hP hN hb1.1 hb1.2.1 rfl) rfl rfl hl.1 rfl (lv_room (Nat.le_of_ble_eq_true rfl)) dX4_complete_85 ⟨Nat.zero_le _, Nat.zero_le _⟩) hA hS (fun H locs hP hS => ?_)
    refine lv_goto (tgt := 109) hx hb dX4_complete_88 (by decide) ?_
    cases hf
    exact w_vret hx hb hr hlocks hP hS dX4_complete_109
def F_X4_workOneUnit (fu : Nat) (o : Nat) (mm : Mem) : Option (Int32 × Mem) := oq (F_X4_nextLane fu o mm) (fun m23 => bd ((m23 o 10) + 1) fun v24 => bd (mput m23 o 10 v24) fun m25 => some (0, m25)) (fun o22 m23 => bd ((m23 o22 6) + 1) fun v26 => bd (mput m23 o22 6 v26) fun m27 => ob (F_X3_at fu (o22 + 1) 4 0 m27) fun r28 m29 => ob (F_X6_quotient fu 2520 r28 m29) fun r30 m31 => bd ((m27 o22 5) + r30) fun v32 => bd (mput m31 o22 5 v32) fun m33 => ob (F_X3_at fu (o22 + 5) 8 0 m33) fun r34 m35 => oq (F_X4_find fu o r34 m35) (fun m37 => some (0, m37)) (fun o36 m37 => bd ((m37 o36 6) + 1) fun v38 => bd (mput m37 o36 6 v38) fun m39 => bd (mput m39 o36 4 1) fun m40 => if (m40 o36 3) ≤ (m40 o36 6) then (ov (F_X4_complete fu o o22 o36 m40) fun m42 => some (1, m42)) else (some (0, m40))))
set_option maxHeartbeats 4000000 in
set_option maxRecDepth 100000 in
theorem c_X4_workOneUnit (l : Launch) (D : va_G) (ad : Nat → Nat) (cI cR : ClassId) (hi : inj ad) (fu : Nat) (o : Nat) (ho : sSrv ad cI cR o) (mm : Mem) (r0 : Int32) (m9 : Mem) (hf : F_X4_workOneUnit fu o mm = some (r0, m9)) : MI l yX4_workOneUnit wsX4_workOneUnit { frames := 3, cells := 0, slots := 0, locals := 67 } D ad cI cR [.ref (ad o)] mm r0 m9 := by
  refine Met.ofW (cc := cX4_workOneUnit) (maxL := 3) (ret := (some .int)) (by decide) rfl ?_
  intro p e s m args below meth c s₁ B hml hv
  obtain ⟨rfl, hP, hK, hN⟩ := hv
  have hx := B.exec
  have hb := B.bytes
  have hr := B.returns
  have hts := atoms_spec (ws := wsX4_workOneUnit) B.pre
  have hown : s.vm.findClass RX4 = some m.cls := findClass_of_methodNamed B.named
  have hlocks := B.notSynchronized
  have hA : ∀ q, AA ad q → AA ad q := fun _ h => h
  have hS : va_S (AA ad) s.heap s.heap [] := va_S.rf
  have hinX1 : ∀ w ∈ wsX10, w ∈ wsX4_workOneUnit := (fun _ h => List.mem_cons_of_mem _ (List.mem_append_left _ (List.mem_append_left _ (List.mem_append_right _ h))))
  have hinX2 : ∀ w ∈ wsX20, w ∈ wsX4_workOneUnit := (fun _ h => List.mem_cons_of_mem _ (List.mem_append_left _ (List.mem_append_right _ h)))
  have hinX4 : ∀ w ∈ wsX40, w ∈ wsX4_workOneUnit := (fun _ h => List.mem_cons_of_mem _ (List.mem_append_left _ (List.mem_append_left _ (List.mem_append_left _ (List.mem_append_right _ h)))))
  have hl := lv_entry ([.ref (ad o)]) (n := 3) (Nat.le_of_ble_eq_true rfl)
  rw [lg_entry_eq]
  generalize (lg_sl ([.ref (ad o)]) ++ List.replicate (3 - (lg_sl ([.ref (ad o)])).length) Slot.unset).toArray = ls at hl ⊢
  have hl : lv_has ls 3 [(0, .ref (ad o))] := hl
  unfold F_X4_workOneUnit at hf
  refine lv_aload_n hx hb dX4_workOneUnit_0 rfl (lv_at hl 0 rfl) ?_
  rcases oq_e hf with ⟨m23, hq, hf⟩ | ⟨o22, m23, hq, hf⟩
  · refine w_cqN (va_runV (As := []) (rest := []) ⟨hx, hb, hml, hown, hts⟩ (c_X4_nextLane l D ad cI cR hi fu o ho mm none m23 hq) (cwV 0 hts gX4_workOneUnit_X4_nextLane rfl rfl rfl (by decide +kernel) ⟨Nat.le_of_ble_eq_true rfl, Nat.le_of_ble_eq_true rfl⟩) (w_preV (ci := 4) hK hP hN ho.1 ho.2.1 rfl) rfl rfl hl.1 rfl (lv_room (Nat.le_of_ble_eq_true rfl)) dX4_workOneUnit_1 ⟨Nat.zero_le _, Nat.zero_le _⟩) hA hS (fun H locs hP hS => ?_)
    refine lv_astore_nN (lv' := [(1, .null), (0, .ref (ad o))]) hx hb dX4_workOneUnit_4 rfl hl (by decide) rfl (fun ls hl => ?_)
    refine lv_aload_nN hx hb dX4_workOneUnit_5 rfl (lv_at hl 0 rfl) ?_
    refine lv_ifnonnullN hx hb dX4_workOneUnit_6 ?_
    refine lv_aload_n hx hb dX4_workOneUnit_9 rfl (lv_at hl 1 rfl) ?_
    refine lv_dup hx hb dX4_workOneUnit_10 rfl ?_
    refine w_get (C := RX4) (T := TX4) (N := 11) (ci := 4) (v := .int (m23 o 10)) hx hb hts hinX4 hown hK hP ho.1 ho.2.1 rfl 10 (by decide) (hts (.fieldLink RX4 55 "AdmissionControl$Server" "idle" "I") (List.mem_of_getElem? (i := 1) rfl)) (fun _ h9 => h9) rfl dX4_workOneUnit_11 ?_
    refine lv_iconst (v := 1) hx hb dX4_workOneUnit_14 (by decide) ?_
    obtain ⟨v24, ev24, hf⟩ := bd_e hf
    refine lv_iadd hx hb dX4_workOneUnit_15 ?_
    refine w_top ev24 ?_
    obtain ⟨m25, em25, hf⟩ := bd_e hf
    refine w_put (C := RX4) (T := TX4) (N := 11) (ci := 4) (x := v24) hx hb hts hinX4 tyX4 tyX4_ok nmX4 hown hi hA hK hP hS ho.1 ho.2.1 rfl 10 (by decide) (hts (.fieldLink RX4 55 "AdmissionControl$Server" "idle" "I") (List.mem_of_getElem? (i := 1) rfl)) (fun _ h9 => h9) rfl rfl rfl (Nat.le_of_ble_eq_true rfl) rfl dX4_workOneUnit_16 (fun H locs hP hS => ?_)
    rw [← em25] at hP
    refine lv_iconst (v := 0) hx hb dX4_workOneUnit_19 (by decide) ?_
    cases hf
    exact w_iret hx hb hr hlocks hP hS dX4_workOneUnit_20
  · have ho22 := (t_X4_nextLane ad cI cR fu o ho mm o22 m23 hq)
    refine w_cqS (va_runV (As := []) (rest := []) ⟨hx, hb, hml, hown, hts⟩ (c_X4_nextLane l D ad cI cR hi fu o ho mm (some o22) m23 hq) (cwV 0 hts gX4_workOneUnit_X4_nextLane rfl rfl rfl (by decide +kernel) ⟨Nat.le_of_ble_eq_true rfl, Nat.le_of_ble_eq_true rfl⟩) (w_preV (ci := 4) hK hP hN ho.1 ho.2.1 rfl) rfl rfl hl.1 rfl (lv_room (Nat.le_of_ble_eq_true rfl)) dX4_workOneUnit_1 ⟨Nat.zero_le _, Nat.zero_le _⟩) hA hS (fun H locs hP hS => ?_)
    refine lv_astore_n (lv' := [(1, .ref (ad o22)), (0, .ref (ad o))]) hx hb dX4_workOneUnit_4 rfl hl (by decide) rfl (fun ls hl => ?_)
    refine lv_aload_n hx hb dX4_workOneUnit_5 rfl (lv_at hl 0 rfl) ?_
    refine lv_ifnonnull (tgt := 21) hx hb dX4_workOneUnit_6 (by decide) ?_
    refine lv_aload_n hx hb dX4_workOneUnit_21 rfl (lv_at hl 0 rfl) ?_
    refine lv_dup hx hb dX4_workOneUnit_22 rfl ?_
    refine w_get (C := RX1) (T := TX1) (N := 7) (ci := 1) (v := .int (m23 o22 6)) hx hb hts hinX1 hown hK hP ho22.1 ho22.2.1 rfl 6 (by decide) (hts (.fieldLink RX4 209 "AdmissionControl$Lane" "units" "I") (List.mem_of_getElem? (i := 2) rfl)) (fun _ h9 => h9) rfl dX4_workOneUnit_23 ?_
    refine lv_iconst (v := 1) hx hb dX4_workOneUnit_26 (by decide) ?_
    obtain ⟨v26, ev26, hf⟩ := bd_e hf
    refine lv_iadd hx hb dX4_workOneUnit_27 ?_
    refine w_top ev26 ?_
    obtain ⟨m27, em27, hf⟩ := bd_e hf
    refine w_put (C := RX1) (T := TX1) (N := 7) (ci := 1) (x := v26) hx hb hts hinX1 tyX1 tyX1_ok nmX1 hown hi hA hK hP hS ho22.1 ho22.2.1 rfl 6 (by decide) (hts (.fieldLink RX4 209 "AdmissionControl$Lane" "units" "I") (List.mem_of_getElem? (i := 2) rfl)) (fun _ h9 => h9) rfl rfl rfl (Nat.le_of_ble_eq_true rfl) rfl dX4_workOneUnit_28 (fun H locs hP hS => ?_)
    rw [← em27] at hP
    refine lv_aload_n hx hb dX4_workOneUnit_31 rfl (lv_at hl 0 rfl) ?_
    refine lv_dup hx hb dX4_workOneUnit_32 rfl ?_
    refine w_get (C := RX1) (T := TX1) (N := 7) (ci := 1) (v := .int (m27 o22 5)) hx hb hts hinX1 hown hK hP ho22.1 ho22.2.1 rfl 5 (by decide) (hts (.fieldLink RX4 178 "AdmissionControl$Lane" "pass" "I") (List.mem_of_getElem? (i := 3) rfl)) (fun _ h9 => h9) rfl dX4_workOneUnit_33 ?_
    refine lv_sipush (v := 2520) hx hb dX4_workOneUnit_36 (by decide) ?_
    refine lv_aload_n hx hb dX4_workOneUnit_39 rfl (lv_at hl 0 rfl) ?_
    refine w_get (C := RX1) (T := TX1) (N := 7) (ci := 1) (v := .ref (ad (o22 + 1))) hx hb hts hinX1 hown hK hP ho22.1 ho22.2.1 rfl 0 (by decide) (hts (.fieldLink RX4 125 "AdmissionControl$Lane" "settings" "LAdmissionControl$Row;") (List.mem_of_getElem? (i := 4) rfl)) (fun _ h9 => h9) rfl dX4_workOneUnit_40 ?_
    refine lv_iconst (v := 0) hx hb dX4_workOneUnit_43 (by decide) ?_
    obtain ⟨r28, m29, hq, hf⟩ := ob_e hf
    refine w_ci (va_runV (As := [.int 0]) (rest := [.int 2520, .int (m27 o22 5), .ref (ad o22)]) ⟨hx, hb, hml, hown, hts⟩ (c_X3_at l D ad cI cR hi fu (o22 + 1) 4 0 ho22.2.2.1 m27 r28 m29 hq) (cwV 1 hts gX4_workOneUnit_X3_at rfl rfl rfl (by decide +kernel) ⟨Nat.le_of_ble_eq_true rfl, Nat.le_of_ble_eq_true rfl⟩) (w_preV (ci := 3) hK hP hN ho22.2.2.1.1 ho22.2.2.1.2.1 rfl) rfl rfl hl.1 rfl (lv_room (Nat.le_of_ble_eq_true rfl)) dX4_workOneUnit_44 ⟨Nat.zero_le _, Nat.zero_le _⟩) hA hS (fun H locs hP hS => ?_)
    obtain ⟨r30, m31, hq, hf⟩ := ob_e hf
    refine w_ci (va_runSN (As := [.int 2520, .int r28]) (rest := [.int (m27 o22 5), .ref (ad o22)]) ⟨hx, hb, hml, hown, hts⟩ (c_X6_quotient l D ad cI cR hi fu 2520 r28 m29 r30 m31 hq) ⟨va_cnB 2 hts gX4_workOneUnit_X6_quotient_n130 rfl rfl rfl hN.2.2.2.1 (hts (.initialized RX6) (List.mem_of_getElem? (i := 29) rfl)) (by decide +kernel) ⟨Nat.le_of_ble_eq_true rfl, Nat.le_of_ble_eq_true rfl⟩, (hts (.static yX6_quotient) (List.mem_of_getElem? (i := 28) rfl)), trivial⟩ (w_preS hK hP hN) rfl rfl hl.1 rfl (lv_room (Nat.le_of_ble_eq_true rfl)) dX4_workOneUnit_47 ⟨Nat.zero_le _, Nat.zero_le _⟩) hA hS (fun H locs hP hS => ?_)
    obtain ⟨v32, ev32, hf⟩ := bd_e hf
    refine lv_iadd hx hb dX4_workOneUnit_50 ?_
    refine w_top ev32 ?_
    obtain ⟨m33, em33, hf⟩ := bd_e hf
    refine w_put (C := RX1) (T := TX1) (N := 7) (ci := 1) (x := v32) hx hb hts hinX1 tyX1 tyX1_ok nmX1 hown hi hA hK hP hS ho22.1 ho22.2.1 rfl 5 (by decide) (hts (.fieldLink RX4 178 "AdmissionControl$Lane" "pass" "I") (List.mem_of_getElem? (i := 3) rfl)) (fun _ h9 => h9) rfl rfl rfl (Nat.le_of_ble_eq_true rfl) rfl dX4_workOneUnit_51 (fun H locs hP hS => ?_)
    rw [← em33] at hP
    refine lv_aload_n hx hb dX4_workOneUnit_54 rfl (lv_at hl 1 rfl) ?_
    refine lv_aload_n hx hb dX4_workOneUnit_55 rfl (lv_at hl 0 rfl) ?_
    refine w_get (C := RX1) (T := TX1) (N := 7) (ci := 1) (v := .ref (ad (o22 + 5))) hx hb hts hinX1 hown hK hP ho22.1 ho22.2.1 rfl 2 (by decide) (hts (.fieldLink RX4 116 "AdmissionControl$Lane" "queue" "LAdmissionControl$Row;") (List.mem_of_getElem? (i := 5) rfl)) (fun _ h9 => h9) rfl dX4_workOneUnit_56 ?_
    refine lv_iconst (v := 0) hx hb dX4_workOneUnit_59 (by decide) ?_
    obtain ⟨r34, m35, hq, hf⟩ := ob_e hf
    refine w_ci (va_runV (As := [.int 0]) (rest := [.ref (ad o)]) ⟨hx, hb, hml, hown, hts⟩ (c_X3_at l D ad cI cR hi fu (o22 + 5) 8 0 ho22.2.2.2.2 m33 r34 m35 hq) (cwV 1 hts gX4_workOneUnit_X3_at rfl rfl rfl (by decide +kernel) ⟨Nat.le_of_ble_eq_true rfl, Nat.le_of_ble_eq_true rfl⟩) (w_preV (ci := 3) hK hP hN ho22.2.2.2.2.1 ho22.2.2.2.2.2.1 rfl) rfl rfl hl.1 rfl (lv_room (Nat.le_of_ble_eq_true rfl)) dX4_workOneUnit_60 ⟨Nat.zero_le _, Nat.zero_le _⟩) hA hS (fun H locs hP hS => ?_)
    rcases oq_e hf with ⟨m37, hq, hf⟩ | ⟨o36, m37, hq, hf⟩
    · refine w_cqN (va_runV (As := [.int r34]) (rest := []) ⟨hx, hb, hml, hown, hts⟩ (c_X4_find l D ad cI cR hi fu o r34 ho m35 none m37 hq) (cwV 1 hts gX4_workOneUnit_X4_find rfl rfl rfl (by decide +kernel) ⟨Nat.le_of_ble_eq_true rfl, Nat.le_of_ble_eq_true rfl⟩) (w_preV (ci := 4) hK hP hN ho.1 ho.2.1 rfl) rfl rfl hl.1 rfl (lv_room (Nat.le_of_ble_eq_true rfl)) dX4_workOneUnit_63 ⟨Nat.zero_le _, Nat.zero_le _⟩) hA hS (fun H locs hP hS => ?_)
      refine lv_astore_nN (lv' := [(2, .null), (1, .ref (ad o22)), (0, .ref (ad o))]) hx hb dX4_workOneUnit_66 rfl hl (by decide) rfl (fun ls hl => ?_)
      refine lv_aload_nN hx hb dX4_workOneUnit_67 rfl (lv_at hl 0 rfl) ?_
      refine lv_ifnonnullN hx hb dX4_workOneUnit_68 ?_
      refine lv_iconst (v := 0) hx hb dX4_workOneUnit_71 (by decide) ?_
      cases hf
      exact w_iret hx hb hr hlocks hP hS dX4_workOneUnit_72
    · have ho36 := (t_X4_find ad cI cR fu o r34 ho m35 o36 m37 hq)
      refine w_cqS (va_runV (As := [.int r34]) (rest := []) ⟨hx, hb, hml, hown, hts⟩ (c_X4_find l D ad cI cR hi fu o r34 ho m35 (some o36) m37 hq) (cwV 1 hts gX4_workOneUnit_X4_find rfl rfl rfl (by decide +kernel) ⟨Nat.le_of_ble_eq_true rfl, Nat.le_of_ble_eq_true rfl⟩) (w_preV (ci := 4) hK hP hN ho.1 ho.2.1 rfl) rfl rfl hl.1 rfl (lv_room (Nat.le_of_ble_eq_true rfl)) dX4_workOneUnit_63 ⟨Nat.zero_le _, Nat.zero_le _⟩) hA hS (fun H locs hP hS => ?_)
      refine lv_astore_n (lv' := [(2, .ref (ad o36)), (1, .ref (ad o22)), (0, .ref (ad o))]) hx hb dX4_workOneUnit_66 rfl hl (by decide) rfl (fun ls hl => ?_)
      refine lv_aload_n hx hb dX4_workOneUnit_67 rfl (lv_at hl 0 rfl) ?_
      refine lv_ifnonnull (tgt := 73) hx hb dX4_workOneUnit_68 (by decide) ?_
      refine lv_aload_n hx hb dX4_workOneUnit_73 rfl (lv_at hl 0 rfl) ?_
      refine lv_dup hx hb dX4_workOneUnit_74 rfl ?_
      refine w_get (C := RX2) (T := TX2) (N := 11) (ci := 2) (v := .int (m37 o36 6)) hx hb hts hinX2 hown hK hP ho36.1 ho36.2 rfl 6 (by decide) (hts (.fieldLink RX4 122 "AdmissionControl$Request" "units" "I") (List.mem_of_getElem? (i := 6) rfl)) (fun _ h9 => h9) rfl dX4_workOneUnit_75 ?_
      refine lv_iconst (v := 1) hx hb dX4_workOneUnit_78 (by decide) ?_
      obtain ⟨v38, ev38, hf⟩ := bd_e hf
      refine lv_iadd hx hb dX4_workOneUnit_79 ?_
      refine w_top ev38 ?_
      obtain ⟨m39, em39, hf⟩ := bd_e hf
      refine w_put (C := RX2) (T := TX2) (N := 11) (ci := 2) (x := v38) hx hb hts hinX2 tyX2 tyX2_ok nmX2 hown hi hA hK hP hS ho36.1 ho36.2 rfl 6 (by decide) (hts (.fieldLink RX4 122 "AdmissionControl$Request" "units" "I") (List.mem_of_getElem? (i := 6) rfl)) (fun _ h9 => h9) rfl rfl rfl (Nat.le_of_ble_eq_true rfl) rfl dX4_workOneUnit_80 (fun H locs hP hS => ?_)
      rw [← em39] at hP
      refine lv_aload_n hx hb dX4_workOneUnit_83 rfl (lv_at hl 0 rfl) ?_
      refine lv_iconst (v := 1) hx hb dX4_workOneUnit_84 (by decide) ?_
      obtain ⟨m40, em40, hf⟩ := bd_e hf
      refine w_put (C := RX2) (T := TX2) (N := 11) (ci := 2) (x := 1) hx hb hts hinX2 tyX2 tyX2_ok nmX2 hown hi hA hK hP hS ho36.1 ho36.2 rfl 4 (by decide) (hts (.fieldLink RX4 172 "AdmissionControl$Request" "state" "I") (List.mem_of_getElem? (i := 7) rfl)) (fun _ h9 => h9) rfl rfl rfl (Nat.le_of_ble_eq_true rfl) rfl dX4_workOneUnit_85 (fun H locs hP hS => ?_)
      rw [← em40] at hP
      refine lv_aload_n hx hb dX4_workOneUnit_88 rfl (lv_at hl 0 rfl) ?_
      refine w_get (C := RX2) (T := TX2) (N := 11) (ci := 2) (v := .int (m40 o36 6)) hx hb hts hinX2 hown hK hP ho36.1 ho36.2 rfl 6 (by decide) (hts (.fieldLink RX4 122 "AdmissionControl$Request" "units" "I") (List.mem_of_getElem? (i := 6) rfl)) (fun _ h9 => h9) rfl dX4_workOneUnit_89 ?_
      refine lv_aload_n hx hb dX4_workOneUnit_92 rfl (lv_at hl 0 rfl) ?_
      refine w_get (C := RX2) (T := TX2) (N := 11) (ci := 2) (v := .int (m40 o36 3)) hx hb hts hinX2 hown hK hP ho36.1 ho36.2 rfl 3 (by decide) (hts (.fieldLink RX4 210 "AdmissionControl$Request" "cost" "I") (List.mem_of_getElem? (i := 8) rfl)) (fun _ h9 => h9) rfl dX4_workOneUnit_93 ?_
      refine lv_icmp_ge (tgt := 101) hx hb dX4_workOneUnit_96 (by decide) (fun c41 => ?_) (fun c41 => ?_)
      · rw [if_pos c41] at hf
        refine lv_aload_n hx hb dX4_workOneUnit_101 rfl (lv_at hl 2 rfl) ?_
        refine lv_aload_n hx hb dX4_workOneUnit_102 rfl (lv_at hl 1 rfl) ?_
        refine lv_aload_n hx hb dX4_workOneUnit_103 rfl (lv_at hl 0 rfl) ?_
        obtain ⟨m42, hq, hf⟩ := ov_e hf
        refine w_cv (va_runV (As := [.ref (ad o22), .ref (ad o36)]) (rest := []) ⟨hx, hb, hml, hown, hts⟩ (c_X4_complete l D ad cI cR hi fu o o22 o36 ho ho22 ho36 m40 m42 hq) (cwV 2 hts gX4_workOneUnit_X4_complete rfl rfl rfl (by decide +kernel) ⟨Nat.le_of_ble_eq_true rfl, Nat.le_of_ble_eq_true rfl⟩) (w_preV (ci := 4) hK hP hN ho.1 ho.2.1 rfl) rfl rfl hl.1 rfl (lv_room (Nat.le_of_ble_eq_true rfl)) dX4_workOneUnit_104 ⟨Nat.zero_le _, Nat.zero_le _⟩) hA hS (fun H locs hP hS => ?_)
        refine lv_iconst (v := 1) hx hb dX4_workOneUnit_107 (by decide) ?_
        cases hf
        exact w_iret hx hb hr hlocks hP hS dX4_workOneUnit_108
      · rw [if_neg c41] at hf
        refine lv_iconst (v := 0) hx hb dX4_workOneUnit_99 (by decide) ?_
        cases hf
        exact w_iret hx hb hr hlocks hP hS dX4_workOneUnit_100
def F_X4_tick_L110 (fu : Nat) (o : Nat)  : Nat → Int32 → Int32 → Mem → Option (Int32 × Mem)
  | 0, _, _, _ => none
  | n + 1, x1, x2, mm => ob (F_X3_at fu (o + 1) 4 0 mm) fun r77 m78 => if r77 ≤ x2 then (bd ((m78 o 9) + 1) fun v80 => bd (mput m78 o 9 v80) fun m81 => some (x1, m81)) else (ob (F_X4_workOneUnit fu o m78) fun r82 m83 => bd (x1 + r82) fun v84 => bd (x2 + 1) fun v85 => F_X4_tick_L110 fu o n v84 v85 m83)
def F_X4_tick_L86 (fu : Nat) (o : Nat)  : Nat → Int32 → Mem → Option (Int32 × Mem)
  | 0, _, _ => none
  | n + 1, x1, mm => if 3 ≤ x1 then (F_X4_tick_L110 fu o fu 0 0 mm) else (oq (F_X4_lane fu o x1 mm) (fun m88 => none) (fun o87 m88 => ov (F_X4_refuseThoseWhoWaited fu o o87 m88) fun m89 => bd (x1 + 1) fun v90 => F_X4_tick_L86 fu o n v90 m89))
def F_X4_tick_L35 (fu : Nat) (o : Nat)  : Nat → Int32 → Mem → Option (Int32 × Mem)
  | 0, _, _ => none
  | n + 1, x1, mm => if (mm o 6) ≤ x1 then (F_X4_tick_L86 fu o fu 0 mm) else (oq (F_X4_find fu o x1 mm) (fun m93 => bd (x1 + 1) fun v94 => F_X4_tick_L35 fu o n v94 m93) (fun o92 m93 => if (m93 o92 4) = 3 then (if (m93 o 9) < (m93 o92 10) then (bd (x1 + 1) fun v98 => F_X4_tick_L35 fu o n v98 m93) else (ob (F_X4_offerNow fu o o92 m93) fun r99 m100 => bd (x1 + 1) fun v101 => F_X4_tick_L35 fu o n v101 m100)) else (bd (x1 + 1) fun v96 => F_X4_tick_L35 fu o n v96 m93)))
def F_X4_tick_L2 (fu : Nat) (o : Nat)  : Nat → Int32 → Mem → Option (Int32 × Mem)
  | 0, _, _ => none
  | n + 1, x1, mm => if 3 ≤ x1 then (F_X4_tick_L35 fu o fu 0 mm) else (oq (F_X4_lane fu o x1 mm) (fun m104 => oq (F_X4_lane fu o x1 m104) (fun m106 => none) (fun o105 m106 => ob (F_X3_at fu (o105 + 1) 4 1 m106) fun r107 m108 => none)) (fun o103 m104 => oq (F_X4_lane fu o x1 m104) (fun m110 => none) (fun o109 m110 => ob (F_X3_at fu (o109 + 1) 4 1 m110) fun r111 m112 => ov (F_X1_gain fu o103 r111 m112) fun m113 => bd (x1 + 1) fun v114 => F_X4_tick_L2 fu o n v114 m113)))
def F_X4_tick (fu : Nat) (o : Nat) (mm : Mem) : Option (Int32 × Mem) := F_X4_tick_L2 fu o fu 0 mm
set_option maxHeartbeats 4000000 in
set_option maxRecDepth 100000 in
theorem c_X4_tick (l : Launch) (D : va_G) (ad : Nat → Nat) (cI cR : ClassId) (hi : inj ad) (fu : Nat) (o : Nat) (ho : sSrv ad cI cR o) (mm : Mem) (r0 : Int32) (m9 : Mem) (hf : F_X4_tick fu o mm = some (r0, m9)) : MI l yX4_tick wsX4_tick { frames := 4, cells := 0, slots := 0, locals := 92 } D ad cI cR [.ref (ad o)] mm r0 m9 := by
  refine Met.ofW (cc := cX4_tick) (maxL := 3) (ret := (some .int)) (by decide) rfl ?_
  intro p e s m args below meth c s₁ B hml hv
  obtain ⟨rfl, hP, hK, hN⟩ := hv
  have hx := B.exec
  have hb := B.bytes
  have hr := B.returns
  have hts := atoms_spec (ws := wsX4_tick) B.pre
  have hown : s.vm.findClass RX4 = some m.cls := findClass_of_methodNamed B.named
  have hlocks := B.notSynchronized
  have hA : ∀ q, AA ad q → AA ad q := fun _ h => h
  have hS : va_S (AA ad) s.heap s.heap [] := va_S.rf
  have hinX1 : ∀ w ∈ wsX10, w ∈ wsX4_tick := (fun _ h => List.mem_cons_of_mem _ (List.mem_append_left _ (List.mem_append_left _ (List.mem_append_left _ (List.mem_append_right _ h)))))
  have hinX2 : ∀ w ∈ wsX20, w ∈ wsX4_tick := (fun _ h => List.mem_cons_of_mem _ (List.mem_append_left _ (List.mem_append_right _ h)))
  have hinX4 : ∀ w ∈ wsX40, w ∈ wsX4_tick := (fun _ h => List.mem_cons_of_mem _ (List.mem_append_left _ (List.mem_append_left _ (List.mem_append_right _ h))))
  have hL110 : ∀ (n : Nat) (x1 : Int32) (x2 : Int32)  (mm : Mem) (H : Heap) (locs : List Loc) (ls : Array Slot), F_X4_tick_L110 fu o  n x1 x2 mm = some (r0, m9) → va_P D vwCl (cw ad cI cR mm) H → va_S (AA ad) s.heap H locs → lv_has ls 3 [(0, .ref (ad o)), (1, .int x1), (2, .int x2)] → W p l e (headSpec wsX4_tick { frames := 4, cells := 0, slots := 0, locals := 92 }).room s m ([.ref (ad o)] : List Value).toArray below meth c H locs 0 0 (MQ below (va_Qi (fun (r' : Int32) (u : Mem) => r' = r0 ∧ u = m9) (KB D ad cI cR) (AA ad)) ([.ref (ad o)] : List Value).toArray s 0 0 (AA ad)) (F0 m 110 ls []) := by
    intro n
    induction n with
    | zero =>
      intro x1 x2 mm H locs ls hf hP hS hl
      rw [F_X4_tick_L110] at hf
      cases hf
    | succ n110 ih110 =>
      intro x1 x2 mm H locs ls hf hP hS hl
      rw [F_X4_tick_L110] at hf
      refine lv_iload_n hx hb dX4_tick_110 rfl (lv_at hl 2 rfl) ?_
      refine lv_aload_n hx hb dX4_tick_111 rfl (lv_at hl 0 rfl) ?_
      refine w_get (C := RX4) (T := TX4) (N := 11) (ci := 4) (v := .ref (ad (o + 1))) hx hb hts hinX4 hown hK hP ho.1 ho.2.1 rfl 0 (by decide) (hts (.fieldLink RX4 14 "AdmissionControl$Server" "settings" "LAdmissionControl$Row;") (List.mem_of_getElem? (i := 6) rfl)) (fun _ h9 => h9) rfl dX4_tick_112 ?_
      refine lv_iconst (v := 0) hx hb dX4_tick_115 (by decide) ?_
      obtain ⟨r77, m78, hq, hf⟩ := ob_e hf
      refine w_ci (va_runV (As := [.int 0]) (rest := [.int x2]) ⟨hx, hb, hml, hown, hts⟩ (c_X3_at l D ad cI cR hi fu (o + 1) 4 0 ho.2.2.1 mm r77 m78 hq) (cwV 1 hts gX4_tick_X3_at rfl rfl rfl (by decide +kernel) ⟨Nat.le_of_ble_eq_true rfl, Nat.le_of_ble_eq_true rfl⟩) (w_preV (ci := 3) hK hP hN ho.2.2.1.1 ho.2.2.1.2.1 rfl) rfl rfl hl.1 rfl (lv_room (Nat.le_of_ble_eq_true rfl)) dX4_tick_116 ⟨Nat.zero_le _, Nat.zero_le _⟩) hA hS (fun H locs hP hS => ?_)
      refine lv_icmp_ge (tgt := 135) hx hb dX4_tick_119 (by decide) (fun c79 => ?_) (fun c79 => ?_)
      · rw [if_pos c79] at hf
        refine lv_aload_n hx hb dX4_tick_135 rfl (lv_at hl 0 rfl) ?_
        refine lv_dup hx hb dX4_tick_136 rfl ?_
        refine w_get (C := RX4) (T := TX4) (N := 11) (ci := 4) (v := .int (m78 o 9)) hx hb hts hinX4 hown hK hP ho.1 ho.2.1 rfl 9 (by decide) (hts (.fieldLink RX4 52 "AdmissionControl$Server" "clock" "I") (List.mem_of_getElem? (i := 5) rfl)) (fun _ h9 => h9) rfl dX4_tick_137 ?_
        refine lv_iconst (v := 1) hx hb dX4_tick_140 (by decide) ?_
        obtain ⟨v80, ev80, hf⟩ := bd_e hf
        refine lv_iadd hx hb dX4_tick_141 ?_
        refine w_top ev80 ?_
        obtain ⟨m81, em81, hf⟩ := bd_e hf
        refine w_put (C := RX4) (T := TX4) (N := 11) (ci := 4) (x := v80) hx hb hts hinX4 tyX4 tyX4_ok nmX4 hown hi hA hK hP hS ho.1 ho.2.1 rfl 9 (by decide) (hts (.fieldLink RX4 52 "AdmissionControl$Server" "clock" "I") (List.mem_of_getElem? (i := 5) rfl)) (fun _ h9 => h9) rfl rfl rfl (Nat.le_of_ble_eq_true rfl) rfl dX4_tick_142 (fun H locs hP hS => ?_)
        rw [← em81] at hP
        refine lv_iload_n hx hb dX4_tick_145 rfl (lv_at hl 1 rfl) ?_
        cases hf
        exact w_iret hx hb hr hlocks hP hS dX4_tick_146
      · rw [if_neg c79] at hf
        refine lv_iload_n hx hb dX4_tick_122 rfl (lv_at hl 1 rfl) ?_
        refine lv_aload_n hx hb dX4_tick_123 rfl (lv_at hl 0 rfl) ?_
        obtain ⟨r82, m83, hq, hf⟩ := ob_e hf
        refine w_ci (va_runV (As := []) (rest := [.int x1]) ⟨hx, hb, hml, hown, hts⟩ (c_X4_workOneUnit l D ad cI cR hi fu o ho m78 r82 m83 hq) (cwV 0 hts gX4_tick_X4_workOneUnit rfl rfl rfl (by decide +kernel) ⟨Nat.le_of_ble_eq_true rfl, Nat.le_of_ble_eq_true rfl⟩) (w_preV (ci := 4) hK hP hN ho.1 ho.2.1 rfl) rfl rfl hl.1 rfl (lv_room (Nat.le_of_ble_eq_true rfl)) dX4_tick_124 ⟨Nat.zero_le _, Nat.zero_le _⟩) hA hS (fun H locs hP hS => ?_)
        obtain ⟨v84, ev84, hf⟩ := bd_e hf
        refine lv_iadd hx hb dX4_tick_127 ?_
        refine w_top ev84 ?_
        refine lv_istore_n (lv' := [(1, .int v84), (0, .ref (ad o)), (2, .int x2)]) hx hb dX4_tick_128 rfl hl (by decide) rfl (fun ls hl => ?_)
        obtain ⟨v85, ev85, hf⟩ := bd_e hf
        refine lv_iinc (v := v85) (lv' := [(2, .int v85), (1, .int v84), (0, .ref (ad o))]) hx hb dX4_tick_129 hl (k := 2) rfl (by rw [ev85]; rfl) (by decide) rfl (fun ls hl => ?_)
        refine lv_goto (tgt := 110) hx hb dX4_tick_132 (by decide) ?_
        exact ih110 v84 v85 m83 _ _ _ hf hP hS (lv_sub hl [2, 1, 0] rfl)
  have hL86 : ∀ (n : Nat) (x1 : Int32)  (mm : Mem) (H : Heap) (locs : List Loc) (ls : Array Slot), F_X4_tick_L86 fu o  n x1 mm = some (r0, m9) → va_P D vwCl (cw ad cI cR mm) H → va_S (AA ad) s.heap H locs → lv_has ls 3 [(0, .ref (ad o)), (1, .int x1)] → W p l e (headSpec wsX4_tick { frames := 4, cells := 0, slots := 0, locals := 92 }).room s m ([.ref (ad o)] : List Value).toArray below meth c H locs 0 0 (MQ below (va_Qi (fun (r' : Int32) (u : Mem) => r' = r0 ∧ u = m9) (KB D ad cI cR) (AA ad)) ([.ref (ad o)] : List Value).toArray s 0 0 (AA ad)) (F0 m 86 ls []) := by
    intro n
    induction n with
    | zero =>
      intro x1 mm H locs ls hf hP hS hl
      rw [F_X4_tick_L86] at hf
      cases hf
    | succ n86 ih86 =>
      intro x1 mm H locs ls hf hP hS hl
      rw [F_X4_tick_L86] at hf
      refine lv_iload_n hx hb dX4_tick_86 rfl (lv_at hl 1 rfl) ?_
      refine lv_iconst (v := 3) hx hb dX4_tick_87 (by decide) ?_
      refine lv_icmp_ge (tgt := 106) hx hb dX4_tick_88 (by decide) (fun c86 => ?_) (fun c86 => ?_)
      · rw [if_pos c86] at hf
        refine lv_iconst (v := 0) hx hb dX4_tick_106 (by decide) ?_
        refine lv_istore_n (lv' := [(1, .int 0), (0, .ref (ad o))]) hx hb dX4_tick_107 rfl hl (by decide) rfl (fun ls hl => ?_)
        refine lv_iconst (v := 0) hx hb dX4_tick_108 (by decide) ?_
        refine lv_istore_n (lv' := [(2, .int 0), (1, .int 0), (0, .ref (ad o))]) hx hb dX4_tick_109 rfl hl (by decide) rfl (fun ls hl => ?_)
        exact hL110 fu 0 0 mm _ _ _ hf hP hS (lv_sub hl [2, 1, 0] rfl)
      · rw [if_neg c86] at hf
        refine lv_aload_n hx hb dX4_tick_91 rfl (lv_at hl 0 rfl) ?_
        refine lv_aload_n hx hb dX4_tick_92 rfl (lv_at hl 0 rfl) ?_
        refine lv_iload_n hx hb dX4_tick_93 rfl (lv_at hl 1 rfl) ?_
        rcases oq_e hf with ⟨m88, hq, hf⟩ | ⟨o87, m88, hq, hf⟩
        · refine w_cqN (va_runV (As := [.int x1]) (rest := [.ref (ad o)]) ⟨hx, hb, hml, hown, hts⟩ (c_X4_lane l D ad cI cR hi fu o x1 ho mm none m88 hq) (cwV 1 hts gX4_tick_X4_lane rfl rfl rfl (by decide +kernel) ⟨Nat.le_of_ble_eq_true rfl, Nat.le_of_ble_eq_true rfl⟩) (w_preV (ci := 4) hK hP hN ho.1 ho.2.1 rfl) rfl rfl hl.1 rfl (lv_room (Nat.le_of_ble_eq_true rfl)) dX4_tick_94 ⟨Nat.zero_le _, Nat.zero_le _⟩) hA hS (fun H locs hP hS => ?_)
          cases hf
        · have ho87 := (t_X4_lane ad cI cR fu o x1 ho mm o87 m88 hq)
          refine w_cqS (va_runV (As := [.int x1]) (rest := [.ref (ad o)]) ⟨hx, hb, hml, hown, hts⟩ (c_X4_lane l D ad cI cR hi fu o x1 ho mm (some o87) m88 hq) (cwV 1 hts gX4_tick_X4_lane rfl rfl rfl (by decide +kernel) ⟨Nat.le_of_ble_eq_true rfl, Nat.le_of_ble_eq_true rfl⟩) (w_preV (ci := 4) hK hP hN ho.1 ho.2.1 rfl) rfl rfl hl.1 rfl (lv_room (Nat.le_of_ble_eq_true rfl)) dX4_tick_94 ⟨Nat.zero_le _, Nat.zero_le _⟩) hA hS (fun H locs hP hS => ?_)
          obtain ⟨m89, hq, hf⟩ := ov_e hf
          refine w_cv (va_runV (As := [.ref (ad o87)]) (rest := []) ⟨hx, hb, hml, hown, hts⟩ (c_X4_refuseThoseWhoWaited l D ad cI cR hi fu o o87 ho ho87 m88 m89 hq) (cwV 1 hts gX4_tick_X4_refuseThoseWhoWaited rfl rfl rfl (by decide +kernel) ⟨Nat.le_of_ble_eq_true rfl, Nat.le_of_ble_eq_true rfl⟩) (w_preV (ci := 4) hK hP hN ho.1 ho.2.1 rfl) rfl rfl hl.1 rfl (lv_room (Nat.le_of_ble_eq_true rfl)) dX4_tick_97 ⟨Nat.zero_le _, Nat.zero_le _⟩) hA hS (fun H locs hP hS => ?_)
          obtain ⟨v90, ev90, hf⟩ := bd_e hf
          refine lv_iinc (v := v90) (lv' := [(1, .int v90), (0, .ref (ad o))]) hx hb dX4_tick_100 hl (k := 1) rfl (by rw [ev90]; rfl) (by decide) rfl (fun ls hl => ?_)
          refine lv_goto (tgt := 86) hx hb dX4_tick_103 (by decide) ?_
          exact ih86 v90 m89 _ _ _ hf hP hS (lv_sub hl [1, 0] rfl)
  have hL35 : ∀ (n : Nat) (x1 : Int32)  (mm : Mem) (H : Heap) (locs : List Loc) (ls : Array Slot), F_X4_tick_L35 fu o  n x1 mm = some (r0, m9) → va_P D vwCl (cw ad cI cR mm) H → va_S (AA ad) s.heap H locs → lv_has ls 3 [(0, .ref (ad o)), (1, .int x1)] → W p l e (headSpec wsX4_tick { frames := 4, cells := 0, slots := 0, locals := 92 }).room s m ([.ref (ad o)] : List Value).toArray below meth c H locs 0 0 (MQ below (va_Qi (fun (r' : Int32) (u : Mem) => r' = r0 ∧ u = m9) (KB D ad cI cR) (AA ad)) ([.ref (ad o)] : List Value).toArray s 0 0 (AA ad)) (F0 m 35 ls []) := by
    intro n
    induction n with
    | zero =>
      intro x1 mm H locs ls hf hP hS hl
      rw [F_X4_tick_L35] at hf
      cases hf
    | succ n35 ih35 =>
      intro x1 mm H locs ls hf hP hS hl
      rw [F_X4_tick_L35] at hf
      refine lv_iload_n hx hb dX4_tick_35 rfl (lv_at hl 1 rfl) ?_
      refine lv_aload_n hx hb dX4_tick_36 rfl (lv_at hl 0 rfl) ?_
      refine w_get (C := RX4) (T := TX4) (N := 11) (ci := 4) (v := .int (mm o 6)) hx hb hts hinX4 hown hK hP ho.1 ho.2.1 rfl 6 (by decide) (hts (.fieldLink RX4 42 "AdmissionControl$Server" "count" "I") (List.mem_of_getElem? (i := 2) rfl)) (fun _ h9 => h9) rfl dX4_tick_37 ?_
      refine lv_icmp_ge (tgt := 84) hx hb dX4_tick_40 (by decide) (fun c91 => ?_) (fun c91 => ?_)
      · rw [if_pos c91] at hf
        refine lv_iconst (v := 0) hx hb dX4_tick_84 (by decide) ?_
        refine lv_istore_n (lv' := [(1, .int 0), (0, .ref (ad o))]) hx hb dX4_tick_85 rfl hl (by decide) rfl (fun ls hl => ?_)
        exact hL86 fu 0 mm _ _ _ hf hP hS (lv_sub hl [1, 0] rfl)
      · rw [if_neg c91] at hf
        refine lv_aload_n hx hb dX4_tick_43 rfl (lv_at hl 0 rfl) ?_
        refine lv_iload_n hx hb dX4_tick_44 rfl (lv_at hl 1 rfl) ?_
        rcases oq_e hf with ⟨m93, hq, hf⟩ | ⟨o92, m93, hq, hf⟩
        · refine w_cqN (va_runV (As := [.int x1]) (rest := []) ⟨hx, hb, hml, hown, hts⟩ (c_X4_find l D ad cI cR hi fu o x1 ho mm none m93 hq) (cwV 1 hts gX4_tick_X4_find rfl rfl rfl (by decide +kernel) ⟨Nat.le_of_ble_eq_true rfl, Nat.le_of_ble_eq_true rfl⟩) (w_preV (ci := 4) hK hP hN ho.1 ho.2.1 rfl) rfl rfl hl.1 rfl (lv_room (Nat.le_of_ble_eq_true rfl)) dX4_tick_45 ⟨Nat.zero_le _, Nat.zero_le _⟩) hA hS (fun H locs hP hS => ?_)
          refine lv_astore_nN (lv' := [(2, .null), (0, .ref (ad o)), (1, .int x1)]) hx hb dX4_tick_48 rfl hl (by decide) rfl (fun ls hl => ?_)
          refine lv_aload_nN hx hb dX4_tick_49 rfl (lv_at hl 0 rfl) ?_
          refine lv_ifnullN (tgt := 78) hx hb dX4_tick_50 (by decide) ?_
          obtain ⟨v94, ev94, hf⟩ := bd_e hf
          refine lv_iinc (v := v94) (lv' := [(1, .int v94), (2, .null), (0, .ref (ad o))]) hx hb dX4_tick_78 hl (k := 2) rfl (by rw [ev94]; rfl) (by decide) rfl (fun ls hl => ?_)
          refine lv_goto (tgt := 35) hx hb dX4_tick_81 (by decide) ?_
          exact ih35 v94 m93 _ _ _ hf hP hS (lv_sub hl [2, 0] rfl)
        · have ho92 := (t_X4_find ad cI cR fu o x1 ho mm o92 m93 hq)
          refine w_cqS (va_runV (As := [.int x1]) (rest := []) ⟨hx, hb, hml, hown, hts⟩ (c_X4_find l D ad cI cR hi fu o x1 ho mm (some o92) m93 hq) (cwV 1 hts gX4_tick_X4_find rfl rfl rfl (by decide +kernel) ⟨Nat.le_of_ble_eq_true rfl, Nat.le_of_ble_eq_true rfl⟩) (w_preV (ci := 4) hK hP hN ho.1 ho.2.1 rfl) rfl rfl hl.1 rfl (lv_room (Nat.le_of_ble_eq_true rfl)) dX4_tick_45 ⟨Nat.zero_le _, Nat.zero_le _⟩) hA hS (fun H locs hP hS => ?_)
          refine lv_astore_n (lv' := [(2, .ref (ad o92)), (0, .ref (ad o)), (1, .int x1)]) hx hb dX4_tick_48 rfl hl (by decide) rfl (fun ls hl => ?_)
          refine lv_aload_n hx hb dX4_tick_49 rfl (lv_at hl 0 rfl) ?_
          refine lv_ifnull hx hb dX4_tick_50 ?_
          refine lv_aload_n hx hb dX4_tick_53 rfl (lv_at hl 0 rfl) ?_
          refine w_get (C := RX2) (T := TX2) (N := 11) (ci := 2) (v := .int (m93 o92 4)) hx hb hts hinX2 hown hK hP ho92.1 ho92.2 rfl 4 (by decide) (hts (.fieldLink RX4 172 "AdmissionControl$Request" "state" "I") (List.mem_of_getElem? (i := 3) rfl)) (fun _ h9 => h9) rfl dX4_tick_54 ?_
          refine lv_iconst (v := 3) hx hb dX4_tick_57 (by decide) ?_
          refine lv_icmp_ne (tgt := 78) hx hb dX4_tick_58 (by decide) (fun c95 => ?_) (fun c95 => ?_)
          · rw [if_neg c95] at hf
            obtain ⟨v96, ev96, hf⟩ := bd_e hf
            refine lv_iinc (v := v96) (lv' := [(1, .int v96), (2, .ref (ad o92)), (0, .ref (ad o))]) hx hb dX4_tick_78 hl (k := 2) rfl (by rw [ev96]; rfl) (by decide) rfl (fun ls hl => ?_)
            refine lv_goto (tgt := 35) hx hb dX4_tick_81 (by decide) ?_
            exact ih35 v96 m93 _ _ _ hf hP hS (lv_sub hl [2, 0] rfl)
          · rw [if_pos c95] at hf
            refine lv_aload_n hx hb dX4_tick_61 rfl (lv_at hl 0 rfl) ?_
            refine w_get (C := RX2) (T := TX2) (N := 11) (ci := 2) (v := .int (m93 o92 10)) hx hb hts hinX2 hown hK hP ho92.1 ho92.2 rfl 10 (by decide) (hts (.fieldLink RX4 187 "AdmissionControl$Request" "tick" "I") (List.mem_of_getElem? (i := 4) rfl)) (fun _ h9 => h9) rfl dX4_tick_62 ?_
            refine lv_aload_n hx hb dX4_tick_65 rfl (lv_at hl 1 rfl) ?_
            refine w_get (C := RX4) (T := TX4) (N := 11) (ci := 4) (v := .int (m93 o 9)) hx hb hts hinX4 hown hK hP ho.1 ho.2.1 rfl 9 (by decide) (hts (.fieldLink RX4 52 "AdmissionControl$Server" "clock" "I") (List.mem_of_getElem? (i := 5) rfl)) (fun _ h9 => h9) rfl dX4_tick_66 ?_
            refine lv_icmp_gt (tgt := 78) hx hb dX4_tick_69 (by decide) (fun c97 => ?_) (fun c97 => ?_)
            · rw [if_pos c97] at hf
              obtain ⟨v98, ev98, hf⟩ := bd_e hf
              refine lv_iinc (v := v98) (lv' := [(1, .int v98), (2, .ref (ad o92)), (0, .ref (ad o))]) hx hb dX4_tick_78 hl (k := 2) rfl (by rw [ev98]; rfl) (by decide) rfl (fun ls hl => ?_)
              refine lv_goto (tgt := 35) hx hb dX4_tick_81 (by decide) ?_
              exact ih35 v98 m93 _ _ _ hf hP hS (lv_sub hl [2, 0] rfl)
            · rw [if_neg c97] at hf
              refine lv_aload_n hx hb dX4_tick_72 rfl (lv_at hl 1 rfl) ?_
              refine lv_aload_n hx hb dX4_tick_73 rfl (lv_at hl 0 rfl) ?_
              obtain ⟨r99, m100, hq, hf⟩ := ob_e hf
              refine w_ci (va_runV (As := [.ref (ad o92)]) (rest := []) ⟨hx, hb, hml, hown, hts⟩ (c_X4_offerNow l D ad cI cR hi fu o o92 ho ho92 m93 r99 m100 hq) (cwV 1 hts gX4_tick_X4_offerNow rfl rfl rfl (by decide +kernel) ⟨Nat.le_of_ble_eq_true rfl, Nat.le_of_ble_eq_true rfl⟩) (w_preV (ci := 4) hK hP hN ho.1 ho.2.1 rfl) rfl rfl hl.1 rfl (lv_room (Nat.le_of_ble_eq_true rfl)) dX4_tick_74 ⟨Nat.zero_le _, Nat.zero_le _⟩) hA hS (fun H locs hP hS => ?_)
              refine lv_pop hx hb dX4_tick_77 rfl ?_
              obtain ⟨v101, ev101, hf⟩ := bd_e hf
              refine lv_iinc (v := v101) (lv' := [(1, .int v101), (2, .ref (ad o92)), (0, .ref (ad o))]) hx hb dX4_tick_78 hl (k := 2) rfl (by rw [ev101]; rfl) (by decide) rfl (fun ls hl => ?_)
              refine lv_goto (tgt := 35) hx hb dX4_tick_81 (by decide) ?_
              exact ih35 v101 m100 _ _ _ hf hP hS (lv_sub hl [2, 0] rfl)
  have hL2 : ∀ (n : Nat) (x1 : Int32)  (mm : Mem) (H : Heap) (locs : List Loc) (ls : Array Slot), F_X4_tick_L2 fu o  n x1 mm = some (r0, m9) → va_P D vwCl (cw ad cI cR mm) H → va_S (AA ad) s.heap H locs → lv_has ls 3 [(0, .ref (ad o)), (1, .int x1)] → W p l e (headSpec wsX4_tick { frames := 4, cells := 0, slots := 0, locals := 92 }).room s m ([.ref (ad o)] : List Value).toArray below meth c H locs 0 0 (MQ below (va_Qi (fun (r' : Int32) (u : Mem) => r' = r0 ∧ u = m9) (KB D ad cI cR) (AA ad)) ([.ref (ad o)] : List Value).toArray s 0 0 (AA ad)) (F0 m 2 ls []) := by
    intro n
    induction n with
    | zero =>
      intro x1 mm H locs ls hf hP hS hl
      rw [F_X4_tick_L2] at hf
      cases hf
    | succ n2 ih2 =>
      intro x1 mm H locs ls hf hP hS hl
      rw [F_X4_tick_L2] at hf
      refine lv_iload_n hx hb dX4_tick_2 rfl (lv_at hl 1 rfl) ?_
      refine lv_iconst (v := 3) hx hb dX4_tick_3 (by decide) ?_
      refine lv_icmp_ge (tgt := 33) hx hb dX4_tick_4 (by decide) (fun c102 => ?_) (fun c102 => ?_)
      · rw [if_pos c102] at hf
        refine lv_iconst (v := 0) hx hb dX4_tick_33 (by decide) ?_
        refine lv_istore_n (lv' := [(1, .int 0), (0, .ref (ad o))]) hx hb dX4_tick_34 rfl hl (by decide) rfl (fun ls hl => ?_)
        exact hL35 fu 0 mm _ _ _ hf hP hS (lv_sub hl [1, 0] rfl)
      · rw [if_neg c102] at hf
        refine lv_aload_n hx hb dX4_tick_7 rfl (lv_at hl 0 rfl) ?_
        refine lv_iload_n hx hb dX4_tick_8 rfl (lv_at hl 1 rfl) ?_
        rcases oq_e hf with ⟨m104, hq, hf⟩ | ⟨o103, m104, hq, hf⟩
        · refine w_cqN (va_runV (As := [.int x1]) (rest := []) ⟨hx, hb, hml, hown, hts⟩ (c_X4_lane l D ad cI cR hi fu o x1 ho mm none m104 hq) (cwV 1 hts gX4_tick_X4_lane rfl rfl rfl (by decide +kernel) ⟨Nat.le_of_ble_eq_true rfl, Nat.le_of_ble_eq_true rfl⟩) (w_preV (ci := 4) hK hP hN ho.1 ho.2.1 rfl) rfl rfl hl.1 rfl (lv_room (Nat.le_of_ble_eq_true rfl)) dX4_tick_9 ⟨Nat.zero_le _, Nat.zero_le _⟩) hA hS (fun H locs hP hS => ?_)
          refine lv_aload_n hx hb dX4_tick_12 rfl (lv_at hl 0 rfl) ?_
          refine lv_iload_n hx hb dX4_tick_13 rfl (lv_at hl 1 rfl) ?_
          rcases oq_e hf with ⟨m106, hq, hf⟩ | ⟨o105, m106, hq, hf⟩
          · refine w_cqN (va_runV (As := [.int x1]) (rest := [.null]) ⟨hx, hb, hml, hown, hts⟩ (c_X4_lane l D ad cI cR hi fu o x1 ho m104 none m106 hq) (cwV 1 hts gX4_tick_X4_lane rfl rfl rfl (by decide +kernel) ⟨Nat.le_of_ble_eq_true rfl, Nat.le_of_ble_eq_true rfl⟩) (w_preV (ci := 4) hK hP hN ho.1 ho.2.1 rfl) rfl rfl hl.1 rfl (lv_room (Nat.le_of_ble_eq_true rfl)) dX4_tick_14 ⟨Nat.zero_le _, Nat.zero_le _⟩) hA hS (fun H locs hP hS => ?_)
            cases hf
          · have ho105 := (t_X4_lane ad cI cR fu o x1 ho m104 o105 m106 hq)
            refine w_cqS (va_runV (As := [.int x1]) (rest := [.null]) ⟨hx, hb, hml, hown, hts⟩ (c_X4_lane l D ad cI cR hi fu o x1 ho m104 (some o105) m106 hq) (cwV 1 hts gX4_tick_X4_lane rfl rfl rfl (by decide +kernel) ⟨Nat.le_of_ble_eq_true rfl, Nat.le_of_ble_eq_true rfl⟩) (w_preV (ci := 4) hK hP hN ho.1 ho.2.1 rfl) rfl rfl hl.1 rfl (lv_room (Nat.le_of_ble_eq_true rfl)) dX4_tick_14 ⟨Nat.zero_le _, Nat.zero_le _⟩) hA hS (fun H locs hP hS => ?_)
            refine w_get (C := RX1) (T := TX1) (N := 7) (ci := 1) (v := .ref (ad (o105 + 1))) hx hb hts hinX1 hown hK hP ho105.1 ho105.2.1 rfl 0 (by decide) (hts (.fieldLink RX4 125 "AdmissionControl$Lane" "settings" "LAdmissionControl$Row;") (List.mem_of_getElem? (i := 1) rfl)) (fun _ h9 => h9) rfl dX4_tick_17 ?_
            refine lv_iconst (v := 1) hx hb dX4_tick_20 (by decide) ?_
            obtain ⟨r107, m108, hq, hf⟩ := ob_e hf
            refine w_ci (va_runV (As := [.int 1]) (rest := [.null]) ⟨hx, hb, hml, hown, hts⟩ (c_X3_at l D ad cI cR hi fu (o105 + 1) 4 1 ho105.2.2.1 m106 r107 m108 hq) (cwV 1 hts gX4_tick_X3_at rfl rfl rfl (by decide +kernel) ⟨Nat.le_of_ble_eq_true rfl, Nat.le_of_ble_eq_true rfl⟩) (w_preV (ci := 3) hK hP hN ho105.2.2.1.1 ho105.2.2.1.2.1 rfl) rfl rfl hl.1 rfl (lv_room (Nat.le_of_ble_eq_true rfl)) dX4_tick_21 ⟨Nat.zero_le _, Nat.zero_le _⟩) hA hS (fun H locs hP hS => ?_)
            cases hf
        · have ho103 := (t_X4_lane ad cI cR fu o x1 ho mm o103 m104 hq)
          refine w_cqS (va_runV (As := [.int x1]) (rest := []) ⟨hx, hb, hml, hown, hts⟩ (c_X4_lane l D ad cI cR hi fu o x1 ho mm (some o103) m104 hq) (cwV 1 hts gX4_tick_X4_lane rfl rfl rfl (by decide +kernel) ⟨Nat.le_of_ble_eq_true rfl, Nat.le_of_ble_eq_true rfl⟩) (w_preV (ci := 4) hK hP hN ho.1 ho.2.1 rfl) rfl rfl hl.1 rfl (lv_room (Nat.le_of_ble_eq_true rfl)) dX4_tick_9 ⟨Nat.zero_le _, Nat.zero_le _⟩) hA hS (fun H locs hP hS => ?_)
          refine lv_aload_n hx hb dX4_tick_12 rfl (lv_at hl 0 rfl) ?_
          refine lv_iload_n hx hb dX4_tick_13 rfl (lv_at hl 1 rfl) ?_
          rcases oq_e hf with ⟨m110, hq, hf⟩ | ⟨o109, m110, hq, hf⟩
          · refine w_cqN (va_runV (As := [.int x1]) (rest := [.ref (ad o103)]) ⟨hx, hb, hml, hown, hts⟩ (c_X4_lane l D ad cI cR hi fu o x1 ho m104 none m110 hq) (cwV 1 hts gX4_tick_X4_lane rfl rfl rfl (by decide +kernel) ⟨Nat.le_of_ble_eq_true rfl, Nat.le_of_ble_eq_true rfl⟩) (w_preV (ci := 4) hK hP hN ho.1 ho.2.1 rfl) rfl rfl hl.1 rfl (lv_room (Nat.le_of_ble_eq_true rfl)) dX4_tick_14 ⟨Nat.zero_le _, Nat.zero_le _⟩) hA hS (fun H locs hP hS => ?_)
            cases hf
          · have ho109 := (t_X4_lane ad cI cR fu o x1 ho m104 o109 m110 hq)
            refine w_cqS (va_runV (As := [.int x1]) (rest := [.ref (ad o103)]) ⟨hx, hb, hml, hown, hts⟩ (c_X4_lane l D ad cI cR hi fu o x1 ho m104 (some o109) m110 hq) (cwV 1 hts gX4_tick_X4_lane rfl rfl rfl (by decide +kernel) ⟨Nat.le_of_ble_eq_true rfl, Nat.le_of_ble_eq_true rfl⟩) (w_preV (ci := 4) hK hP hN ho.1 ho.2.1 rfl) rfl rfl hl.1 rfl (lv_room (Nat.le_of_ble_eq_true rfl)) dX4_tick_14 ⟨Nat.zero_le _, Nat.zero_le _⟩) hA hS (fun H locs hP hS => ?_)
            refine w_get (C := RX1) (T := TX1) (N := 7) (ci := 1) (v := .ref (ad (o109 + 1))) hx hb hts hinX1 hown hK hP ho109.1 ho109.2.1 rfl 0 (by decide) (hts (.fieldLink RX4 125 "AdmissionControl$Lane" "settings" "LAdmissionControl$Row;") (List.mem_of_getElem? (i := 1) rfl)) (fun _ h9 => h9) rfl dX4_tick_17 ?_
            refine lv_iconst (v := 1) hx hb dX4_tick_20 (by decide) ?_
            obtain ⟨r111, m112, hq, hf⟩ := ob_e hf
            refine w_ci (va_runV (As := [.int 1]) (rest := [.ref (ad o103)]) ⟨hx, hb, hml, hown, hts⟩ (c_X3_at l D ad cI cR hi fu (o109 + 1) 4 1 ho109.2.2.1 m110 r111 m112 hq) (cwV 1 hts gX4_tick_X3_at rfl rfl rfl (by decide +kernel) ⟨Nat.le_of_ble_eq_true rfl, Nat.le_of_ble_eq_true rfl⟩) (w_preV (ci := 3) hK hP hN ho109.2.2.1.1 ho109.2.2.1.2.1 rfl) rfl rfl hl.1 rfl (lv_room (Nat.le_of_ble_eq_true rfl)) dX4_tick_21 ⟨Nat.zero_le _, Nat.zero_le _⟩) hA hS (fun H locs hP hS => ?_)
            obtain ⟨m113, hq, hf⟩ := ov_e hf
            refine w_cv (va_runV (As := [.int r111]) (rest := []) ⟨hx, hb, hml, hown, hts⟩ (c_X1_gain l D ad cI cR hi fu o103 r111 ho103 m112 m113 hq) (cwV 1 hts gX4_tick_X1_gain rfl rfl rfl (by decide +kernel) ⟨Nat.le_of_ble_eq_true rfl, Nat.le_of_ble_eq_true rfl⟩) (w_preV (ci := 1) hK hP hN ho103.1 ho103.2.1 rfl) rfl rfl hl.1 rfl (lv_room (Nat.le_of_ble_eq_true rfl)) dX4_tick_24 ⟨Nat.zero_le _, Nat.zero_le _⟩) hA hS (fun H locs hP hS => ?_)
            obtain ⟨v114, ev114, hf⟩ := bd_e hf
            refine lv_iinc (v := v114) (lv' := [(1, .int v114), (0, .ref (ad o))]) hx hb dX4_tick_27 hl (k := 1) rfl (by rw [ev114]; rfl) (by decide) rfl (fun ls hl => ?_)
            refine lv_goto (tgt := 2) hx hb dX4_tick_30 (by decide) ?_
            exact ih2 v114 m113 _ _ _ hf hP hS (lv_sub hl [1, 0] rfl)
  have hl := lv_entry ([.ref (ad o)]) (n := 3) (Nat.le_of_ble_eq_true rfl)
  rw [lg_entry_eq]
  generalize (lg_sl ([.ref (ad o)]) ++ List.replicate (3 - (lg_sl ([.ref (ad o)])).length) Slot.unset).toArray = ls at hl ⊢
  have hl : lv_has ls 3 [(0, .ref (ad o))] := hl
  unfold F_X4_tick at hf
  refine lv_iconst (v := 0) hx hb dX4_tick_0 (by decide) ?_
  refine lv_istore_n (lv' := [(1, .int 0), (0, .ref (ad o))]) hx hb dX4_tick_1 rfl hl (by decide) rfl (fun ls hl => ?_)
  exact hL2 fu 0 mm _ _ _ hf hP hS (lv_sub hl [1, 0] rfl)
def F_X4_letPass_L4 (fu : Nat) (o : Nat) (a1 : Int32)  : Nat → Int32 → Int32 → Mem → Option (Int32 × Mem)
  | 0, _, _, _ => none
  | n + 1, x2, x3, mm => if a1 ≤ x3 then (some (x2, mm)) else (ob (F_X4_tick fu o mm) fun r12 m13 => bd (x2 + r12) fun v14 => bd (x3 + 1) fun v15 => F_X4_letPass_L4 fu o a1 n v14 v15 m13)
def F_X4_letPass (fu : Nat) (o : Nat) (a1 : Int32) (mm : Mem) : Option (Int32 × Mem) := F_X4_letPass_L4 fu o a1 fu 0 0 mm
set_option maxHeartbeats 4000000 in
set_option maxRecDepth 100000 in
theorem c_X4_letPass (l : Launch) (D : va_G) (ad : Nat → Nat) (cI cR : ClassId) (hi : inj ad) (fu : Nat) (o : Nat) (a1 : Int32) (ho : sSrv ad cI cR o) (mm : Mem) (r0 : Int32) (m9 : Mem) (hf : F_X4_letPass fu o a1 mm = some (r0, m9)) : MI l yX4_letPass wsX4_letPass { frames := 5, cells := 0, slots := 0, locals := 114 } D ad cI cR [.ref (ad o), .int a1] mm r0 m9 := by
  refine Met.ofW (cc := cX4_letPass) (maxL := 4) (ret := (some .int)) (by decide) rfl ?_
  intro p e s m args below meth c s₁ B hml hv
  obtain ⟨rfl, hP, hK, hN⟩ := hv
  have hx := B.exec
  have hb := B.bytes
  have hr := B.returns
  have hts := atoms_spec (ws := wsX4_letPass) B.pre
  have hown : s.vm.findClass RX4 = some m.cls := findClass_of_methodNamed B.named
  have hlocks := B.notSynchronized
  have hA : ∀ q, AA ad q → AA ad q := fun _ h => h
  have hS : va_S (AA ad) s.heap s.heap [] := va_S.rf
  have hL4 : ∀ (n : Nat) (x2 : Int32) (x3 : Int32)  (mm : Mem) (H : Heap) (locs : List Loc) (ls : Array Slot), F_X4_letPass_L4 fu o a1  n x2 x3 mm = some (r0, m9) → va_P D vwCl (cw ad cI cR mm) H → va_S (AA ad) s.heap H locs → lv_has ls 4 [(0, .ref (ad o)), (1, .int a1), (2, .int x2), (3, .int x3)] → W p l e (headSpec wsX4_letPass { frames := 5, cells := 0, slots := 0, locals := 114 }).room s m ([.ref (ad o), .int a1] : List Value).toArray below meth c H locs 0 0 (MQ below (va_Qi (fun (r' : Int32) (u : Mem) => r' = r0 ∧ u = m9) (KB D ad cI cR) (AA ad)) ([.ref (ad o), .int a1] : List Value).toArray s 0 0 (AA ad)) (F0 m 4 ls []) := by
    intro n
    induction n with
    | zero =>
      intro x2 x3 mm H locs ls hf hP hS hl
      rw [F_X4_letPass_L4] at hf
      cases hf
    | succ n4 ih4 =>
      intro x2 x3 mm H locs ls hf hP hS hl
      rw [F_X4_letPass_L4] at hf
      refine lv_iload_n hx hb dX4_letPass_4 rfl (lv_at hl 3 rfl) ?_
      refine lv_iload_n hx hb dX4_letPass_5 rfl (lv_at hl 1 rfl) ?_
      refine lv_icmp_ge (tgt := 22) hx hb dX4_letPass_6 (by decide) (fun c11 => ?_) (fun c11 => ?_)
      · rw [if_pos c11] at hf
        refine lv_iload_n hx hb dX4_letPass_22 rfl (lv_at hl 2 rfl) ?_
        cases hf
        exact w_iret hx hb hr hlocks hP hS dX4_letPass_23
      · rw [if_neg c11] at hf
        refine lv_iload_n hx hb dX4_letPass_9 rfl (lv_at hl 2 rfl) ?_
        refine lv_aload_n hx hb dX4_letPass_10 rfl (lv_at hl 0 rfl) ?_
        obtain ⟨r12, m13, hq, hf⟩ := ob_e hf
        refine w_ci (va_runV (As := []) (rest := [.int x2]) ⟨hx, hb, hml, hown, hts⟩ (c_X4_tick l D ad cI cR hi fu o ho mm r12 m13 hq) (cwV 0 hts gX4_letPass_X4_tick rfl rfl rfl (by decide +kernel) ⟨Nat.le_of_ble_eq_true rfl, Nat.le_of_ble_eq_true rfl⟩) (w_preV (ci := 4) hK hP hN ho.1 ho.2.1 rfl) rfl rfl hl.1 rfl (lv_room (Nat.le_of_ble_eq_true rfl)) dX4_letPass_11 ⟨Nat.zero_le _, Nat.zero_le _⟩) hA hS (fun H locs hP hS => ?_)
        obtain ⟨v14, ev14, hf⟩ := bd_e hf
        refine lv_iadd hx hb dX4_letPass_14 ?_
        refine w_top ev14 ?_
        refine lv_istore_n (lv' := [(2, .int v14), (0, .ref (ad o)), (1, .int a1), (3, .int x3)]) hx hb dX4_letPass_15 rfl hl (by decide) rfl (fun ls hl => ?_)
        obtain ⟨v15, ev15, hf⟩ := bd_e hf
        refine lv_iinc (v := v15) (lv' := [(3, .int v15), (2, .int v14), (0, .ref (ad o)), (1, .int a1)]) hx hb dX4_letPass_16 hl (k := 3) rfl (by rw [ev15]; rfl) (by decide) rfl (fun ls hl => ?_)
        refine lv_goto (tgt := 4) hx hb dX4_letPass_19 (by decide) ?_
        exact ih4 v14 v15 m13 _ _ _ hf hP hS (lv_sub hl [2, 3, 1, 0] rfl)
  have hl := lv_entry ([.ref (ad o), .int a1]) (n := 4) (Nat.le_of_ble_eq_true rfl)
  rw [lg_entry_eq]
  generalize (lg_sl ([.ref (ad o), .int a1]) ++ List.replicate (4 - (lg_sl ([.ref (ad o), .int a1])).length) Slot.unset).toArray = ls at hl ⊢
  have hl : lv_has ls 4 [(0, .ref (ad o)), (1, .int a1)] := hl
  unfold F_X4_letPass at hf
  refine lv_iconst (v := 0) hx hb dX4_letPass_0 (by decide) ?_
  refine lv_istore_n (lv' := [(2, .int 0), (0, .ref (ad o)), (1, .int a1)]) hx hb dX4_letPass_1 rfl hl (by decide) rfl (fun ls hl => ?_)
  refine lv_iconst (v := 0) hx hb dX4_letPass_2 (by decide) ?_
  refine lv_istore_n (lv' := [(3, .int 0), (2, .int 0), (0, .ref (ad o)), (1, .int a1)]) hx hb dX4_letPass_3 rfl hl (by decide) rfl (fun ls hl => ?_)
  exact hL4 fu 0 0 mm _ _ _ hf hP hS (lv_sub hl [2, 3, 1, 0] rfl)
