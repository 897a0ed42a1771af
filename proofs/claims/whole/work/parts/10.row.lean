def F_X3_at (fu : Nat) (o : Nat) (on : Nat) (a1 : Int32) (mm : Mem) : Option (Int32 × Mem) := if a1 < 0 then (some (0, mm)) else (if (nI on) ≤ a1 then (some (0, mm)) else (gd (inb a1 on) (some ((mm (o + 1) a1.toNatClampNeg), mm))))
set_option maxHeartbeats 4000000 in
set_option maxRecDepth 100000 in
theorem c_X3_at (l : Launch) (D : va_G) (ad : Nat → Nat) (cI cR : ClassId) (hi : inj ad) (fu : Nat) (o : Nat) (on : Nat) (a1 : Int32) (ho : sRow ad cI cR o on) (mm : Mem) (r0 : Int32) (m9 : Mem) (hf : F_X3_at fu o on a1 mm = some (r0, m9)) : MI l yX3_at wsX3_at { frames := 0, cells := 0, slots := 0, locals := 0 } D ad cI cR [.ref (ad o), .int a1] mm r0 m9 := by
  refine Met.ofW (cc := cX3_at) (maxL := 2) (ret := (some .int)) (by decide) rfl ?_
  intro p e s m args below meth c s₁ B hml hv
  obtain ⟨rfl, hP, hK, hN⟩ := hv
  have hx := B.exec
  have hb := B.bytes
  have hr := B.returns
  have hts := atoms_spec (ws := wsX3_at) B.pre
  have hown : s.vm.findClass RX3 = some m.cls := findClass_of_methodNamed B.named
  have hlocks := B.notSynchronized
  have hA : ∀ q, AA ad q → AA ad q := fun _ h => h
  have hS : va_S (AA ad) s.heap s.heap [] := va_S.rf
  have hinX3 : ∀ w ∈ wsX30, w ∈ wsX3_at := (fun _ h => List.mem_cons_of_mem _ (List.mem_append_right _ h))
  have hl := lv_entry ([.ref (ad o), .int a1]) (n := 2) (Nat.le_of_ble_eq_true rfl)
  rw [lg_entry_eq]
  generalize (lg_sl ([.ref (ad o), .int a1]) ++ List.replicate (2 - (lg_sl ([.ref (ad o), .int a1])).length) Slot.unset).toArray = ls at hl ⊢
  have hl : lv_has ls 2 [(0, .ref (ad o)), (1, .int a1)] := hl
  unfold F_X3_at at hf
  refine lv_iload_n hx hb dX3_at_0 rfl (lv_at hl 1 rfl) ?_
  refine lv_if_lt (tgt := 22) hx hb dX3_at_1 (by decide) (fun c3 => ?_) (fun c3 => ?_)
  · rw [if_pos c3] at hf
    refine lv_iconst (v := 0) hx hb dX3_at_22 (by decide) ?_
    cases hf
    exact w_iret hx hb hr hlocks hP hS dX3_at_23
  · rw [if_neg c3] at hf
    refine lv_iload_n hx hb dX3_at_4 rfl (lv_at hl 1 rfl) ?_
    refine lv_aload_n hx hb dX3_at_5 rfl (lv_at hl 0 rfl) ?_
    refine w_get (C := RX3) (T := TX3) (N := 1) (ci := 3) (v := .ref (ad (o + 1))) hx hb hts hinX3 hown hK hP ho.1 ho.2.1 rfl 0 (by decide) (hts (.fieldLink RX3 7 "AdmissionControl$Row" "cells" "[I") (List.mem_of_getElem? (i := 1) rfl)) (fun _ h9 => h9) rfl dX3_at_6 ?_
    refine w_len hx hb hK hP ho.2.2 dX3_at_9 ?_
    refine lv_icmp_ge (tgt := 22) hx hb dX3_at_10 (by decide) (fun c4 => ?_) (fun c4 => ?_)
    · rw [if_pos c4] at hf
      refine lv_iconst (v := 0) hx hb dX3_at_22 (by decide) ?_
      cases hf
      exact w_iret hx hb hr hlocks hP hS dX3_at_23
    · rw [if_neg c4] at hf
      refine lv_aload_n hx hb dX3_at_13 rfl (lv_at hl 0 rfl) ?_
      refine w_get (C := RX3) (T := TX3) (N := 1) (ci := 3) (v := .ref (ad (o + 1))) hx hb hts hinX3 hown hK hP ho.1 ho.2.1 rfl 0 (by decide) (hts (.fieldLink RX3 7 "AdmissionControl$Row" "cells" "[I") (List.mem_of_getElem? (i := 1) rfl)) (fun _ h9 => h9) rfl dX3_at_14 ?_
      refine lv_iload_n hx hb dX3_at_17 rfl (lv_at hl 1 rfl) ?_
      obtain ⟨hnb, hf⟩ := gd_e hf
      refine w_ald hx hb hK hP ho.2.2 hnb dX3_at_18 ?_
      refine lv_goto (tgt := 23) hx hb dX3_at_19 (by decide) ?_
      cases hf
      exact w_iret hx hb hr hlocks hP hS dX3_at_23
def F_X3_put (fu : Nat) (o : Nat) (on : Nat) (a1 : Int32) (a2 : Int32) (mm : Mem) : Option (Mem) := if a1 < 0 then (some mm) else (if (nI on) ≤ a1 then (some mm) else (gd (inb a1 on) (bd (mput mm (o + 1) a1.toNatClampNeg a2) fun m6 => some m6)))
set_option maxHeartbeats 4000000 in
set_option maxRecDepth 100000 in
theorem c_X3_put (l : Launch) (D : va_G) (ad : Nat → Nat) (cI cR : ClassId) (hi : inj ad) (fu : Nat) (o : Nat) (on : Nat) (a1 : Int32) (a2 : Int32) (ho : sRow ad cI cR o on) (mm : Mem) (m9 : Mem) (hf : F_X3_put fu o on a1 a2 mm = some m9) : MV l yX3_put wsX3_put { frames := 0, cells := 0, slots := 0, locals := 0 } D ad cI cR [.ref (ad o), .int a1, .int a2] mm m9 := by
  refine Met.ofW (cc := cX3_put) (maxL := 3) (ret := none) (by decide) rfl ?_
  intro p e s m args below meth c s₁ B hml hv
  obtain ⟨rfl, hP, hK, hN⟩ := hv
  have hx := B.exec
  have hb := B.bytes
  have hr := B.returns
  have hts := atoms_spec (ws := wsX3_put) B.pre
  have hown : s.vm.findClass RX3 = some m.cls := findClass_of_methodNamed B.named
  have hlocks := B.notSynchronized
  have hA : ∀ q, AA ad q → AA ad q := fun _ h => h
  have hS : va_S (AA ad) s.heap s.heap [] := va_S.rf
  have hinX3 : ∀ w ∈ wsX30, w ∈ wsX3_put := (fun _ h => List.mem_cons_of_mem _ (List.mem_append_right _ h))
  have hl := lv_entry ([.ref (ad o), .int a1, .int a2]) (n := 3) (Nat.le_of_ble_eq_true rfl)
  rw [lg_entry_eq]
  generalize (lg_sl ([.ref (ad o), .int a1, .int a2]) ++ List.replicate (3 - (lg_sl ([.ref (ad o), .int a1, .int a2])).length) Slot.unset).toArray = ls at hl ⊢
  have hl : lv_has ls 3 [(0, .ref (ad o)), (1, .int a1), (2, .int a2)] := hl
  unfold F_X3_put at hf
  refine lv_iload_n hx hb dX3_put_0 rfl (lv_at hl 1 rfl) ?_
  refine lv_if_lt (tgt := 20) hx hb dX3_put_1 (by decide) (fun c4 => ?_) (fun c4 => ?_)
  · rw [if_pos c4] at hf
    cases hf
    exact w_vret hx hb hr hlocks hP hS dX3_put_20
  · rw [if_neg c4] at hf
    refine lv_iload_n hx hb dX3_put_4 rfl (lv_at hl 1 rfl) ?_
    refine lv_aload_n hx hb dX3_put_5 rfl (lv_at hl 0 rfl) ?_
    refine w_get (C := RX3) (T := TX3) (N := 1) (ci := 3) (v := .ref (ad (o + 1))) hx hb hts hinX3 hown hK hP ho.1 ho.2.1 rfl 0 (by decide) (hts (.fieldLink RX3 7 "AdmissionControl$Row" "cells" "[I") (List.mem_of_getElem? (i := 1) rfl)) (fun _ h9 => h9) rfl dX3_put_6 ?_
    refine w_len hx hb hK hP ho.2.2 dX3_put_9 ?_
    refine lv_icmp_ge (tgt := 20) hx hb dX3_put_10 (by decide) (fun c5 => ?_) (fun c5 => ?_)
    · rw [if_pos c5] at hf
      cases hf
      exact w_vret hx hb hr hlocks hP hS dX3_put_20
    · rw [if_neg c5] at hf
      refine lv_aload_n hx hb dX3_put_13 rfl (lv_at hl 0 rfl) ?_
      refine w_get (C := RX3) (T := TX3) (N := 1) (ci := 3) (v := .ref (ad (o + 1))) hx hb hts hinX3 hown hK hP ho.1 ho.2.1 rfl 0 (by decide) (hts (.fieldLink RX3 7 "AdmissionControl$Row" "cells" "[I") (List.mem_of_getElem? (i := 1) rfl)) (fun _ h9 => h9) rfl dX3_put_14 ?_
      refine lv_iload_n hx hb dX3_put_17 rfl (lv_at hl 1 rfl) ?_
      refine lv_iload_n hx hb dX3_put_18 rfl (lv_at hl 2 rfl) ?_
      obtain ⟨hnb, hf⟩ := gd_e hf
      obtain ⟨m6, em6, hf⟩ := bd_e hf
      refine w_ast hx hb hi hA hK hP hS ho.2.2 hnb dX3_put_19 (fun H locs hP hS => ?_)
      rw [← em6] at hP
      cases hf
      exact w_vret hx hb hr hlocks hP hS dX3_put_20
def F_X3_copyFrom_L2 (fu : Nat) (o : Nat) (on : Nat) (b1 : Nat) (b1n : Nat)  : Nat → Int32 → Mem → Option (Mem)
  | 0, _, _ => none
  | n + 1, x2, mm => if (nI on) ≤ x2 then (some mm) else (if (nI b1n) ≤ x2 then (some mm) else (gd (inb x2 b1n) (gd (inb x2 on) (bd (mput mm (o + 1) x2.toNatClampNeg (mm (b1 + 1) x2.toNatClampNeg)) fun m11 => bd (x2 + 1) fun v12 => F_X3_copyFrom_L2 fu o on b1 b1n n v12 m11))))
def F_X3_copyFrom (fu : Nat) (o : Nat) (on : Nat) (b1 : Nat) (b1n : Nat) (mm : Mem) : Option (Mem) := F_X3_copyFrom_L2 fu o on b1 b1n fu 0 mm
set_option maxHeartbeats 4000000 in
set_option maxRecDepth 100000 in
theorem c_X3_copyFrom (l : Launch) (D : va_G) (ad : Nat → Nat) (cI cR : ClassId) (hi : inj ad) (fu : Nat) (o : Nat) (on : Nat) (b1 : Nat) (b1n : Nat) (ho : sRow ad cI cR o on) (hb1 : sRow ad cI cR b1 b1n) (mm : Mem) (m9 : Mem) (hf : F_X3_copyFrom fu o on b1 b1n mm = some m9) : MV l yX3_copyFrom wsX3_copyFrom { frames := 0, cells := 0, slots := 0, locals := 0 } D ad cI cR [.ref (ad o), .ref (ad b1)] mm m9 := by
  refine Met.ofW (cc := cX3_copyFrom) (maxL := 3) (ret := none) (by decide) rfl ?_
  intro p e s m args below meth c s₁ B hml hv
  obtain ⟨rfl, hP, hK, hN⟩ := hv
  have hx := B.exec
  have hb := B.bytes
  have hr := B.returns
  have hts := atoms_spec (ws := wsX3_copyFrom) B.pre
  have hown : s.vm.findClass RX3 = some m.cls := findClass_of_methodNamed B.named
  have hlocks := B.notSynchronized
  have hA : ∀ q, AA ad q → AA ad q := fun _ h => h
  have hS : va_S (AA ad) s.heap s.heap [] := va_S.rf
  have hinX3 : ∀ w ∈ wsX30, w ∈ wsX3_copyFrom := (fun _ h => List.mem_cons_of_mem _ (List.mem_append_right _ h))
  have hL2 : ∀ (n : Nat) (x2 : Int32)  (mm : Mem) (H : Heap) (locs : List Loc) (ls : Array Slot), F_X3_copyFrom_L2 fu o on b1 b1n  n x2 mm = some m9 → va_P D vwCl (cw ad cI cR mm) H → va_S (AA ad) s.heap H locs → lv_has ls 3 [(0, .ref (ad o)), (1, .ref (ad b1)), (2, .int x2)] → W p l e (headSpec wsX3_copyFrom { frames := 0, cells := 0, slots := 0, locals := 0 }).room s m ([.ref (ad o), .ref (ad b1)] : List Value).toArray below meth c H locs 0 0 (MQ below (va_Qv (fun (u : Mem) => u = m9) (KB D ad cI cR) (AA ad)) ([.ref (ad o), .ref (ad b1)] : List Value).toArray s 0 0 (AA ad)) (F0 m 2 ls []) := by
    intro n
    induction n with
    | zero =>
      intro x2 mm H locs ls hf hP hS hl
      rw [F_X3_copyFrom_L2] at hf
      cases hf
    | succ n2 ih2 =>
      intro x2 mm H locs ls hf hP hS hl
      rw [F_X3_copyFrom_L2] at hf
      refine lv_iload_n hx hb dX3_copyFrom_2 rfl (lv_at hl 2 rfl) ?_
      refine lv_aload_n hx hb dX3_copyFrom_3 rfl (lv_at hl 0 rfl) ?_
      refine w_get (C := RX3) (T := TX3) (N := 1) (ci := 3) (v := .ref (ad (o + 1))) hx hb hts hinX3 hown hK hP ho.1 ho.2.1 rfl 0 (by decide) (hts (.fieldLink RX3 7 "AdmissionControl$Row" "cells" "[I") (List.mem_of_getElem? (i := 1) rfl)) (fun _ h9 => h9) rfl dX3_copyFrom_4 ?_
      refine w_len hx hb hK hP ho.2.2 dX3_copyFrom_7 ?_
      refine lv_icmp_ge (tgt := 38) hx hb dX3_copyFrom_8 (by decide) (fun c9 => ?_) (fun c9 => ?_)
      · rw [if_pos c9] at hf
        cases hf
        exact w_vret hx hb hr hlocks hP hS dX3_copyFrom_38
      · rw [if_neg c9] at hf
        refine lv_iload_n hx hb dX3_copyFrom_11 rfl (lv_at hl 2 rfl) ?_
        refine lv_aload_n hx hb dX3_copyFrom_12 rfl (lv_at hl 1 rfl) ?_
        refine w_get (C := RX3) (T := TX3) (N := 1) (ci := 3) (v := .ref (ad (b1 + 1))) hx hb hts hinX3 hown hK hP hb1.1 hb1.2.1 rfl 0 (by decide) (hts (.fieldLink RX3 7 "AdmissionControl$Row" "cells" "[I") (List.mem_of_getElem? (i := 1) rfl)) (fun _ h9 => h9) rfl dX3_copyFrom_13 ?_
        refine w_len hx hb hK hP hb1.2.2 dX3_copyFrom_16 ?_
        refine lv_icmp_ge (tgt := 38) hx hb dX3_copyFrom_17 (by decide) (fun c10 => ?_) (fun c10 => ?_)
        · rw [if_pos c10] at hf
          cases hf
          exact w_vret hx hb hr hlocks hP hS dX3_copyFrom_38
        · rw [if_neg c10] at hf
          refine lv_aload_n hx hb dX3_copyFrom_20 rfl (lv_at hl 0 rfl) ?_
          refine w_get (C := RX3) (T := TX3) (N := 1) (ci := 3) (v := .ref (ad (o + 1))) hx hb hts hinX3 hown hK hP ho.1 ho.2.1 rfl 0 (by decide) (hts (.fieldLink RX3 7 "AdmissionControl$Row" "cells" "[I") (List.mem_of_getElem? (i := 1) rfl)) (fun _ h9 => h9) rfl dX3_copyFrom_21 ?_
          refine lv_iload_n hx hb dX3_copyFrom_24 rfl (lv_at hl 2 rfl) ?_
          refine lv_aload_n hx hb dX3_copyFrom_25 rfl (lv_at hl 1 rfl) ?_
          refine w_get (C := RX3) (T := TX3) (N := 1) (ci := 3) (v := .ref (ad (b1 + 1))) hx hb hts hinX3 hown hK hP hb1.1 hb1.2.1 rfl 0 (by decide) (hts (.fieldLink RX3 7 "AdmissionControl$Row" "cells" "[I") (List.mem_of_getElem? (i := 1) rfl)) (fun _ h9 => h9) rfl dX3_copyFrom_26 ?_
          refine lv_iload_n hx hb dX3_copyFrom_29 rfl (lv_at hl 2 rfl) ?_
          obtain ⟨hnb, hf⟩ := gd_e hf
          refine w_ald hx hb hK hP hb1.2.2 hnb dX3_copyFrom_30 ?_
          obtain ⟨hnb, hf⟩ := gd_e hf
          obtain ⟨m11, em11, hf⟩ := bd_e hf
          refine w_ast hx hb hi hA hK hP hS ho.2.2 hnb dX3_copyFrom_31 (fun H locs hP hS => ?_)
          rw [← em11] at hP
          obtain ⟨v12, ev12, hf⟩ := bd_e hf
          refine lv_iinc (v := v12) (lv' := [(2, .int v12), (0, .ref (ad o)), (1, .ref (ad b1))]) hx hb dX3_copyFrom_32 hl (k := 2) rfl (by rw [ev12]; rfl) (by decide) rfl (fun ls hl => ?_)
          refine lv_goto (tgt := 2) hx hb dX3_copyFrom_35 (by decide) ?_
          exact ih2 v12 m11 _ _ _ hf hP hS (lv_sub hl [1, 2, 0] rfl)
  have hl := lv_entry ([.ref (ad o), .ref (ad b1)]) (n := 3) (Nat.le_of_ble_eq_true rfl)
  rw [lg_entry_eq]
  generalize (lg_sl ([.ref (ad o), .ref (ad b1)]) ++ List.replicate (3 - (lg_sl ([.ref (ad o), .ref (ad b1)])).length) Slot.unset).toArray = ls at hl ⊢
  have hl : lv_has ls 3 [(0, .ref (ad o)), (1, .ref (ad b1))] := hl
  unfold F_X3_copyFrom at hf
  refine lv_iconst (v := 0) hx hb dX3_copyFrom_0 (by decide) ?_
  refine lv_istore_n (lv' := [(2, .int 0), (0, .ref (ad o)), (1, .ref (ad b1))]) hx hb dX3_copyFrom_1 rfl hl (by decide) rfl (fun ls hl => ?_)
  exact hL2 fu 0 mm _ _ _ hf hP hS (lv_sub hl [1, 2, 0] rfl)
def F_X2_begin (fu : Nat) (o : Nat) (a1 : Int32) (a2 : Int32) (a3 : Int32) (mm : Mem) : Option (Mem) := bd (mput mm o 1 a1) fun m11 => bd (mput m11 o 2 a2) fun m12 => bd (mput m12 o 3 a3) fun m13 => bd (mput m13 o 4 0) fun m14 => bd (mput m14 o 5 0) fun m15 => bd (mput m15 o 6 0) fun m16 => bd (mput m16 o 7 0) fun m17 => bd (mput m17 o 8 0) fun m18 => bd (mput m18 o 9 0) fun m19 => bd (mput m19 o 10 0) fun m20 => some m20
set_option maxHeartbeats 4000000 in
set_option maxRecDepth 100000 in
theorem c_X2_begin (l : Launch) (D : va_G) (ad : Nat → Nat) (cI cR : ClassId) (hi : inj ad) (fu : Nat) (o : Nat) (a1 : Int32) (a2 : Int32) (a3 : Int32) (ho : sReq ad cI cR o) (mm : Mem) (m9 : Mem) (hf : F_X2_begin fu o a1 a2 a3 mm = some m9) : MV l yX2_begin wsX2_begin { frames := 0, cells := 0, slots := 0, locals := 0 } D ad cI cR [.ref (ad o), .int a1, .int a2, .int a3] mm m9 := by
  refine Met.ofW (cc := cX2_begin) (maxL := 4) (ret := none) (by decide) rfl ?_
  intro p e s m args below meth c s₁ B hml hv
  obtain ⟨rfl, hP, hK, hN⟩ := hv
  have hx := B.exec
  have hb := B.bytes
  have hr := B.returns
  have hts := atoms_spec (ws := wsX2_begin) B.pre
  have hown : s.vm.findClass RX2 = some m.cls := findClass_of_methodNamed B.named
  have hlocks := B.notSynchronized
  have hA : ∀ q, AA ad q → AA ad q := fun _ h => h
  have hS : va_S (AA ad) s.heap s.heap [] := va_S.rf
  have hinX2 : ∀ w ∈ wsX20, w ∈ wsX2_begin := (fun _ h => List.mem_cons_of_mem _ (List.mem_append_right _ h))
  have hl := lv_entry ([.ref (ad o), .int a1, .int a2, .int a3]) (n := 4) (Nat.le_of_ble_eq_true rfl)
  rw [lg_entry_eq]
  generalize (lg_sl ([.ref (ad o), .int a1, .int a2, .int a3]) ++ List.replicate (4 - (lg_sl ([.ref (ad o), .int a1, .int a2, .int a3])).length) Slot.unset).toArray = ls at hl ⊢
  have hl : lv_has ls 4 [(0, .ref (ad o)), (1, .int a1), (2, .int a2), (3, .int a3)] := hl
  unfold F_X2_begin at hf
  refine lv_aload_n hx hb dX2_begin_0 rfl (lv_at hl 0 rfl) ?_
  refine lv_iload_n hx hb dX2_begin_1 rfl (lv_at hl 1 rfl) ?_
  obtain ⟨m11, em11, hf⟩ := bd_e hf
  refine w_put (C := RX2) (T := TX2) (N := 11) (ci := 2) (x := a1) hx hb hts hinX2 tyX2 tyX2_ok nmX2 hown hi hA hK hP hS ho.1 ho.2 rfl 1 (by decide) (hts (.fieldLink RX2 15 "AdmissionControl$Request" "kind" "I") (List.mem_of_getElem? (i := 1) rfl)) (fun _ h9 => h9) rfl rfl rfl (Nat.le_of_ble_eq_true rfl) rfl dX2_begin_2 (fun H locs hP hS => ?_)
  rw [← em11] at hP
  refine lv_aload_n hx hb dX2_begin_5 rfl (lv_at hl 0 rfl) ?_
  refine lv_iload_n hx hb dX2_begin_6 rfl (lv_at hl 2 rfl) ?_
  obtain ⟨m12, em12, hf⟩ := bd_e hf
  refine w_put (C := RX2) (T := TX2) (N := 11) (ci := 2) (x := a2) hx hb hts hinX2 tyX2 tyX2_ok nmX2 hown hi hA hK hP hS ho.1 ho.2 rfl 2 (by decide) (hts (.fieldLink RX2 18 "AdmissionControl$Request" "shape" "I") (List.mem_of_getElem? (i := 2) rfl)) (fun _ h9 => h9) rfl rfl rfl (Nat.le_of_ble_eq_true rfl) rfl dX2_begin_7 (fun H locs hP hS => ?_)
  rw [← em12] at hP
  refine lv_aload_n hx hb dX2_begin_10 rfl (lv_at hl 0 rfl) ?_
  refine lv_iload_n hx hb dX2_begin_11 rfl (lv_at hl 3 rfl) ?_
  obtain ⟨m13, em13, hf⟩ := bd_e hf
  refine w_put (C := RX2) (T := TX2) (N := 11) (ci := 2) (x := a3) hx hb hts hinX2 tyX2 tyX2_ok nmX2 hown hi hA hK hP hS ho.1 ho.2 rfl 3 (by decide) (hts (.fieldLink RX2 21 "AdmissionControl$Request" "cost" "I") (List.mem_of_getElem? (i := 3) rfl)) (fun _ h9 => h9) rfl rfl rfl (Nat.le_of_ble_eq_true rfl) rfl dX2_begin_12 (fun H locs hP hS => ?_)
  rw [← em13] at hP
  refine lv_aload_n hx hb dX2_begin_15 rfl (lv_at hl 0 rfl) ?_
  refine lv_iconst (v := 0) hx hb dX2_begin_16 (by decide) ?_
  obtain ⟨m14, em14, hf⟩ := bd_e hf
  refine w_put (C := RX2) (T := TX2) (N := 11) (ci := 2) (x := 0) hx hb hts hinX2 tyX2 tyX2_ok nmX2 hown hi hA hK hP hS ho.1 ho.2 rfl 4 (by decide) (hts (.fieldLink RX2 24 "AdmissionControl$Request" "state" "I") (List.mem_of_getElem? (i := 4) rfl)) (fun _ h9 => h9) rfl rfl rfl (Nat.le_of_ble_eq_true rfl) rfl dX2_begin_17 (fun H locs hP hS => ?_)
  rw [← em14] at hP
  refine lv_aload_n hx hb dX2_begin_20 rfl (lv_at hl 0 rfl) ?_
  refine lv_iconst (v := 0) hx hb dX2_begin_21 (by decide) ?_
  obtain ⟨m15, em15, hf⟩ := bd_e hf
  refine w_put (C := RX2) (T := TX2) (N := 11) (ci := 2) (x := 0) hx hb hts hinX2 tyX2 tyX2_ok nmX2 hown hi hA hK hP hS ho.1 ho.2 rfl 5 (by decide) (hts (.fieldLink RX2 27 "AdmissionControl$Request" "price" "I") (List.mem_of_getElem? (i := 5) rfl)) (fun _ h9 => h9) rfl rfl rfl (Nat.le_of_ble_eq_true rfl) rfl dX2_begin_22 (fun H locs hP hS => ?_)
  rw [← em15] at hP
  refine lv_aload_n hx hb dX2_begin_25 rfl (lv_at hl 0 rfl) ?_
  refine lv_iconst (v := 0) hx hb dX2_begin_26 (by decide) ?_
  obtain ⟨m16, em16, hf⟩ := bd_e hf
  refine w_put (C := RX2) (T := TX2) (N := 11) (ci := 2) (x := 0) hx hb hts hinX2 tyX2 tyX2_ok nmX2 hown hi hA hK hP hS ho.1 ho.2 rfl 6 (by decide) (hts (.fieldLink RX2 30 "AdmissionControl$Request" "units" "I") (List.mem_of_getElem? (i := 6) rfl)) (fun _ h9 => h9) rfl rfl rfl (Nat.le_of_ble_eq_true rfl) rfl dX2_begin_27 (fun H locs hP hS => ?_)
  rw [← em16] at hP
  refine lv_aload_n hx hb dX2_begin_30 rfl (lv_at hl 0 rfl) ?_
  refine lv_iconst (v := 0) hx hb dX2_begin_31 (by decide) ?_
  obtain ⟨m17, em17, hf⟩ := bd_e hf
  refine w_put (C := RX2) (T := TX2) (N := 11) (ci := 2) (x := 0) hx hb hts hinX2 tyX2 tyX2_ok nmX2 hown hi hA hK hP hS ho.1 ho.2 rfl 7 (by decide) (hts (.fieldLink RX2 33 "AdmissionControl$Request" "offers" "I") (List.mem_of_getElem? (i := 7) rfl)) (fun _ h9 => h9) rfl rfl rfl (Nat.le_of_ble_eq_true rfl) rfl dX2_begin_32 (fun H locs hP hS => ?_)
  rw [← em17] at hP
  refine lv_aload_n hx hb dX2_begin_35 rfl (lv_at hl 0 rfl) ?_
  refine lv_iconst (v := 0) hx hb dX2_begin_36 (by decide) ?_
  obtain ⟨m18, em18, hf⟩ := bd_e hf
  refine w_put (C := RX2) (T := TX2) (N := 11) (ci := 2) (x := 0) hx hb hts hinX2 tyX2 tyX2_ok nmX2 hown hi hA hK hP hS ho.1 ho.2 rfl 8 (by decide) (hts (.fieldLink RX2 36 "AdmissionControl$Request" "reason" "I") (List.mem_of_getElem? (i := 8) rfl)) (fun _ h9 => h9) rfl rfl rfl (Nat.le_of_ble_eq_true rfl) rfl dX2_begin_37 (fun H locs hP hS => ?_)
  rw [← em18] at hP
  refine lv_aload_n hx hb dX2_begin_40 rfl (lv_at hl 0 rfl) ?_
  refine lv_iconst (v := 0) hx hb dX2_begin_41 (by decide) ?_
  obtain ⟨m19, em19, hf⟩ := bd_e hf
  refine w_put (C := RX2) (T := TX2) (N := 11) (ci := 2) (x := 0) hx hb hts hinX2 tyX2 tyX2_ok nmX2 hown hi hA hK hP hS ho.1 ho.2 rfl 9 (by decide) (hts (.fieldLink RX2 39 "AdmissionControl$Request" "admitted" "I") (List.mem_of_getElem? (i := 9) rfl)) (fun _ h9 => h9) rfl rfl rfl (Nat.le_of_ble_eq_true rfl) rfl dX2_begin_42 (fun H locs hP hS => ?_)
  rw [← em19] at hP
  refine lv_aload_n hx hb dX2_begin_45 rfl (lv_at hl 0 rfl) ?_
  refine lv_iconst (v := 0) hx hb dX2_begin_46 (by decide) ?_
  obtain ⟨m20, em20, hf⟩ := bd_e hf
  refine w_put (C := RX2) (T := TX2) (N := 11) (ci := 2) (x := 0) hx hb hts hinX2 tyX2 tyX2_ok nmX2 hown hi hA hK hP hS ho.1 ho.2 rfl 10 (by decide) (hts (.fieldLink RX2 42 "AdmissionControl$Request" "tick" "I") (List.mem_of_getElem? (i := 10) rfl)) (fun _ h9 => h9) rfl rfl rfl (Nat.le_of_ble_eq_true rfl) rfl dX2_begin_47 (fun H locs hP hS => ?_)
  rw [← em20] at hP
  cases hf
  exact w_vret hx hb hr hlocks hP hS dX2_begin_50
def F_X2_isSettled (fu : Nat) (o : Nat) (mm : Mem) : Option (Int32 × Mem) := if (mm o 4) = 2 then (some (1, mm)) else (if (mm o 4) = 4 then (some (1, mm)) else (some (0, mm)))
set_option maxHeartbeats 4000000 in
set_option maxRecDepth 100000 in
theorem c_X2_isSettled (l : Launch) (D : va_G) (ad : Nat → Nat) (cI cR : ClassId) (hi : inj ad) (fu : Nat) (o : Nat) (ho : sReq ad cI cR o) (mm : Mem) (r0 : Int32) (m9 : Mem) (hf : F_X2_isSettled fu o mm = some (r0, m9)) : MI l yX2_isSettled wsX2_isSettled { frames := 0, cells := 0, slots := 0, locals := 0 } D ad cI cR [.ref (ad o)] mm r0 m9 := by
  refine Met.ofW (cc := cX2_isSettled) (maxL := 1) (ret := (some .boolean)) (by decide) rfl ?_
  intro p e s m args below meth c s₁ B hml hv
  obtain ⟨rfl, hP, hK, hN⟩ := hv
  have hx := B.exec
  have hb := B.bytes
  have hr := B.returns
  have hts := atoms_spec (ws := wsX2_isSettled) B.pre
  have hown : s.vm.findClass RX2 = some m.cls := findClass_of_methodNamed B.named
  have hlocks := B.notSynchronized
  have hA : ∀ q, AA ad q → AA ad q := fun _ h => h
  have hS : va_S (AA ad) s.heap s.heap [] := va_S.rf
  have hinX2 : ∀ w ∈ wsX20, w ∈ wsX2_isSettled := (fun _ h => List.mem_cons_of_mem _ (List.mem_append_right _ h))
  have hl := lv_entry ([.ref (ad o)]) (n := 1) (Nat.le_of_ble_eq_true rfl)
  rw [lg_entry_eq]
  generalize (lg_sl ([.ref (ad o)]) ++ List.replicate (1 - (lg_sl ([.ref (ad o)])).length) Slot.unset).toArray = ls at hl ⊢
  have hl : lv_has ls 1 [(0, .ref (ad o))] := hl
  unfold F_X2_isSettled at hf
  refine lv_aload_n hx hb dX2_isSettled_0 rfl (lv_at hl 0 rfl) ?_
  refine w_get (C := RX2) (T := TX2) (N := 11) (ci := 2) (v := .int (mm o 4)) hx hb hts hinX2 hown hK hP ho.1 ho.2 rfl 4 (by decide) (hts (.fieldLink RX2 24 "AdmissionControl$Request" "state" "I") (List.mem_of_getElem? (i := 1) rfl)) (fun _ h9 => h9) rfl dX2_isSettled_1 ?_
  refine lv_iconst (v := 2) hx hb dX2_isSettled_4 (by decide) ?_
  refine lv_icmp_eq (tgt := 16) hx hb dX2_isSettled_5 (by decide) (fun c3 => ?_) (fun c3 => ?_)
  · rw [if_pos c3] at hf
    refine lv_iconst (v := 1) hx hb dX2_isSettled_16 (by decide) ?_
    refine lv_goto (tgt := 21) hx hb dX2_isSettled_17 (by decide) ?_
    cases hf
    exact w_zret hx hb hr hlocks rfl hP hS dX2_isSettled_21
  · rw [if_neg c3] at hf
    refine lv_aload_n hx hb dX2_isSettled_8 rfl (lv_at hl 0 rfl) ?_
    refine w_get (C := RX2) (T := TX2) (N := 11) (ci := 2) (v := .int (mm o 4)) hx hb hts hinX2 hown hK hP ho.1 ho.2 rfl 4 (by decide) (hts (.fieldLink RX2 24 "AdmissionControl$Request" "state" "I") (List.mem_of_getElem? (i := 1) rfl)) (fun _ h9 => h9) rfl dX2_isSettled_9 ?_
    refine lv_iconst (v := 4) hx hb dX2_isSettled_12 (by decide) ?_
    refine lv_icmp_ne (tgt := 20) hx hb dX2_isSettled_13 (by decide) (fun c4 => ?_) (fun c4 => ?_)
    · rw [if_neg c4] at hf
      refine lv_iconst (v := 0) hx hb dX2_isSettled_20 (by decide) ?_
      cases hf
      exact w_zret hx hb hr hlocks rfl hP hS dX2_isSettled_21
    · rw [if_pos c4] at hf
      refine lv_iconst (v := 1) hx hb dX2_isSettled_16 (by decide) ?_
      refine lv_goto (tgt := 21) hx hb dX2_isSettled_17 (by decide) ?_
      cases hf
      exact w_zret hx hb hr hlocks rfl hP hS dX2_isSettled_21
def F_X2_copyFrom (fu : Nat) (o : Nat) (b1 : Nat) (mm : Mem) : Option (Mem) := bd (mput mm o 1 (mm b1 1)) fun m11 => bd (mput m11 o 2 (m11 b1 2)) fun m12 => bd (mput m12 o 3 (m12 b1 3)) fun m13 => bd (mput m13 o 4 (m13 b1 4)) fun m14 => bd (mput m14 o 5 (m14 b1 5)) fun m15 => bd (mput m15 o 6 (m15 b1 6)) fun m16 => bd (mput m16 o 7 (m16 b1 7)) fun m17 => bd (mput m17 o 8 (m17 b1 8)) fun m18 => bd (mput m18 o 9 (m18 b1 9)) fun m19 => bd (mput m19 o 10 (m19 b1 10)) fun m20 => some m20
set_option maxHeartbeats 4000000 in
set_option maxRecDepth 100000 in
theorem c_X2_copyFrom (l : Launch) (D : va_G) (ad : Nat → Nat) (cI cR : ClassId) (hi : inj ad) (fu : Nat) (o : Nat) (b1 : Nat) (ho : sReq ad cI cR o) (hb1 : sReq ad cI cR b1) (mm : Mem) (m9 : Mem) (hf : F_X2_copyFrom fu o b1 mm = some m9) : MV l yX2_copyFrom wsX2_copyFrom { frames := 0, cells := 0, slots := 0, locals := 0 } D ad cI cR [.ref (ad o), .ref (ad b1)] mm m9 := by
  refine Met.ofW (cc := cX2_copyFrom) (maxL := 2) (ret := none) (by decide) rfl ?_
  intro p e s m args below meth c s₁ B hml hv
  obtain ⟨rfl, hP, hK, hN⟩ := hv
  have hx := B.exec
  have hb := B.bytes
  have hr := B.returns
  have hts := atoms_spec (ws := wsX2_copyFrom) B.pre
  have hown : s.vm.findClass RX2 = some m.cls := findClass_of_methodNamed B.named
  have hlocks := B.notSynchronized
  have hA : ∀ q, AA ad q → AA ad q := fun _ h => h
  have hS : va_S (AA ad) s.heap s.heap [] := va_S.rf
  have hinX2 : ∀ w ∈ wsX20, w ∈ wsX2_copyFrom := (fun _ h => List.mem_cons_of_mem _ (List.mem_append_right _ h))
  have hl := lv_entry ([.ref (ad o), .ref (ad b1)]) (n := 2) (Nat.le_of_ble_eq_true rfl)
  rw [lg_entry_eq]
  generalize (lg_sl ([.ref (ad o), .ref (ad b1)]) ++ List.replicate (2 - (lg_sl ([.ref (ad o), .ref (ad b1)])).length) Slot.unset).toArray = ls at hl ⊢
  have hl : lv_has ls 2 [(0, .ref (ad o)), (1, .ref (ad b1))] := hl
  unfold F_X2_copyFrom at hf
  refine lv_aload_n hx hb dX2_copyFrom_0 rfl (lv_at hl 0 rfl) ?_
  refine lv_aload_n hx hb dX2_copyFrom_1 rfl (lv_at hl 1 rfl) ?_
  refine w_get (C := RX2) (T := TX2) (N := 11) (ci := 2) (v := .int (mm b1 1)) hx hb hts hinX2 hown hK hP hb1.1 hb1.2 rfl 1 (by decide) (hts (.fieldLink RX2 15 "AdmissionControl$Request" "kind" "I") (List.mem_of_getElem? (i := 1) rfl)) (fun _ h9 => h9) rfl dX2_copyFrom_2 ?_
  obtain ⟨m11, em11, hf⟩ := bd_e hf
  refine w_put (C := RX2) (T := TX2) (N := 11) (ci := 2) (x := (mm b1 1)) hx hb hts hinX2 tyX2 tyX2_ok nmX2 hown hi hA hK hP hS ho.1 ho.2 rfl 1 (by decide) (hts (.fieldLink RX2 15 "AdmissionControl$Request" "kind" "I") (List.mem_of_getElem? (i := 1) rfl)) (fun _ h9 => h9) rfl rfl rfl (Nat.le_of_ble_eq_true rfl) rfl dX2_copyFrom_5 (fun H locs hP hS => ?_)
  rw [← em11] at hP
  refine lv_aload_n hx hb dX2_copyFrom_8 rfl (lv_at hl 0 rfl) ?_
  refine lv_aload_n hx hb dX2_copyFrom_9 rfl (lv_at hl 1 rfl) ?_
  refine w_get (C := RX2) (T := TX2) (N := 11) (ci := 2) (v := .int (m11 b1 2)) hx hb hts hinX2 hown hK hP hb1.1 hb1.2 rfl 2 (by decide) (hts (.fieldLink RX2 18 "AdmissionControl$Request" "shape" "I") (List.mem_of_getElem? (i := 2) rfl)) (fun _ h9 => h9) rfl dX2_copyFrom_10 ?_
  obtain ⟨m12, em12, hf⟩ := bd_e hf
  refine w_put (C := RX2) (T := TX2) (N := 11) (ci := 2) (x := (m11 b1 2)) hx hb hts hinX2 tyX2 tyX2_ok nmX2 hown hi hA hK hP hS ho.1 ho.2 rfl 2 (by decide) (hts (.fieldLink RX2 18 "AdmissionControl$Request" "shape" "I") (List.mem_of_getElem? (i := 2) rfl)) (fun _ h9 => h9) rfl rfl rfl (Nat.le_of_ble_eq_true rfl) rfl dX2_copyFrom_13 (fun H locs hP hS => ?_)
  rw [← em12] at hP
  refine lv_aload_n hx hb dX2_copyFrom_16 rfl (lv_at hl 0 rfl) ?_
  refine lv_aload_n hx hb dX2_copyFrom_17 rfl (lv_at hl 1 rfl) ?_
  refine w_get (C := RX2) (T := TX2) (N := 11) (ci := 2) (v := .int (m12 b1 3)) hx hb hts hinX2 hown hK hP hb1.1 hb1.2 rfl 3 (by decide) (hts (.fieldLink RX2 21 "AdmissionControl$Request" "cost" "I") (List.mem_of_getElem? (i := 3) rfl)) (fun _ h9 => h9) rfl dX2_copyFrom_18 ?_
  obtain ⟨m13, em13, hf⟩ := bd_e hf
  refine w_put (C := RX2) (T := TX2) (N := 11) (ci := 2) (x := (m12 b1 3)) hx hb hts hinX2 tyX2 tyX2_ok nmX2 hown hi hA hK hP hS ho.1 ho.2 rfl 3 (by decide) (hts (.fieldLink RX2 21 "AdmissionControl$Request" "cost" "I") (List.mem_of_getElem? (i := 3) rfl)) (fun _ h9 => h9) rfl rfl rfl (Nat.le_of_ble_eq_true rfl) rfl dX2_copyFrom_21 (fun H locs hP hS => ?_)
  rw [← em13] at hP
  refine lv_aload_n hx hb dX2_copyFrom_24 rfl (lv_at hl 0 rfl) ?_
  refine lv_aload_n hx hb dX2_copyFrom_25 rfl (lv_at hl 1 rfl) ?_
  refine w_get (C := RX2) (T := TX2) (N := 11) (ci := 2) (v := .int (m13 b1 4)) hx hb hts hinX2 hown hK hP hb1.1 hb1.2 rfl 4 (by decide) (hts (.fieldLink RX2 24 "AdmissionControl$Request" "state" "I") (List.mem_of_getElem? (i := 4) rfl)) (fun _ h9 => h9) rfl dX2_copyFrom_26 ?_
  obtain ⟨m14, em14, hf⟩ := bd_e hf
  refine w_put (C := RX2) (T := TX2) (N := 11) (ci := 2) (x := (m13 b1 4)) hx hb hts hinX2 tyX2 tyX2_ok nmX2 hown hi hA hK hP hS ho.1 ho.2 rfl 4 (by decide) (hts (.fieldLink RX2 24 "AdmissionControl$Request" "state" "I") (List.mem_of_getElem? (i := 4) rfl)) (fun _ h9 => h9) rfl rfl rfl (Nat.le_of_ble_eq_true rfl) rfl dX2_copyFrom_29 (fun H locs hP hS => ?_)
  rw [← em14] at hP
  refine lv_aload_n hx hb dX2_copyFrom_32 rfl (lv_at hl 0 rfl) ?_
  refine lv_aload_n hx hb dX2_copyFrom_33 rfl (lv_at hl 1 rfl) ?_
  refine w_get (C := RX2) (T := TX2) (N := 11) (ci := 2) (v := .int (m14 b1 5)) hx hb hts hinX2 hown hK hP hb1.1 hb1.2 rfl 5 (by decide) (hts (.fieldLink RX2 27 "AdmissionControl$Request" "price" "I") (List.mem_of_getElem? (i := 5) rfl)) (fun _ h9 => h9) rfl dX2_copyFrom_34 ?_
  obtain ⟨m15, em15, hf⟩ := bd_e hf
  refine w_put (C := RX2) (T := TX2) (N := 11) (ci := 2) (x := (m14 b1 5)) hx hb hts hinX2 tyX2 tyX2_ok nmX2 hown hi hA hK hP hS ho.1 ho.2 rfl 5 (by decide) (hts (.fieldLink RX2 27 "AdmissionControl$Request" "price" "I") (List.mem_of_getElem? (i := 5) rfl)) (fun _ h9 => h9) rfl rfl rfl (Nat.le_of_ble_eq_true rfl) rfl dX2_copyFrom_37 (fun H locs hP hS => ?_)
  rw [← em15] at hP
  refine lv_aload_n hx hb dX2_copyFrom_40 rfl (lv_at hl 0 rfl) ?_
  refine lv_aload_n hx hb dX2_copyFrom_41 rfl (lv_at hl 1 rfl) ?_
  refine w_get (C := RX2) (T := TX2) (N := 11) (ci := 2) (v := .int (m15 b1 6)) hx hb hts hinX2 hown hK hP hb1.1 hb1.2 rfl 6 (by decide) (hts (.fieldLink RX2 30 "AdmissionControl$Request" "units" "I") (List.mem_of_getElem? (i := 6) rfl)) (fun _ h9 => h9) rfl dX2_copyFrom_42 ?_
  obtain ⟨m16, em16, hf⟩ := bd_e hf
  refine w_put (C := RX2) (T := TX2) (N := 11) (ci := 2) (x := (m15 b1 6)) hx hb hts hinX2 tyX2 tyX2_ok nmX2 hown hi hA hK hP hS ho.1 ho.2 rfl 6 (by decide) (hts (.fieldLink RX2 30 "AdmissionControl$Request" "units" "I") (List.mem_of_getElem? (i := 6) rfl)) (fun _ h9 => h9) rfl rfl rfl (Nat.le_of_ble_eq_true rfl) rfl dX2_copyFrom_45 (fun H locs hP hS => ?_)
  rw [← em16] at hP
  refine lv_aload_n hx hb dX2_copyFrom_48 rfl (lv_at hl 0 rfl) ?_
  refine lv_aload_n hx hb dX2_copyFrom_49 rfl (lv_at hl 1 rfl) ?_
  refine w_get (C := RX2) (T := TX2) (N := 11) (ci := 2) (v := .int (m16 b1 7)) hx hb hts hinX2 hown hK hP hb1.1 hb1.2 rfl 7 (by decide) (hts (.fieldLink RX2 33 "AdmissionControl$Request" "offers" "I") (List.mem_of_getElem? (i := 7) rfl)) (fun _ h9 => h9) rfl dX2_copyFrom_50 ?_
  obtain ⟨m17, em17, hf⟩ := bd_e hf
  refine w_put (C := RX2) (T := TX2) (N := 11) (ci := 2) (x := (m16 b1 7)) hx hb hts hinX2 tyX2 tyX2_ok nmX2 hown hi hA hK hP hS ho.1 ho.2 rfl 7 (by decide) (hts (.fieldLink RX2 33 "AdmissionControl$Request" "offers" "I") (List.mem_of_getElem? (i := 7) rfl)) (fun _ h9 => h9) rfl rfl rfl (Nat.le_of_ble_eq_true rfl) rfl dX2_copyFrom_53 (fun H locs hP hS => ?_)
  rw [← em17] at hP
  refine lv_aload_n hx hb dX2_copyFrom_56 rfl (lv_at hl 0 rfl) ?_
  refine lv_aload_n hx hb dX2_copyFrom_57 rfl (lv_at hl 1 rfl) ?_
  refine w_get (C := RX2) (T := TX2) (N := 11) (ci := 2) (v := .int (m17 b1 8)) hx hb hts hinX2 hown hK hP hb1.1 hb1.2 rfl 8 (by decide) (hts (.fieldLink RX2 36 "AdmissionControl$Request" "reason" "I") (List.mem_of_getElem? (i := 8) rfl)) (fun _ h9 => h9) rfl dX2_copyFrom_58 ?_
  obtain ⟨m18, em18, hf⟩ := bd_e hf
  refine w_put (C := RX2) (T := TX2) (N := 11) (ci := 2) (x := (m17 b1 8)) hx hb hts hinX2 tyX2 tyX2_ok nmX2 hown hi hA hK hP hS ho.1 ho.2 rfl 8 (by decide) (hts (.fieldLink RX2 36 "AdmissionControl$Request" "reason" "I") (List.mem_of_getElem? (i := 8) rfl)) (fun _ h9 => h9) rfl rfl rfl (Nat.le_of_ble_eq_true rfl) rfl dX2_copyFrom_61 (fun H locs hP hS => ?_)
  rw [← em18] at hP
  refine lv_aload_n hx hb dX2_copyFrom_64 rfl (lv_at hl 0 rfl) ?_
  refine lv_aload_n hx hb dX2_copyFrom_65 rfl (lv_at hl 1 rfl) ?_
  refine w_get (C := RX2) (T := TX2) (N := 11) (ci := 2) (v := .int (m18 b1 9)) hx hb hts hinX2 hown hK hP hb1.1 hb1.2 rfl 9 (by decide) (hts (.fieldLink RX2 39 "AdmissionControl$Request" "admitted" "I") (List.mem_of_getElem? (i := 9) rfl)) (fun _ h9 => h9) rfl dX2_copyFrom_66 ?_
  obtain ⟨m19, em19, hf⟩ := bd_e hf
  refine w_put (C := RX2) (T := TX2) (N := 11) (ci := 2) (x := (m18 b1 9)) hx hb hts hinX2 tyX2 tyX2_ok nmX2 hown hi hA hK hP hS ho.1 ho.2 rfl 9 (by decide) (hts (.fieldLink RX2 39 "AdmissionControl$Request" "admitted" "I") (List.mem_of_getElem? (i := 9) rfl)) (fun _ h9 => h9) rfl rfl rfl (Nat.le_of_ble_eq_true rfl) rfl dX2_copyFrom_69 (fun H locs hP hS => ?_)
  rw [← em19] at hP
  refine lv_aload_n hx hb dX2_copyFrom_72 rfl (lv_at hl 0 rfl) ?_
  refine lv_aload_n hx hb dX2_copyFrom_73 rfl (lv_at hl 1 rfl) ?_
  refine w_get (C := RX2) (T := TX2) (N := 11) (ci := 2) (v := .int (m19 b1 10)) hx hb hts hinX2 hown hK hP hb1.1 hb1.2 rfl 10 (by decide) (hts (.fieldLink RX2 42 "AdmissionControl$Request" "tick" "I") (List.mem_of_getElem? (i := 10) rfl)) (fun _ h9 => h9) rfl dX2_copyFrom_74 ?_
  obtain ⟨m20, em20, hf⟩ := bd_e hf
  refine w_put (C := RX2) (T := TX2) (N := 11) (ci := 2) (x := (m19 b1 10)) hx hb hts hinX2 tyX2 tyX2_ok nmX2 hown hi hA hK hP hS ho.1 ho.2 rfl 10 (by decide) (hts (.fieldLink RX2 42 "AdmissionControl$Request" "tick" "I") (List.mem_of_getElem? (i := 10) rfl)) (fun _ h9 => h9) rfl rfl rfl (Nat.le_of_ble_eq_true rfl) rfl dX2_copyFrom_77 (fun H locs hP hS => ?_)
  rw [← em20] at hP
  cases hf
  exact w_vret hx hb hr hlocks hP hS dX2_copyFrom_80
