def zA : Nat → Int32 := upd (upd (upd (upd z0 0 4) 1 20) 2 3) 3 1
def zK : Nat → (Nat → Int32)
  | 0 => zA
  | k + 1 => upd (upd (upd (upd (upd (zK k) (4 + 4 * k + 0) 1) (4 + 4 * k + 1) 2) (4 + 4 * k + 2) 30) (4 + 4 * k + 3) 40) (16 + k) 30
def zE : Nat → (Nat → Int32)
  | 0 => zK 3
  | k + 1 => upd (zE k) (70 + k) 128
def modX (cI : ClassId) (h q0 q1 q2 q3 : Nat) (f : Nat → Int32) : va_W := [(h, .inr (7, [.ref q0, .ref q1, .ref q2, .int 0, .ref q3, .int 0, .int 0, .int 0, .int 0])), (q0, .inl (cI, 395, .inl f)), (q1, .inl (cI, 395, .inl z0)), (q2, .inl (cI, 1580, .inl z0)), (q3, .inl (cI, 80, .inl z0))]
def modW (cI : ClassId) (h : Nat) (u : Nat → Nat) : va_W := modX cI h (u 0) (u 1) (u 2) (u 3) (zE 5)
set_option maxHeartbeats 8000000 in
set_option maxRecDepth 100000 in
theorem k_X7 (l : Launch) (D : va_G) (cI cR : ClassId) (h0 sz : Nat) : Met l yX7_init wsX7_init { frames := 1, cells := 4, slots := 2450, locals := 12 } (va_Pc [.ref h0] (KG D cI cR [(h0, .inr (7, [.null, .null, .null, .int 0, .null, .int 0, .int 0, .int 0, .int 0]))] sz)) (va_Qv (fun _ : Nat → Nat => True) (fun u t => KH D (va_A [(h0, .inr (7, [.null, .null, .null, .int 0, .null, .int 0, .int 0, .int 0, .int 0]))] sz) (modW cI h0 u) t) (va_A [(h0, .inr (7, [.null, .null, .null, .int 0, .null, .int 0, .int 0, .int 0, .int 0]))] sz)) 4 2450 (va_A [(h0, .inr (7, [.null, .null, .null, .int 0, .null, .int 0, .int 0, .int 0, .int 0]))] sz) := by
  refine Met.ofW (cc := cX7_init) (maxL := 2) (ret := none) (by decide) rfl ?_
  intro p e s m args below meth c s₁ B hml hv
  obtain ⟨rfl, hsz, hP, hK, hN, hD0⟩ := hv
  have hx := B.exec
  have hb := B.bytes
  have hr := B.returns
  have hts := atoms_spec (ws := wsX7_init) B.pre
  have hown : s.vm.findClass RX7 = some m.cls := findClass_of_methodNamed B.named
  have hlocks := B.notSynchronized
  have hin : meth.name = "<init>" := (name_of_methodNamed B.named B.method).1
  subst hsz
  have hD := hD0.self (sz := s.heap.size)
  generalize hAe : va_A [(h0, .inr (7, [.null, .null, .null, .int 0, .null, .int 0, .int 0, .int 0, .int 0]))] s.heap.size = A at hD ⊢
  have hA : ∀ q : Nat, s.heap.size ≤ q → A q := fun q h => by rw [← hAe]; exact Or.inr h
  have hS : va_S A s.heap s.heap [] := va_S.rf
  have hinX7 : ∀ w ∈ wsX70, w ∈ wsX7_init := (fun _ h => List.mem_cons_of_mem _ (List.mem_append_right _ h))
  have hl := lv_entry ([.ref h0]) (n := 2) (Nat.le_of_ble_eq_true rfl)
  rw [lg_entry_eq]
  generalize (lg_sl ([.ref h0]) ++ List.replicate (2 - (lg_sl ([.ref h0])).length) Slot.unset).toArray = ls at hl ⊢
  have hl : lv_has ls 2 [(0, .ref h0)] := hl
  have hP : va_P D vwCl [(h0, .inr (7, [.null, .null, .null, .int 0, .null, .int 0, .int 0, .int 0, .int 0]))] s.heap := hP
  have hD : va_D A [(h0, .inr (7, [.null, .null, .null, .int 0, .null, .int 0, .int 0, .int 0, .int 0]))] := hD
  refine lv_aload_n hx hb dX7_init_0 rfl (lv_at hl 0 rfl) ?_
  refine W.objInit hx hb hown (hts (.methodLink RX7 1 objectInit) (List.mem_of_getElem? (i := 1) rfl)) (hts (.instanceMethod objectInit) (List.mem_of_getElem? (i := 2) rfl)) (hts _ (List.mem_of_getElem? (i := 3) rfl)) rfl (by rw [hml]; exact hl.1) rfl dX7_init_1 (Nat.le_of_ble_eq_true rfl) (Nat.le_of_ble_eq_true rfl) ?_
  refine W.eq (g2 := F0 m 4 ls []) rfl ?_
  refine lv_aload_n hx hb dX7_init_4 rfl (lv_at hl 0 rfl) ?_
  refine lv_sipush (v := 395) hx hb dX7_init_5 (by decide) ?_
  refine va_newa (atype := .int) (ty := .int) (n := 395) (N' := 395) (a0 := (395, .inl z0)) hx hb (hts (.arrayClass .int) (List.mem_of_getElem? (i := 4) rfl)) rfl hK hP hD hS hA (fun _ => rfl) (by decide) (by decide) (Nat.le_of_ble_eq_true rfl) (Nat.le_of_ble_eq_true rfl) (Nat.le_of_ble_eq_true rfl) dX7_init_8 (fun q0 cA H hK2 hP hD hS => ?_)
  obtain rfl := (tyI hK2).symm
  have hP : va_P D vwCl [(h0, .inr (7, [.null, .null, .null, .int 0, .null, .int 0, .int 0, .int 0, .int 0])), (q0, .inl (cI, 395, .inl z0))] H := hP
  have hD : va_D A [(h0, .inr (7, [.null, .null, .null, .int 0, .null, .int 0, .int 0, .int 0, .int 0])), (q0, .inl (cI, 395, .inl z0))] := hD
  refine va_putF (D := D) (ci := 7) (v := .ref q0) (ty := .array .int) (C := RX7) (T := TX7) (N := 9) hx hb hts hinX7 tyX7 tyX7_ok nmX7 hown hK hP hD hS 0 rfl rfl 0 (by decide) (hts (.fieldLink RX7 7 "AdmissionControlModel" "z" "[I") (List.mem_of_getElem? (i := 5) rfl)) (fun _ h9 => h9) rfl hin rfl (by decide +kernel) rfl rfl (Nat.le_of_ble_eq_true rfl) dX7_init_10 (fun H locs hP hD hS => ?_)
  have hP : va_P D vwCl [(h0, .inr (7, [.ref q0, .null, .null, .int 0, .null, .int 0, .int 0, .int 0, .int 0])), (q0, .inl (cI, 395, .inl z0))] H := hP
  have hD : va_D A [(h0, .inr (7, [.ref q0, .null, .null, .int 0, .null, .int 0, .int 0, .int 0, .int 0])), (q0, .inl (cI, 395, .inl z0))] := hD
  refine lv_aload_n hx hb dX7_init_13 rfl (lv_at hl 0 rfl) ?_
  refine lv_sipush (v := 395) hx hb dX7_init_14 (by decide) ?_
  refine va_newa (atype := .int) (ty := .int) (n := 395) (N' := 395) (a0 := (395, .inl z0)) hx hb (hts (.arrayClass .int) (List.mem_of_getElem? (i := 4) rfl)) rfl hK hP hD hS hA (fun _ => rfl) (by decide) (by decide) (Nat.le_of_ble_eq_true rfl) (Nat.le_of_ble_eq_true rfl) (Nat.le_of_ble_eq_true rfl) dX7_init_17 (fun q1 cA H hK2 hP hD hS => ?_)
  obtain rfl := (tyI hK2).symm
  have hP : va_P D vwCl [(h0, .inr (7, [.ref q0, .null, .null, .int 0, .null, .int 0, .int 0, .int 0, .int 0])), (q0, .inl (cI, 395, .inl z0)), (q1, .inl (cI, 395, .inl z0))] H := hP
  have hD : va_D A [(h0, .inr (7, [.ref q0, .null, .null, .int 0, .null, .int 0, .int 0, .int 0, .int 0])), (q0, .inl (cI, 395, .inl z0)), (q1, .inl (cI, 395, .inl z0))] := hD
  refine va_putF (D := D) (ci := 7) (v := .ref q1) (ty := .array .int) (C := RX7) (T := TX7) (N := 9) hx hb hts hinX7 tyX7 tyX7_ok nmX7 hown hK hP hD hS 0 rfl rfl 1 (by decide) (hts (.fieldLink RX7 13 "AdmissionControlModel" "aside" "[I") (List.mem_of_getElem? (i := 6) rfl)) (fun _ h9 => h9) rfl hin rfl (by decide +kernel) rfl rfl (Nat.le_of_ble_eq_true rfl) dX7_init_19 (fun H locs hP hD hS => ?_)
  have hP : va_P D vwCl [(h0, .inr (7, [.ref q0, .ref q1, .null, .int 0, .null, .int 0, .int 0, .int 0, .int 0])), (q0, .inl (cI, 395, .inl z0)), (q1, .inl (cI, 395, .inl z0))] H := hP
  have hD : va_D A [(h0, .inr (7, [.ref q0, .ref q1, .null, .int 0, .null, .int 0, .int 0, .int 0, .int 0])), (q0, .inl (cI, 395, .inl z0)), (q1, .inl (cI, 395, .inl z0))] := hD
  refine lv_aload_n hx hb dX7_init_22 rfl (lv_at hl 0 rfl) ?_
  refine lv_sipush (v := 1580) hx hb dX7_init_23 (by decide) ?_
  refine va_newa (atype := .int) (ty := .int) (n := 1580) (N' := 1580) (a0 := (1580, .inl z0)) hx hb (hts (.arrayClass .int) (List.mem_of_getElem? (i := 4) rfl)) rfl hK hP hD hS hA (fun _ => rfl) (by decide) (by decide) (Nat.le_of_ble_eq_true rfl) (Nat.le_of_ble_eq_true rfl) (Nat.le_of_ble_eq_true rfl) dX7_init_26 (fun q2 cA H hK2 hP hD hS => ?_)
  obtain rfl := (tyI hK2).symm
  have hP : va_P D vwCl [(h0, .inr (7, [.ref q0, .ref q1, .null, .int 0, .null, .int 0, .int 0, .int 0, .int 0])), (q0, .inl (cI, 395, .inl z0)), (q1, .inl (cI, 395, .inl z0)), (q2, .inl (cI, 1580, .inl z0))] H := hP
  have hD : va_D A [(h0, .inr (7, [.ref q0, .ref q1, .null, .int 0, .null, .int 0, .int 0, .int 0, .int 0])), (q0, .inl (cI, 395, .inl z0)), (q1, .inl (cI, 395, .inl z0)), (q2, .inl (cI, 1580, .inl z0))] := hD
  refine va_putF (D := D) (ci := 7) (v := .ref q2) (ty := .array .int) (C := RX7) (T := TX7) (N := 9) hx hb hts hinX7 tyX7 tyX7_ok nmX7 hown hK hP hD hS 0 rfl rfl 2 (by decide) (hts (.fieldLink RX7 16 "AdmissionControlModel" "history" "[I") (List.mem_of_getElem? (i := 7) rfl)) (fun _ h9 => h9) rfl hin rfl (by decide +kernel) rfl rfl (Nat.le_of_ble_eq_true rfl) dX7_init_28 (fun H locs hP hD hS => ?_)
  have hP : va_P D vwCl [(h0, .inr (7, [.ref q0, .ref q1, .ref q2, .int 0, .null, .int 0, .int 0, .int 0, .int 0])), (q0, .inl (cI, 395, .inl z0)), (q1, .inl (cI, 395, .inl z0)), (q2, .inl (cI, 1580, .inl z0))] H := hP
  have hD : va_D A [(h0, .inr (7, [.ref q0, .ref q1, .ref q2, .int 0, .null, .int 0, .int 0, .int 0, .int 0])), (q0, .inl (cI, 395, .inl z0)), (q1, .inl (cI, 395, .inl z0)), (q2, .inl (cI, 1580, .inl z0))] := hD
  refine lv_aload_n hx hb dX7_init_31 rfl (lv_at hl 0 rfl) ?_
  refine lv_bipush (v := 80) hx hb dX7_init_32 (by decide) ?_
  refine va_newa (atype := .int) (ty := .int) (n := 80) (N' := 80) (a0 := (80, .inl z0)) hx hb (hts (.arrayClass .int) (List.mem_of_getElem? (i := 4) rfl)) rfl hK hP hD hS hA (fun _ => rfl) (by decide) (by decide) (Nat.le_of_ble_eq_true rfl) (Nat.le_of_ble_eq_true rfl) (Nat.le_of_ble_eq_true rfl) dX7_init_34 (fun q3 cA H hK2 hP hD hS => ?_)
  obtain rfl := (tyI hK2).symm
  have hP : va_P D vwCl [(h0, .inr (7, [.ref q0, .ref q1, .ref q2, .int 0, .null, .int 0, .int 0, .int 0, .int 0])), (q0, .inl (cI, 395, .inl z0)), (q1, .inl (cI, 395, .inl z0)), (q2, .inl (cI, 1580, .inl z0)), (q3, .inl (cI, 80, .inl z0))] H := hP
  have hD : va_D A [(h0, .inr (7, [.ref q0, .ref q1, .ref q2, .int 0, .null, .int 0, .int 0, .int 0, .int 0])), (q0, .inl (cI, 395, .inl z0)), (q1, .inl (cI, 395, .inl z0)), (q2, .inl (cI, 1580, .inl z0)), (q3, .inl (cI, 80, .inl z0))] := hD
  refine va_putF (D := D) (ci := 7) (v := .ref q3) (ty := .array .int) (C := RX7) (T := TX7) (N := 9) hx hb hts hinX7 tyX7 tyX7_ok nmX7 hown hK hP hD hS 0 rfl rfl 4 (by decide) (hts (.fieldLink RX7 19 "AdmissionControlModel" "text" "[I") (List.mem_of_getElem? (i := 8) rfl)) (fun _ h9 => h9) rfl hin rfl (by decide +kernel) rfl rfl (Nat.le_of_ble_eq_true rfl) dX7_init_36 (fun H locs hP hD hS => ?_)
  have hP : va_P D vwCl [(h0, .inr (7, [.ref q0, .ref q1, .ref q2, .int 0, .ref q3, .int 0, .int 0, .int 0, .int 0])), (q0, .inl (cI, 395, .inl z0)), (q1, .inl (cI, 395, .inl z0)), (q2, .inl (cI, 1580, .inl z0)), (q3, .inl (cI, 80, .inl z0))] H := hP
  have hD : va_D A [(h0, .inr (7, [.ref q0, .ref q1, .ref q2, .int 0, .ref q3, .int 0, .int 0, .int 0, .int 0])), (q0, .inl (cI, 395, .inl z0)), (q1, .inl (cI, 395, .inl z0)), (q2, .inl (cI, 1580, .inl z0)), (q3, .inl (cI, 80, .inl z0))] := hD
  have hP : va_P D vwCl (modX cI h0 q0 q1 q2 q3 (z0)) H := hP
  have hD : va_D A (modX cI h0 q0 q1 q2 q3 (z0)) := hD
  refine lv_aload_n hx hb dX7_init_39 rfl (lv_at hl 0 rfl) ?_
  refine va_get (D := D) (ci := 7) (v := .ref q0) (C := RX7) (T := TX7) (N := 9) hx hb hts hinX7 hown hK hP 0 rfl rfl 0 (by decide) (hts (.fieldLink RX7 7 "AdmissionControlModel" "z" "[I") (List.mem_of_getElem? (i := 5) rfl)) (fun _ h9 => h9) rfl dX7_init_40 ?_
  refine lv_iconst (v := 0) hx hb dX7_init_43 (by decide) ?_
  refine lv_iconst (v := 4) hx hb dX7_init_44 (by decide) ?_
  refine va_iast (i := nI 0) hx hb hK hP hD hS 1 0 rfl rfl (vp_in_nI (show 0 < 395 by omega) (by decide)) dX7_init_45 (fun H locs hP hD hS => ?_)
  rw [tn 0 (by decide)] at hP hD
  have hP : va_P D vwCl (modX cI h0 q0 q1 q2 q3 (upd (z0) 0 4)) H := hP
  have hD : va_D A (modX cI h0 q0 q1 q2 q3 (upd (z0) 0 4)) := hD
  refine lv_aload_n hx hb dX7_init_46 rfl (lv_at hl 0 rfl) ?_
  refine va_get (D := D) (ci := 7) (v := .ref q0) (C := RX7) (T := TX7) (N := 9) hx hb hts hinX7 hown hK hP 0 rfl rfl 0 (by decide) (hts (.fieldLink RX7 7 "AdmissionControlModel" "z" "[I") (List.mem_of_getElem? (i := 5) rfl)) (fun _ h9 => h9) rfl dX7_init_47 ?_
  refine lv_iconst (v := 1) hx hb dX7_init_50 (by decide) ?_
  refine lv_bipush (v := 20) hx hb dX7_init_51 (by decide) ?_
  refine va_iast (i := nI 1) hx hb hK hP hD hS 1 0 rfl rfl (vp_in_nI (show 1 < 395 by omega) (by decide)) dX7_init_53 (fun H locs hP hD hS => ?_)
  rw [tn 1 (by decide)] at hP hD
  have hP : va_P D vwCl (modX cI h0 q0 q1 q2 q3 (upd (upd (z0) 0 4) 1 20)) H := hP
  have hD : va_D A (modX cI h0 q0 q1 q2 q3 (upd (upd (z0) 0 4) 1 20)) := hD
  refine lv_aload_n hx hb dX7_init_54 rfl (lv_at hl 0 rfl) ?_
  refine va_get (D := D) (ci := 7) (v := .ref q0) (C := RX7) (T := TX7) (N := 9) hx hb hts hinX7 hown hK hP 0 rfl rfl 0 (by decide) (hts (.fieldLink RX7 7 "AdmissionControlModel" "z" "[I") (List.mem_of_getElem? (i := 5) rfl)) (fun _ h9 => h9) rfl dX7_init_55 ?_
  refine lv_iconst (v := 2) hx hb dX7_init_58 (by decide) ?_
  refine lv_iconst (v := 3) hx hb dX7_init_59 (by decide) ?_
  refine va_iast (i := nI 2) hx hb hK hP hD hS 1 0 rfl rfl (vp_in_nI (show 2 < 395 by omega) (by decide)) dX7_init_60 (fun H locs hP hD hS => ?_)
  rw [tn 2 (by decide)] at hP hD
  have hP : va_P D vwCl (modX cI h0 q0 q1 q2 q3 (upd (upd (upd (z0) 0 4) 1 20) 2 3)) H := hP
  have hD : va_D A (modX cI h0 q0 q1 q2 q3 (upd (upd (upd (z0) 0 4) 1 20) 2 3)) := hD
  refine lv_aload_n hx hb dX7_init_61 rfl (lv_at hl 0 rfl) ?_
  refine va_get (D := D) (ci := 7) (v := .ref q0) (C := RX7) (T := TX7) (N := 9) hx hb hts hinX7 hown hK hP 0 rfl rfl 0 (by decide) (hts (.fieldLink RX7 7 "AdmissionControlModel" "z" "[I") (List.mem_of_getElem? (i := 5) rfl)) (fun _ h9 => h9) rfl dX7_init_62 ?_
  refine lv_iconst (v := 3) hx hb dX7_init_65 (by decide) ?_
  refine lv_iconst (v := 1) hx hb dX7_init_66 (by decide) ?_
  refine va_iast (i := nI 3) hx hb hK hP hD hS 1 0 rfl rfl (vp_in_nI (show 3 < 395 by omega) (by decide)) dX7_init_67 (fun H locs hP hD hS => ?_)
  rw [tn 3 (by decide)] at hP hD
  have hP : va_P D vwCl (modX cI h0 q0 q1 q2 q3 (upd (upd (upd (upd (z0) 0 4) 1 20) 2 3) 3 1)) H := hP
  have hD : va_D A (modX cI h0 q0 q1 q2 q3 (upd (upd (upd (upd (z0) 0 4) 1 20) 2 3) 3 1)) := hD
  refine W.widen (k := 4) (n := 2450) (by omega) (by omega) ?_
  have loop2 : ∀ (d k : Nat) (H : Heap) (locs : List Loc) (ls : Array Slot), k + d = 5 → va_P D vwCl (modX cI h0 q0 q1 q2 q3 (zE k)) H → va_D A (modX cI h0 q0 q1 q2 q3 (zE k)) → va_S A s.heap H locs → lv_has ls 2 [(1, .int (nI k)), (0, .ref h0)] → W p l e (headSpec wsX7_init { frames := 1, cells := 4, slots := 2450, locals := 12 }).room s m #[Value.ref h0] below meth c H locs 4 2450 (MQ below (va_Qv (fun _ : Nat → Nat => True) (fun u t => KH D A (modW cI h0 u) t) A) #[Value.ref h0] s 4 2450 A) (F0 m 148 ls []) := by
    intro d
    induction d with
    | zero =>
      intro k H locs ls hk hP hD hS hl
      obtain rfl : k = 5 := by omega
      refine lv_iload_n hx hb dX7_init_148 rfl (lv_at hl 0 rfl) ?_
      refine lv_iconst (v := 5) hx hb dX7_init_149 (by decide) ?_
      refine lv_icmp_ge (tgt := 171) hx hb dX7_init_150 (by decide) (fun c5 => ?_) (fun c5 => absurd (show (5 : Int32) ≤ nI 5 by decide) c5)
      have hP : va_P D vwCl (modW cI h0 (fun i => match i with | 0 => q0 | 1 => q1 | 2 => q2 | _ => q3)) H := hP
      have hD : va_D A (modW cI h0 (fun i => match i with | 0 => q0 | 1 => q1 | 2 => q2 | _ => q3)) := hD
      exact W.vret hx hb hr (fun t ht hW => ⟨⟨(fun i => match i with | 0 => q0 | 1 => q1 | 2 => q2 | _ => q3), rfl, trivial, by rw [ht]; exact hP, hD⟩, hS.F ht⟩) hS.2.2 dX7_init_171
    | succ d ih =>
      intro k H locs ls hk hP hD hS hl
      refine lv_iload_n hx hb dX7_init_148 rfl (lv_at hl 0 rfl) ?_
      refine lv_iconst (v := 5) hx hb dX7_init_149 (by decide) ?_
      refine lv_icmp_ge (tgt := 171) hx hb dX7_init_150 (by decide) (fun c5 => absurd c5 (nI_ge (show k < 5 by omega) (by decide))) (fun c5 => ?_)
      refine lv_aload_n hx hb dX7_init_153 rfl (lv_at hl 1 rfl) ?_
      refine va_get (D := D) (ci := 7) (v := .ref q0) (C := RX7) (T := TX7) (N := 9) hx hb hts hinX7 hown hK hP 0 rfl rfl 0 (by decide) (hts (.fieldLink RX7 7 "AdmissionControlModel" "z" "[I") (List.mem_of_getElem? (i := 5) rfl)) (fun _ h9 => h9) rfl dX7_init_154 ?_
      refine lv_bipush (v := 70) hx hb dX7_init_157 (by decide) ?_
      refine lv_iload_n hx hb dX7_init_159 rfl (lv_at hl 0 rfl) ?_
      refine lv_iadd hx hb dX7_init_160 ?_
      refine lv_topi (fun v ev => ?_)
      obtain rfl : v = nI (70 + k) := by rw [ev, show (70 : Int32) = nI 70 from rfl, nI_add]
      refine lv_sipush (v := 128) hx hb dX7_init_161 (by decide) ?_
      refine va_iast hx hb hK hP hD hS 1 0 rfl rfl (vp_in_nI (show 70 + k < 395 by omega) (by decide)) dX7_init_164 (fun H locs hP hD hS => ?_)
      rw [tn (70 + k) (by omega)] at hP hD
      refine lv_iinc (v := nI (k + 1)) (lv' := [(1, .int (nI (k + 1))), (0, .ref h0)]) hx hb dX7_init_165 hl (k := 0) rfl (by rw [nI_succ]; rfl) (by decide) rfl (fun ls hl => ?_)
      refine lv_goto (tgt := 148) hx hb dX7_init_168 (by decide) ?_
      exact ih (k + 1) _ _ ls (by omega) hP hD hS hl
  have loop1 : ∀ (d k : Nat) (H : Heap) (locs : List Loc) (ls : Array Slot), k + d = 3 → va_P D vwCl (modX cI h0 q0 q1 q2 q3 (zK k)) H → va_D A (modX cI h0 q0 q1 q2 q3 (zK k)) → va_S A s.heap H locs → lv_has ls 2 [(1, .int (nI k)), (0, .ref h0)] → W p l e (headSpec wsX7_init { frames := 1, cells := 4, slots := 2450, locals := 12 }).room s m #[Value.ref h0] below meth c H locs 4 2450 (MQ below (va_Qv (fun _ : Nat → Nat => True) (fun u t => KH D A (modW cI h0 u) t) A) #[Value.ref h0] s 4 2450 A) (F0 m 70 ls []) := by
    intro d
    induction d with
    | zero =>
      intro k H locs ls hk hP hD hS hl
      obtain rfl : k = 3 := by omega
      refine lv_iload_n hx hb dX7_init_70 rfl (lv_at hl 0 rfl) ?_
      refine lv_iconst (v := 3) hx hb dX7_init_71 (by decide) ?_
      refine lv_icmp_ge (tgt := 146) hx hb dX7_init_72 (by decide) (fun c5 => ?_) (fun c5 => absurd (show (3 : Int32) ≤ nI 3 by decide) c5)
      refine lv_iconst (v := 0) hx hb dX7_init_146 (by decide) ?_
      refine lv_istore_n (lv' := [(1, .int 0), (0, .ref h0)]) hx hb dX7_init_147 rfl hl (by decide) rfl (fun ls hl => ?_)
      exact loop2 5 0 _ _ ls (by omega) hP hD hS hl
    | succ d ih =>
      intro k H locs ls hk hP hD hS hl
      refine lv_iload_n hx hb dX7_init_70 rfl (lv_at hl 0 rfl) ?_
      refine lv_iconst (v := 3) hx hb dX7_init_71 (by decide) ?_
      refine lv_icmp_ge (tgt := 146) hx hb dX7_init_72 (by decide) (fun c5 => absurd c5 (nI_ge (show k < 3 by omega) (by decide))) (fun c5 => ?_)
      refine lv_aload_n hx hb dX7_init_75 rfl (lv_at hl 1 rfl) ?_
      refine va_get (D := D) (ci := 7) (v := .ref q0) (C := RX7) (T := TX7) (N := 9) hx hb hts hinX7 hown hK hP 0 rfl rfl 0 (by decide) (hts (.fieldLink RX7 7 "AdmissionControlModel" "z" "[I") (List.mem_of_getElem? (i := 5) rfl)) (fun _ h9 => h9) rfl dX7_init_76 ?_
      refine lv_iconst (v := 4) hx hb dX7_init_79 (by decide) ?_
      refine lv_iconst (v := 4) hx hb dX7_init_80 (by decide) ?_
      refine lv_iload_n hx hb dX7_init_81 rfl (lv_at hl 0 rfl) ?_
      refine lv_imul hx hb dX7_init_82 ?_
      refine lv_iadd hx hb dX7_init_83 ?_
      refine lv_iconst (v := 0) hx hb dX7_init_84 (by decide) ?_
      refine lv_iadd hx hb dX7_init_85 ?_
      refine lv_topi (fun v ev => ?_)
      obtain rfl : v = nI (4 + 4 * k + 0) := by rw [ev, im_4, ia_4, show (0 : Int32) = nI 0 from rfl, nI_add]
      refine lv_iconst (v := 1) hx hb dX7_init_86 (by decide) ?_
      refine va_iast hx hb hK hP hD hS 1 0 rfl rfl (vp_in_nI (show 4 + 4 * k + 0 < 395 by omega) (by decide)) dX7_init_87 (fun H locs hP hD hS => ?_)
      rw [tn (4 + 4 * k + 0) (by omega)] at hP hD
      refine lv_aload_n hx hb dX7_init_88 rfl (lv_at hl 1 rfl) ?_
      refine va_get (D := D) (ci := 7) (v := .ref q0) (C := RX7) (T := TX7) (N := 9) hx hb hts hinX7 hown hK hP 0 rfl rfl 0 (by decide) (hts (.fieldLink RX7 7 "AdmissionControlModel" "z" "[I") (List.mem_of_getElem? (i := 5) rfl)) (fun _ h9 => h9) rfl dX7_init_89 ?_
      refine lv_iconst (v := 4) hx hb dX7_init_92 (by decide) ?_
      refine lv_iconst (v := 4) hx hb dX7_init_93 (by decide) ?_
      refine lv_iload_n hx hb dX7_init_94 rfl (lv_at hl 0 rfl) ?_
      refine lv_imul hx hb dX7_init_95 ?_
      refine lv_iadd hx hb dX7_init_96 ?_
      refine lv_iconst (v := 1) hx hb dX7_init_97 (by decide) ?_
      refine lv_iadd hx hb dX7_init_98 ?_
      refine lv_topi (fun v ev => ?_)
      obtain rfl : v = nI (4 + 4 * k + 1) := by rw [ev, im_4, ia_4, show (1 : Int32) = nI 1 from rfl, nI_add]
      refine lv_iconst (v := 2) hx hb dX7_init_99 (by decide) ?_
      refine va_iast hx hb hK hP hD hS 1 0 rfl rfl (vp_in_nI (show 4 + 4 * k + 1 < 395 by omega) (by decide)) dX7_init_100 (fun H locs hP hD hS => ?_)
      rw [tn (4 + 4 * k + 1) (by omega)] at hP hD
      refine lv_aload_n hx hb dX7_init_101 rfl (lv_at hl 1 rfl) ?_
      refine va_get (D := D) (ci := 7) (v := .ref q0) (C := RX7) (T := TX7) (N := 9) hx hb hts hinX7 hown hK hP 0 rfl rfl 0 (by decide) (hts (.fieldLink RX7 7 "AdmissionControlModel" "z" "[I") (List.mem_of_getElem? (i := 5) rfl)) (fun _ h9 => h9) rfl dX7_init_102 ?_
      refine lv_iconst (v := 4) hx hb dX7_init_105 (by decide) ?_
      refine lv_iconst (v := 4) hx hb dX7_init_106 (by decide) ?_
      refine lv_iload_n hx hb dX7_init_107 rfl (lv_at hl 0 rfl) ?_
      refine lv_imul hx hb dX7_init_108 ?_
      refine lv_iadd hx hb dX7_init_109 ?_
      refine lv_iconst (v := 2) hx hb dX7_init_110 (by decide) ?_
      refine lv_iadd hx hb dX7_init_111 ?_
      refine lv_topi (fun v ev => ?_)
      obtain rfl : v = nI (4 + 4 * k + 2) := by rw [ev, im_4, ia_4, show (2 : Int32) = nI 2 from rfl, nI_add]
      refine lv_bipush (v := 30) hx hb dX7_init_112 (by decide) ?_
      refine va_iast hx hb hK hP hD hS 1 0 rfl rfl (vp_in_nI (show 4 + 4 * k + 2 < 395 by omega) (by decide)) dX7_init_114 (fun H locs hP hD hS => ?_)
      rw [tn (4 + 4 * k + 2) (by omega)] at hP hD
      refine lv_aload_n hx hb dX7_init_115 rfl (lv_at hl 1 rfl) ?_
      refine va_get (D := D) (ci := 7) (v := .ref q0) (C := RX7) (T := TX7) (N := 9) hx hb hts hinX7 hown hK hP 0 rfl rfl 0 (by decide) (hts (.fieldLink RX7 7 "AdmissionControlModel" "z" "[I") (List.mem_of_getElem? (i := 5) rfl)) (fun _ h9 => h9) rfl dX7_init_116 ?_
      refine lv_iconst (v := 4) hx hb dX7_init_119 (by decide) ?_
      refine lv_iconst (v := 4) hx hb dX7_init_120 (by decide) ?_
      refine lv_iload_n hx hb dX7_init_121 rfl (lv_at hl 0 rfl) ?_
      refine lv_imul hx hb dX7_init_122 ?_
      refine lv_iadd hx hb dX7_init_123 ?_
      refine lv_iconst (v := 3) hx hb dX7_init_124 (by decide) ?_
      refine lv_iadd hx hb dX7_init_125 ?_
      refine lv_topi (fun v ev => ?_)
      obtain rfl : v = nI (4 + 4 * k + 3) := by rw [ev, im_4, ia_4, show (3 : Int32) = nI 3 from rfl, nI_add]
      refine lv_bipush (v := 40) hx hb dX7_init_126 (by decide) ?_
      refine va_iast hx hb hK hP hD hS 1 0 rfl rfl (vp_in_nI (show 4 + 4 * k + 3 < 395 by omega) (by decide)) dX7_init_128 (fun H locs hP hD hS => ?_)
      rw [tn (4 + 4 * k + 3) (by omega)] at hP hD
      refine lv_aload_n hx hb dX7_init_129 rfl (lv_at hl 1 rfl) ?_
      refine va_get (D := D) (ci := 7) (v := .ref q0) (C := RX7) (T := TX7) (N := 9) hx hb hts hinX7 hown hK hP 0 rfl rfl 0 (by decide) (hts (.fieldLink RX7 7 "AdmissionControlModel" "z" "[I") (List.mem_of_getElem? (i := 5) rfl)) (fun _ h9 => h9) rfl dX7_init_130 ?_
      refine lv_bipush (v := 16) hx hb dX7_init_133 (by decide) ?_
      refine lv_iload_n hx hb dX7_init_135 rfl (lv_at hl 0 rfl) ?_
      refine lv_iadd hx hb dX7_init_136 ?_
      refine lv_topi (fun v ev => ?_)
      obtain rfl : v = nI (16 + k) := by rw [ev, show (16 : Int32) = nI 16 from rfl, nI_add]
      refine lv_bipush (v := 30) hx hb dX7_init_137 (by decide) ?_
      refine va_iast hx hb hK hP hD hS 1 0 rfl rfl (vp_in_nI (show 16 + k < 395 by omega) (by decide)) dX7_init_139 (fun H locs hP hD hS => ?_)
      rw [tn (16 + k) (by omega)] at hP hD
      refine lv_iinc (v := nI (k + 1)) (lv' := [(1, .int (nI (k + 1))), (0, .ref h0)]) hx hb dX7_init_140 hl (k := 0) rfl (by rw [nI_succ]; rfl) (by decide) rfl (fun ls hl => ?_)
      refine lv_goto (tgt := 70) hx hb dX7_init_143 (by decide) ?_
      exact ih (k + 1) _ _ ls (by omega) hP hD hS hl
  refine lv_iconst (v := 0) hx hb dX7_init_68 (by decide) ?_
  refine lv_istore_n (lv' := [(1, .int 0), (0, .ref h0)]) hx hb dX7_init_69 rfl hl (by decide) rfl (fun ls hl => ?_)
  exact loop1 3 0 _ _ ls (by omega) hP hD hS hl
