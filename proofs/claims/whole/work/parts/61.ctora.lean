/-! ===== the constructors: over worlds that grow ===== -/
def N2 (U : State) : Prop := va_Nw (.methodLinkNest RX6 21 yX0_init RX6) U ∧ va_Nw (.methodLinkNest RX6 28 yX5_init RX6) U ∧ va_AO RX2 U
theorem N2.warm {s U : State} (hW : s.WarmedH U.vm) (h : N2 s) : N2 U := ⟨va_Nw.warmM hW h.1, va_Nw.warmM hW h.2.1, va_AO.moved hW.alike h.2.2⟩
theorem N2.same {s U : State} (hv : s.vm = U.vm) (h : N2 s) : N2 U := ⟨va_Nw.same rfl hv h.1, va_Nw.same rfl hv h.2.1, va_AO.moved (by rw [hv]; exact Vm.Alike.refl _) h.2.2⟩
def KG (D : va_G) (cI cR : ClassId) (ws : va_W) (sz : Nat) (U : State) : Prop := U.heap.size = sz ∧ va_P D vwCl ws U.heap ∧ va_K D vwCl (tyz cI cR) U ∧ N2 U ∧ va_D (fun _ => True) ws
def KH (D : va_G) (A : Nat → Prop) (ws : va_W) (t : State) : Prop := va_P D vwCl ws t.heap ∧ va_D A ws
theorem KG_blind {D : va_G} {cI cR : ClassId} {ws : va_W} {sz : Nat} {as : List Value} : FrameBlind (va_Pc as (KG D cI cR ws sz)) := fun a U g mk q => by
  obtain ⟨q0, q1, qP, qK, qN, qD⟩ := q
  exact ⟨q0, q1, qP, va_K.moved (u := U) (U := U.calling g mk a) (Vm.Alike.refl U.vm) qK, N2.same (s := U) (U := U.calling g mk a) rfl qN, qD⟩
theorem app_l {w1 w2 : va_W} {k : Nat} {q : Nat × va_E} (h : w1[k]? = some q) : (w1 ++ w2)[k]? = some q := by
  rw [List.getElem?_append_left (List.getElem?_eq_some_iff.mp h).1]
  exact h
theorem app_r {w1 w2 : va_W} {k : Nat} {q : Nat × va_E} (h : w2[k]? = some q) : (w1 ++ w2)[w1.length + k]? = some q := by
  rw [List.getElem?_append_right (by omega), show w1.length + k - w1.length = k by omega]
  exact h
theorem P_l {D : va_G} {w1 w2 : va_W} {H : Heap} (h : va_P D vwCl (w1 ++ w2) H) : va_P D vwCl w1 H := fun k q hk => h k q (app_l hk)
theorem P_r {D : va_G} {w1 w2 : va_W} {H : Heap} (h : va_P D vwCl (w1 ++ w2) H) : va_P D vwCl w2 H := fun k q hk => h _ q (app_r hk)
theorem D_l {A : Nat → Prop} {w1 w2 : va_W} (h : va_D A (w1 ++ w2)) : va_D A w1 := ⟨fun i j p q hi hj e => h.1 i j p q (app_l hi) (app_l hj) e, fun k q hk => h.2 k q (app_l hk)⟩
theorem D_r {A : Nat → Prop} {w1 w2 : va_W} (h : va_D A (w1 ++ w2)) : va_D A w2 := ⟨fun i j p q hi hj e => by
  have := h.1 _ _ p q (app_r hi) (app_r hj) e
  omega, fun k q hk => h.2 _ q (app_r hk)⟩
theorem jn {A0 : Nat → Prop} {D : va_G} {wr wc w1 : va_W} {H H1 : Heap} (hP : va_P D vwCl (wr ++ wc) H) (hD : va_D A0 (wr ++ wc)) (hk : ∀ q : Nat, q < H.size → ¬ va_A wc H.size q → H1[q]? = H[q]?) (hF : ∀ q, va_A wc H.size q → A0 q) (hP1 : va_P D vwCl w1 H1) (hD1 : va_D (va_A wc H.size) w1) : va_P D vwCl (wr ++ w1) H1 ∧ va_D A0 (wr ++ w1) := by
  have no : ∀ (k : Nat) (q : Nat × va_E), wr[k]? = some q → q.1 < H.size ∧ ¬ va_A wc H.size q.1 := by
    intro k q hk'
    have hl := (hP k q (app_l hk')).lt
    refine ⟨hl, fun h => ?_⟩
    rcases h with ⟨j, e, hj⟩ | h
    · have := hD.1 _ _ q (q.1, e) (app_l hk') (app_r hj) rfl
      have := (List.getElem?_eq_some_iff.mp hk').1
      omega
    · omega
  refine ⟨((P_l hP).kept (fun k q hk' => hk q.1 (no k q hk').1 (no k q hk').2)).app hP1, (D_l hD).app (hD1.weaken (fun k q hk' hq => hF _ hq)) (fun i j p q hp hq e => ?_)⟩
  exact (no i p hp).2 (by rw [e]; exact hD1.2 j q hq)
theorem fr {A0 : Nat → Prop} {wr wc : va_W} {H0 H : Heap} {locs : List Loc} (hD : va_D A0 (wr ++ wc)) (hS : va_S A0 H0 H locs) (hA : ∀ q, H0.size ≤ q → A0 q) : ∀ q, va_A wc H.size q → A0 q := by
  intro q h
  rcases h with ⟨k, e, h⟩ | h
  · exact hD.2 _ (q, e) (app_r h)
  · exact hA q (Nat.le_trans hS.1 h)
section CROWS
variable {p : Program} {l : Launch} {e : Env} {R : Room} {s : State} {m : MethodId} {args : Array Value} {below : List Frame} {meth : Method} {c : Code} {H : Heap} {locs : List Loc} {cells slots mc ms : Nat} {Q : State → Prop}
variable {cc : ByteArray} {pc : Nat} {ls : Array Slot} {rest st0 : List Value} {D : va_G} {A : Nat → Prop} {H0 : Heap} {cI cR : ClassId} {a : Array Value}
/-- behind a call that had the last cells of the world -/
theorem g_cv {S : Type} {wr wc : va_W} {W1 : S → va_W} (hP : va_P D vwCl (wr ++ wc) H) (hD : va_D A (wr ++ wc)) (hr : va_Run p l e R s m args below meth c H locs cells slots mc ms (F0 m pc ls st0) rest (va_Qv (fun _ : S => True) (fun u t => KH D (va_A wc H.size) (W1 u) t) (va_A wc H.size) a) (va_A wc H.size)) (hS : va_S A H0 H locs) (hA : ∀ q, H0.size ≤ q → A q)
    (kk : ∀ (u : S) (H1 : Heap) (locs1 : List Loc), va_P D vwCl (wr ++ W1 u) H1 → va_D A (wr ++ W1 u) → va_S A H0 H1 locs1 → W p l e R s m args below meth c H1 locs1 (cells + mc) (slots + ms) Q (F0 m (pc + 3) ls rest)) : W p l e R s m args below meth c H locs cells slots Q (F0 m pc ls st0) := by
  have hF := fr hD hS hA
  refine va_callv hr hS (fun q _ h => hF q h) hF (fun u t H1 locs1 ht hvm _ hB hz1 hk1 hS1 => ?_)
  obtain ⟨hP1, hD1⟩ := hB
  rw [ht] at hP1
  obtain ⟨hP', hD'⟩ := jn hP hD hk1 hF hP1 hD1
  exact kk u H1 locs1 hP' hD' hS1
theorem g_preI {b : Nat} {As : List Value} {wr wc : va_W} (hP : va_P D vwCl (wr ++ wc) H) (hD : va_D A (wr ++ wc)) (hK : va_K D vwCl (tyz cI cR) s) (hN : N2 s) : PreS s H (va_Pc (.ref b :: As) (KG D cI cR wc H.size)) (.ref b :: As) :=
  ⟨KG_blind, fun U hU hW => ⟨rfl, by rw [hU], by rw [hU]; exact P_r hP, va_K.moved hW.alike hK, N2.warm hW hN, (D_r hD).weaken (fun _ _ _ _ => trivial)⟩⟩
theorem g_preV {b ci : Nat} {q : vw_C} {fs : List Value} {As : List Value} {wr wc : va_W} {wc' : va_W} (hP : va_P D vwCl (wr ++ wc) H) (hD : va_D A (wr ++ wc)) (hK : va_K D vwCl (tyz cI cR) s) (hN : N2 s) (hc : vwCl[ci]? = some q) (hw : wc = (b, .inr (ci, fs)) :: wc') : PreV s H q.1 b (va_Pc (.ref b :: As) (KG D cI cR wc H.size)) As :=
  ⟨KG_blind, va_recv hK (P_r hP) hc (q0 := 0) (by rw [hw]; rfl), fun U hU hW => ⟨rfl, by rw [hU], by rw [hU]; exact P_r hP, va_K.moved hW.alike hK, N2.warm hW hN, (D_r hD).weaken (fun _ _ _ _ => trivial)⟩⟩
end CROWS
theorem tyI {D : va_G} {cI cR cA : ClassId} {s : State} (h : va_K D vwCl (tyz cI cR ++ [(cA, .int)]) s) : cA = cI := by
  have h1 := (h.2 0 (cI, .int) rfl).2
  have h2 := (h.2 2 (cA, .int) rfl).2
  exact Option.some.inj (h2.symm.trans h1)
theorem tyR {D : va_G} {cI cR cA : ClassId} {s : State} (h : va_K D vwCl (tyz cI cR ++ [(cA, .object "AdmissionControl$Request")]) s) : cA = cR := by
  obtain ⟨_, _, -, -, -, h1⟩ := (h.2 1 (cR, .object "AdmissionControl$Request") rfl).2
  obtain ⟨_, _, -, -, -, h2⟩ := (h.2 2 (cA, .object "AdmissionControl$Request") rfl).2
  exact Option.some.inj (h2.symm.trans h1)
def z0 : Nat → Int32 := fun _ => 0
def rowW (cI : ClassId) (h q n : Nat) (f : Nat → Int32) : va_W := [(h, .inr (3, [.ref q])), (q, .inl (cI, n, .inl f))]
set_option maxHeartbeats 4000000 in
set_option maxRecDepth 100000 in
theorem k_X3 (l : Launch) (D : va_G) (cI cR : ClassId) (h0 sz n : Nat) (hn : n ≤ 2000) : Met l yX3_init wsX3_init { frames := 1, cells := 1, slots := n, locals := 12 } (va_Pc [.ref h0, .int (nI n)] (KG D cI cR [(h0, .inr (3, [.null]))] sz)) (va_Qv (fun _ : Nat => True) (fun q t => KH D (va_A [(h0, .inr (3, [.null]))] sz) (rowW cI h0 q n z0) t) (va_A [(h0, .inr (3, [.null]))] sz)) 1 n (va_A [(h0, .inr (3, [.null]))] sz) := by
  refine Met.ofW (cc := cX3_init) (maxL := 2) (ret := none) (by decide) rfl ?_
  intro p e s m args below meth c s₁ B hml hv
  obtain ⟨rfl, hsz, hP, hK, hN, hD0⟩ := hv
  have hx := B.exec
  have hb := B.bytes
  have hr := B.returns
  have hts := atoms_spec (ws := wsX3_init) B.pre
  have hown : s.vm.findClass RX3 = some m.cls := findClass_of_methodNamed B.named
  have hlocks := B.notSynchronized
  have hin : meth.name = "<init>" := (name_of_methodNamed B.named B.method).1
  subst hsz
  have hD := hD0.self (sz := s.heap.size)
  generalize hAe : va_A [(h0, .inr (3, [.null]))] s.heap.size = A at hD ⊢
  have hA : ∀ q : Nat, s.heap.size ≤ q → A q := fun q h => by rw [← hAe]; exact Or.inr h
  have hS : va_S A s.heap s.heap [] := va_S.rf
  have hinX3 : ∀ w ∈ wsX30, w ∈ wsX3_init := (fun _ h => List.mem_cons_of_mem _ (List.mem_append_right _ h))
  have hl := lv_entry ([.ref h0, .int (nI n)]) (n := 2) (Nat.le_of_ble_eq_true rfl)
  rw [lg_entry_eq]
  generalize (lg_sl ([.ref h0, .int (nI n)]) ++ List.replicate (2 - (lg_sl ([.ref h0, .int (nI n)])).length) Slot.unset).toArray = ls at hl ⊢
  have hl : lv_has ls 2 [(0, .ref h0), (1, .int (nI n))] := hl
  refine lv_aload_n hx hb dX3_init_0 rfl (lv_at hl 0 rfl) ?_
  refine W.objInit hx hb hown (hts (.methodLink RX3 1 objectInit) (List.mem_of_getElem? (i := 1) rfl)) (hts (.instanceMethod objectInit) (List.mem_of_getElem? (i := 2) rfl)) (hts _ (List.mem_of_getElem? (i := 3) rfl)) rfl (by rw [hml]; exact hl.1) rfl dX3_init_1 (Nat.le_of_ble_eq_true rfl) (Nat.le_of_ble_eq_true rfl) ?_
  refine W.eq (g2 := F0 m 4 ls []) rfl ?_
  refine lv_aload_n hx hb dX3_init_4 rfl (lv_at hl 0 rfl) ?_
  refine lv_iload_n hx hb dX3_init_5 rfl (lv_at hl 1 rfl) ?_
  refine lv_if_ge (tgt := 13) hx hb dX3_init_6 (by decide) (fun c6 => ?_) (fun c6 => absurd (nI_pos' (by omega)) c6)
  refine lv_iload_n hx hb dX3_init_13 rfl (lv_at hl 1 rfl) ?_
  refine va_newa (atype := .int) (ty := .int) (n := nI n) (N' := n) (a0 := (n, .inl z0)) hx hb (hts (.arrayClass .int) (List.mem_of_getElem? (i := 4) rfl)) rfl hK hP hD hS hA (fun _ => rfl) (nI_pos (by omega)) (tn n (by omega)) (by show n * 4 ≤ 536870912; omega) (Nat.le_refl 1) (by show 0 + n ≤ n; omega) dX3_init_14 (fun q cA H hK2 hP hD hS => ?_)
  obtain rfl := tyI hK2
  have hP : va_P D vwCl [(h0, .inr (3, [.null])), (q, .inl (cA, n, .inl z0))] H := hP
  have hD : va_D A [(h0, .inr (3, [.null])), (q, .inl (cA, n, .inl z0))] := hD
  refine W.widen (k := 1) (n := n) (by omega) (by omega) ?_
  refine va_putF (D := D) (ci := 3) (v := .ref q) (ty := .array .int) (C := RX3) (T := TX3) (N := 1) hx hb hts hinX3 tyX3 tyX3_ok nmX3 hown hK hP hD hS 0 rfl rfl 0 (by decide) (hts (.fieldLink RX3 7 "AdmissionControl$Row" "cells" "[I") (List.mem_of_getElem? (i := 5) rfl)) (fun _ h9 => h9) rfl hin rfl (by decide +kernel) rfl rfl (Nat.le_of_ble_eq_true rfl) dX3_init_16 (fun H locs hP hD hS => ?_)
  have hP : va_P D vwCl (rowW cA h0 q n z0) H := hP
  have hD : va_D A (rowW cA h0 q n z0) := hD
  exact W.vret hx hb hr (fun t ht hW => ⟨⟨q, rfl, trivial, by rw [ht]; exact hP, hD⟩, hS.F ht⟩) hS.2.2 dX3_init_19
set_option maxHeartbeats 4000000 in
set_option maxRecDepth 100000 in
theorem k_put (l : Launch) (D : va_G) (cI cR : ClassId) (h0 q n i sz : Nat) (f : Nat → Int32) (x : Int32) (hi : i < n) (hn : n ≤ 2000) : Met l yX3_put wsX3_put { frames := 0, cells := 0, slots := 0, locals := 0 } (va_Pc [.ref h0, .int (nI i), .int x] (KG D cI cR (rowW cI h0 q n f) sz)) (va_Qv (fun _ : Unit => True) (fun _ t => KH D (va_A (rowW cI h0 q n f) sz) (rowW cI h0 q n (upd f i x)) t) (va_A (rowW cI h0 q n f) sz)) 0 0 (va_A (rowW cI h0 q n f) sz) := by
  refine Met.ofW (cc := cX3_put) (maxL := 3) (ret := none) (by decide) rfl ?_
  intro p e s m args below meth c s₁ B hml hv
  obtain ⟨rfl, hsz, hP, hK, hN, hD0⟩ := hv
  have hx := B.exec
  have hb := B.bytes
  have hr := B.returns
  have hts := atoms_spec (ws := wsX3_put) B.pre
  have hown : s.vm.findClass RX3 = some m.cls := findClass_of_methodNamed B.named
  have hlocks := B.notSynchronized
  subst hsz
  have hD := hD0.self (sz := s.heap.size)
  generalize hAe : va_A (rowW cI h0 q n f) s.heap.size = A at hD ⊢
  have hA : ∀ q : Nat, s.heap.size ≤ q → A q := fun q h => by rw [← hAe]; exact Or.inr h
  have hS : va_S A s.heap s.heap [] := va_S.rf
  have hinX3 : ∀ w ∈ wsX30, w ∈ wsX3_put := (fun _ h => List.mem_cons_of_mem _ (List.mem_append_right _ h))
  have hl := lv_entry ([.ref h0, .int (nI i), .int x]) (n := 3) (Nat.le_of_ble_eq_true rfl)
  rw [lg_entry_eq]
  generalize (lg_sl ([.ref h0, .int (nI i), .int x]) ++ List.replicate (3 - (lg_sl ([.ref h0, .int (nI i), .int x])).length) Slot.unset).toArray = ls at hl ⊢
  have hl : lv_has ls 3 [(0, .ref h0), (1, .int (nI i)), (2, .int x)] := hl
  have hv : vp_in (nI i) n := vp_in_nI hi (by omega)
  refine lv_iload_n hx hb dX3_put_0 rfl (lv_at hl 1 rfl) ?_
  refine lv_if_lt (tgt := 20) hx hb dX3_put_1 (by decide) (fun c4 => absurd c4 (nI_pos (by omega))) (fun c4 => ?_)
  refine lv_iload_n hx hb dX3_put_4 rfl (lv_at hl 1 rfl) ?_
  refine lv_aload_n hx hb dX3_put_5 rfl (lv_at hl 0 rfl) ?_
  refine va_get (D := D) (ci := 3) (v := .ref q) (C := RX3) (T := TX3) (N := 1) hx hb hts hinX3 hown hK hP 0 rfl rfl 0 (by decide) (hts (.fieldLink RX3 7 "AdmissionControl$Row" "cells" "[I") (List.mem_of_getElem? (i := 1) rfl)) (fun _ h9 => h9) rfl dX3_put_6 ?_
  refine va_alen hx hb hK hP 1 0 rfl rfl (v := nI n) rfl dX3_put_9 ?_
  refine lv_icmp_ge (tgt := 20) hx hb dX3_put_10 (by decide) (fun c5 => absurd c5 (nI_ge hi (by omega))) (fun c5 => ?_)
  refine lv_aload_n hx hb dX3_put_13 rfl (lv_at hl 0 rfl) ?_
  refine va_get (D := D) (ci := 3) (v := .ref q) (C := RX3) (T := TX3) (N := 1) hx hb hts hinX3 hown hK hP 0 rfl rfl 0 (by decide) (hts (.fieldLink RX3 7 "AdmissionControl$Row" "cells" "[I") (List.mem_of_getElem? (i := 1) rfl)) (fun _ h9 => h9) rfl dX3_put_14 ?_
  refine lv_iload_n hx hb dX3_put_17 rfl (lv_at hl 1 rfl) ?_
  refine lv_iload_n hx hb dX3_put_18 rfl (lv_at hl 2 rfl) ?_
  refine va_iast hx hb hK hP hD hS 1 0 rfl rfl hv dX3_put_19 (fun H locs hP hD hS => ?_)
  rw [tn i (by omega)] at hP hD
  have hP : va_P D vwCl (rowW cI h0 q n (upd f i x)) H := hP
  have hD : va_D A (rowW cI h0 q n (upd f i x)) := hD
  exact W.vret hx hb hr (fun t ht hW => ⟨⟨(), rfl, trivial, by rw [ht]; exact hP, hD⟩, hS.F ht⟩) hS.2.2 dX3_put_20
def reqE (r : Int32) : va_E := .inr (2, [.int r, .int 0, .int 0, .int 0, .int 0, .int 0, .int 0, .int 0, .int 0, .int 0, .int 0])
set_option maxHeartbeats 4000000 in
set_option maxRecDepth 100000 in
theorem k_X2 (l : Launch) (D : va_G) (cI cR : ClassId) (h0 sz : Nat) (x : Int32) : Met l yX2_init wsX2_init { frames := 1, cells := 0, slots := 0, locals := 12 } (va_Pc [.ref h0, .int x] (KG D cI cR [(h0, reqE 0)] sz)) (va_Qv (fun _ : Unit => True) (fun _ t => KH D (va_A [(h0, reqE 0)] sz) [(h0, reqE x)] t) (va_A [(h0, reqE 0)] sz)) 0 0 (va_A [(h0, reqE 0)] sz) := by
  refine Met.ofW (cc := cX2_init) (maxL := 2) (ret := none) (by decide) rfl ?_
  intro p e s m args below meth c s₁ B hml hv
  obtain ⟨rfl, hsz, hP, hK, hN, hD0⟩ := hv
  have hx := B.exec
  have hb := B.bytes
  have hr := B.returns
  have hts := atoms_spec (ws := wsX2_init) B.pre
  have hown : s.vm.findClass RX2 = some m.cls := findClass_of_methodNamed B.named
  have hlocks := B.notSynchronized
  have hin : meth.name = "<init>" := (name_of_methodNamed B.named B.method).1
  subst hsz
  have hD := hD0.self (sz := s.heap.size)
  generalize hAe : va_A [(h0, reqE 0)] s.heap.size = A at hD ⊢
  have hA : ∀ q : Nat, s.heap.size ≤ q → A q := fun q h => by rw [← hAe]; exact Or.inr h
  have hS : va_S A s.heap s.heap [] := va_S.rf
  have hinX2 : ∀ w ∈ wsX20, w ∈ wsX2_init := (fun _ h => List.mem_cons_of_mem _ (List.mem_append_right _ h))
  have hl := lv_entry ([.ref h0, .int x]) (n := 2) (Nat.le_of_ble_eq_true rfl)
  rw [lg_entry_eq]
  generalize (lg_sl ([.ref h0, .int x]) ++ List.replicate (2 - (lg_sl ([.ref h0, .int x])).length) Slot.unset).toArray = ls at hl ⊢
  have hl : lv_has ls 2 [(0, .ref h0), (1, .int x)] := hl
  have hP : va_P D vwCl [(h0, .inr (2, [.int 0, .int 0, .int 0, .int 0, .int 0, .int 0, .int 0, .int 0, .int 0, .int 0, .int 0]))] s.heap := hP
  have hD : va_D A [(h0, .inr (2, [.int 0, .int 0, .int 0, .int 0, .int 0, .int 0, .int 0, .int 0, .int 0, .int 0, .int 0]))] := hD
  refine lv_aload_n hx hb dX2_init_0 rfl (lv_at hl 0 rfl) ?_
  refine W.objInit hx hb hown (hts (.methodLink RX2 3 objectInit) (List.mem_of_getElem? (i := 1) rfl)) (hts (.instanceMethod objectInit) (List.mem_of_getElem? (i := 2) rfl)) (hts _ (List.mem_of_getElem? (i := 3) rfl)) rfl (by rw [hml]; exact hl.1) rfl dX2_init_1 (Nat.le_of_ble_eq_true rfl) (Nat.le_of_ble_eq_true rfl) ?_
  refine W.eq (g2 := F0 m 4 ls []) rfl ?_
  refine lv_aload_n hx hb dX2_init_4 rfl (lv_at hl 0 rfl) ?_
  refine lv_iload_n hx hb dX2_init_5 rfl (lv_at hl 1 rfl) ?_
  refine va_putF (D := D) (ci := 2) (v := .int x) (ty := .int) (C := RX2) (T := TX2) (N := 11) hx hb hts hinX2 tyX2 tyX2_ok nmX2 hown hK hP hD hS 0 rfl rfl 0 (by decide) (hts (.fieldLink RX2 9 "AdmissionControl$Request" "number" "I") (List.mem_of_getElem? (i := 4) rfl)) (fun _ h9 => h9) rfl hin rfl (by decide +kernel) rfl rfl (Nat.le_of_ble_eq_true rfl) dX2_init_6 (fun H locs hP hD hS => ?_)
  have hP : va_P D vwCl [(h0, reqE x)] H := hP
  have hD : va_D A [(h0, reqE x)] := hD
  exact W.vret hx hb hr (fun t ht hW => ⟨⟨(), rfl, trivial, by rw [ht]; exact hP, hD⟩, hS.F ht⟩) hS.2.2 dX2_init_9
