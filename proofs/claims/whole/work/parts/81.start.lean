theorem wk_I {s : State} {a : Array Value} (h : (Cond.arrayClass .int).before a s = true) : ∃ cI, ArrOfT s cI .int ∧ va_RA s cI .int := by
  obtain ⟨c, k, comp, h1, h2, h3⟩ := Cond.arrayClass_spec h
  exact ⟨c, fun n z => ⟨fun k h => (by cases h), k, h2, comp, h3⟩, h1⟩
theorem wk_R {s : State} {a : Array Value} (h : (Cond.arrayOver (.object RX2)).before a s = true) : ∃ cR, ArrOfT s cR (.object "AdmissionControl$Request") ∧ va_RA s cR (.object "AdmissionControl$Request") := by
  obtain ⟨comp, cA, kA, hcomp, hidx, hkA, hkindA, hnameA⟩ := Cond.arrayOver_spec h
  exact ⟨cA, fun N z => ⟨(fun k h => by cases h), kA, hkA, comp, hkindA⟩, kA, comp, hkA, hkindA, hcomp, hnameA⟩
set_option maxHeartbeats 8000000 in
set_option maxRecDepth 100000 in
theorem whole_start {p : Program} {e : Env} {s : State} {m : MethodId} {below : List Frame} {meth : Method} {c : Code} (l : Launch) (hflags : l.flags = flags0) {b L : Nat} {xs : Nat → Int32} (hL : L ≤ 2048) (C0 : lw_At p s m meth c b L xs) : W p l e room_1 s m #[Value.ref b] below meth c s.heap [] 0 0 (lw_Z below #[Value.ref b] s) (entryFrame m ([Value.ref b] : List Value).toArray 8) := by
  obtain ⟨hx, hb, hr, hml, hown, hts0, hX, hbl, hlocks, hgv⟩ := id C0
  have hts : ∀ w ∈ wsL_law, w.before #[Value.ref b] s = true := fun w h => hts0 w (wsL_law_in w h)
  have hA : ∀ q : Nat, s.heap.size ≤ q → (fun q : Nat => s.heap.size ≤ q) q := fun _ h => h
  have hbA : ¬ (fun q : Nat => s.heap.size ≤ q) b := Nat.not_le.mpr hbl
  obtain ⟨c0, iS0, hKn0⟩ := u_known (C := RX0) (T := TX0) (N := 5) (n := 5) hts0 inX0 (hts0 (.instantiable RX0 5) (List.mem_of_getElem? (i := 230) (by decide +kernel)))
  obtain ⟨c1, iS1, hKn1⟩ := u_known (C := RX1) (T := TX1) (N := 7) (n := 7) hts0 inX1 (hts0 (.instantiable RX1 7) (List.mem_of_getElem? (i := 82) (by decide +kernel)))
  obtain ⟨c2, iS2, hKn2⟩ := u_known (C := RX2) (T := TX2) (N := 11) (n := 11) hts0 inX2 (hts0 (.instantiable RX2 11) (List.mem_of_getElem? (i := 132) (by decide +kernel)))
  obtain ⟨c3, iS3, hKn3⟩ := u_known (C := RX3) (T := TX3) (N := 1) (n := 1) hts0 inX3 (hts0 (.instantiable RX3 1) (List.mem_of_getElem? (i := 71) (by decide +kernel)))
  obtain ⟨c4, iS4, hKn4⟩ := u_known (C := RX4) (T := TX4) (N := 11) (n := 11) hts0 inX4 (hts0 (.instantiable RX4 11) (List.mem_of_getElem? (i := 65) (by decide +kernel)))
  obtain ⟨c5, iS5, hKn5⟩ := u_known (C := RX5) (T := TX5) (N := 2) (n := 2) hts0 inX5 (hts0 (.instantiable RX5 2) (List.mem_of_getElem? (i := 255) (by decide +kernel)))
  obtain ⟨c6, iS6, hKn6⟩ := u_known (C := RX6) (T := TX6) (N := 4) (n := 4) hts0 inX6 (hts0 (.instantiable RX6 4) (List.mem_of_getElem? (i := 57) (by decide +kernel)))
  obtain ⟨c7, iS7, hKn7⟩ := u_known (C := RX7) (T := TX7) (N := 9) (n := 9) hts0 inX7 (hts0 (.instantiable RX7 9) (List.mem_of_getElem? (i := 642) (by decide +kernel)))
  obtain ⟨dC, dI, hKc⟩ : ∃ (dC : Nat → ClassId) (dI : Nat → Nat → Nat), ∀ (k : Nat) (q : vw_C), vwCl[k]? = some q → u_Kn s q.1 q.2.1 q.2.2 (dC k) (dI k) := by
    refine ⟨fun k => match k with | 0 => c0 | 1 => c1 | 2 => c2 | 3 => c3 | 4 => c4 | 5 => c5 | 6 => c6 | _ => c7, fun k => match k with | 0 => iS0 | 1 => iS1 | 2 => iS2 | 3 => iS3 | 4 => iS4 | 5 => iS5 | 6 => iS6 | _ => iS7, ?_⟩
    intro k q hq
    match k, hq with
    | 0, hq => cases hq; exact hKn0
    | 1, hq => cases hq; exact hKn1
    | 2, hq => cases hq; exact hKn2
    | 3, hq => cases hq; exact hKn3
    | 4, hq => cases hq; exact hKn4
    | 5, hq => cases hq; exact hKn5
    | 6, hq => cases hq; exact hKn6
    | 7, hq => cases hq; exact hKn7
    | k + 8, hq => simp [vwCl] at hq
  obtain ⟨cI, hI1, hI2⟩ := wk_I (hts0 (.arrayClass .int) (List.mem_of_getElem? (i := 80) (by decide +kernel)))
  obtain ⟨cR, hR1, hR2⟩ := wk_R (hts0 (.arrayOver (.object RX2)) (List.mem_of_getElem? (i := 130) (by decide +kernel)))
  have hK : va_K (dC, dI) vwCl (tyz cI cR) s := ⟨hKc, fun k q h => by
    match k, h with
    | 0, h => cases h; exact ⟨hI1, hI2⟩
    | 1, h => cases h; exact ⟨hR1, hR2⟩
    | k + 2, h => simp [tyz] at h⟩
  have hNF : NF s := ⟨(va_tabs (by decide) rfl (hts0 (.methodLinkNest RX4 77 yX6_isKind RX6) (List.mem_of_getElem? (i := 354) (by decide +kernel)))), (va_tabs (by decide) rfl (hts0 (.methodLinkNest RX4 81 yX6_isShape RX6) (List.mem_of_getElem? (i := 355) (by decide +kernel)))), (va_tabs (by decide) rfl (hts0 (.methodLinkNest RX4 85 yX6_isBetween RX6) (List.mem_of_getElem? (i := 359) (by decide +kernel)))), (va_tabs (by decide) rfl (hts0 (.methodLinkNest RX4 130 yX6_quotient RX6) (List.mem_of_getElem? (i := 391) (by decide +kernel)))), (va_tabs (by decide) rfl (hts0 (.methodLinkNest RX5 37 yX6_isBetween RX6) (List.mem_of_getElem? (i := 482) (by decide +kernel))))⟩
  have hN : N2 s := ⟨(va_tabs (by decide) rfl (hts0 (.methodLinkNest RX6 21 yX0_init RX6) (List.mem_of_getElem? (i := 231) (by decide +kernel)))), (va_tabs (by decide) rfl (hts0 (.methodLinkNest RX6 28 yX5_init RX6) (List.mem_of_getElem? (i := 256) (by decide +kernel)))), va_AO.of (hts0 (.arrayOver (.object RX2)) (List.mem_of_getElem? (i := 130) (by decide +kernel)))⟩
  have hS : va_S (fun q : Nat => s.heap.size ≤ q) s.heap s.heap [] := va_S.rf
  have hP : va_P (dC, dI) vwCl [] s.heap := fun k q h => by simp at h
  have hD : va_D (fun q : Nat => s.heap.size ≤ q) [] := ⟨fun i j p q h => by simp at h, fun k q h => by simp at h⟩
  have hl := lv_entry ([.ref b]) (n := 8) (Nat.le_of_ble_eq_true rfl)
  rw [lg_entry_eq]
  generalize (lg_sl ([.ref b]) ++ List.replicate (8 - (lg_sl ([.ref b])).length) Slot.unset).toArray = ls at hl ⊢
  have hl : lv_has ls 8 [(0, .ref b)] := hl
  refine va_new (ci := 6) (fs := [.null, .null, .null, .null]) (C := RX6) (T := TX6) (N := 4) hx hb hts0 inX6 tyX6 tyX6_ok hown (hts0 (.classLink RL 7 RX6) (List.mem_of_getElem? (i := 56) (by decide +kernel))) (hts0 (.instantiable RX6 4) (List.mem_of_getElem? (i := 57) (by decide +kernel))) (hts0 (.initialized RX6) (List.mem_of_getElem? (i := 47) (by decide +kernel))) hK hP hD hS hA rfl (fun j hj => by rcases (show j = 0 ∨ j = 1 ∨ j = 2 ∨ j = 3 by omega) with rfl | rfl | rfl | rfl <;> rfl) (Nat.le_of_ble_eq_true rfl) (Nat.le_of_ble_eq_true rfl) dL_law_0 (fun a H hP hD hS => ?_)
  refine lv_dup hx hb dL_law_3 rfl ?_
  refine g_cv (S := acS) (W1 := fun v => acW cI cR a v) hP hD (va_runI (As := []) (rest := [.ref a]) ⟨hx, hb, hml, hown, hts⟩ (k_X6 l (dC, dI) cI cR a H.size) (cwI 0 hts gL_law_X6_init rfl rfl rfl (hts0 (.initialized RX6) (List.mem_of_getElem? (i := 47) (by decide +kernel))) (hts0 (.methodLink RL 9 yX6_init) (List.mem_of_getElem? (i := 58) (by decide +kernel))) (hts0 (.instanceMethod yX6_init) (List.mem_of_getElem? (i := 59) (by decide +kernel))) rfl (by decide +kernel) ⟨Nat.le_of_ble_eq_true rfl, Nat.le_of_ble_eq_true rfl⟩) (g_preI hP hD hK hN) rfl rfl hl.1 rfl (lv_room (Nat.le_of_ble_eq_true rfl)) dL_law_4 ⟨Nat.le_of_ble_eq_true rfl, Nat.le_of_ble_eq_true rfl⟩) hS hA (fun v H locs hP hD hS => ?_)
  refine lv_astore_n (lv' := [(1, .ref a), (0, .ref b)]) hx hb dL_law_7 rfl hl (by decide) rfl (fun ls hl => ?_)
  refine va_new (ci := 7) (fs := [.null, .null, .null, .int 0, .null, .int 0, .int 0, .int 0, .int 0]) (C := RX7) (T := TX7) (N := 9) hx hb hts0 inX7 tyX7 tyX7_ok hown (hts0 (.classLink RL 10 RX7) (List.mem_of_getElem? (i := 641) (by decide +kernel))) (hts0 (.instantiable RX7 9) (List.mem_of_getElem? (i := 642) (by decide +kernel))) (hts0 (.initialized RX7) (List.mem_of_getElem? (i := 54) (by decide +kernel))) hK hP hD hS hA rfl (fun j hj => by rcases (show j = 0 ∨ j = 1 ∨ j = 2 ∨ j = 3 ∨ j = 4 ∨ j = 5 ∨ j = 6 ∨ j = 7 ∨ j = 8 by omega) with rfl | rfl | rfl | rfl | rfl | rfl | rfl | rfl | rfl <;> rfl) (Nat.le_of_ble_eq_true rfl) (Nat.le_of_ble_eq_true rfl) dL_law_8 (fun d H hP hD hS => ?_)
  refine lv_dup hx hb dL_law_11 rfl ?_
  refine g_cv (S := (Nat → Nat)) (W1 := fun w => modW cI d w) hP hD (va_runI (As := []) (rest := [.ref d]) ⟨hx, hb, hml, hown, hts⟩ (k_X7 l (dC, dI) cI cR d H.size) (cwI 0 hts gL_law_X7_init rfl rfl rfl (hts0 (.initialized RX7) (List.mem_of_getElem? (i := 54) (by decide +kernel))) (hts0 (.methodLink RL 12 yX7_init) (List.mem_of_getElem? (i := 643) (by decide +kernel))) (hts0 (.instanceMethod yX7_init) (List.mem_of_getElem? (i := 644) (by decide +kernel))) rfl (by decide +kernel) ⟨Nat.le_of_ble_eq_true rfl, Nat.le_of_ble_eq_true rfl⟩) (g_preI hP hD hK hN) rfl rfl hl.1 rfl (lv_room (Nat.le_of_ble_eq_true rfl)) dL_law_12 ⟨Nat.le_of_ble_eq_true rfl, Nat.le_of_ble_eq_true rfl⟩) hS hA (fun w H locs hP hD hS => ?_)
  refine lv_astore_n (lv' := [(2, .ref d), (1, .ref a), (0, .ref b)]) hx hb dL_law_15 rfl hl (by decide) rfl (fun ls hl => ?_)
  refine lv_iconst (v := 0) hx hb dL_law_16 (by decide) ?_
  refine lv_istore_n (lv' := [(3, .int 0), (2, .ref d), (1, .ref a), (0, .ref b)]) hx hb dL_law_17 rfl hl (by decide) rfl (fun ls hl => ?_)
  have hP : va_P (dC, dI) vwCl (acW cI cR a v ++ modW cI d w) H := hP
  have hD : va_D (fun q : Nat => s.heap.size ≤ q) (acW cI cR a v ++ modW cI d w) := hD
  obtain ⟨hP0, hi0, hA0⟩ := w_cw hP hD
  refine W.widen (k := 364) (n := 5491) (by decide) (by decide) ?_
  have C : LC p s m c b L xs (dC, dI) (ad0 a v d w) cI cR := ⟨hx, hb, hml, hown, hts, hX, hbl, hi0, hA0, hK, hNF, hL⟩
  have hl : lv_has ls 8 (lwl b (ad0 a v d w) 0) := lv_sub hl [3, 2, 1, 0] rfl
  refine law_loop C (fun H locs ls hS => ?_) (L + 1) 0 (by omega) (by omega) _ _ ls mem0 GR_0 hP0 hS hl
  refine lv_iconst (v := 1) hx hb dL_law_1002 (by decide) ?_
  refine va_forget (fun q hq => hS.2.2 q hq) ?_
  refine W.widen (k := 600000) (n := 7302250) (Nat.le_of_ble_eq_true rfl) (Nat.le_of_ble_eq_true rfl) ?_
  exact lw_ret (d0 := s.drawn) (Drawn.sameBut.refl s.drawn lw_cs) hx hb hr hlocks dL_law_1003
