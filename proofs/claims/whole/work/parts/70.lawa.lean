/-! ===== the law ===== -/
abbrev FU : Nat := 5000
theorem hFU : 1200 < FU := by decide
theorem two {FC FM : Mem → Option (Int32 × Mem)} (h : CallOK FC FM) {m : Mem} (g : GR m m) : ∃ r m1 m2, FC m = some (r, m1) ∧ FM m1 = some (r, m2) ∧ GR m2 m2 := by
  obtain ⟨r, m1, w1, e1, e2, g1, f1, f2⟩ := h m m g
  have g2 : GR m m1 := GR_c g (fun _ _ => rfl) f1
  obtain ⟨r', m1', w2, e1', e2', g1', f1', f2'⟩ := h m m1 g2
  rw [e1] at e1'
  injection e1' with e1'
  injection e1' with ea eb
  subst ea eb
  exact ⟨r, m1, w2, e1, e2', GR_c g1' (fun a ha => f2' a ha) (fun _ _ => rfl)⟩
def LC (p : Program) (s : State) (m : MethodId) (c : Code) (b L : Nat) (xs : Nat → Int32) (D : va_G) (ad : Nat → Nat) (cI cR : ClassId) : Prop := p.tables.exec = Jvm.exec ∧ c.code = cL_law ∧ c.maxLocals = 8 ∧ s.vm.findClass RL = some m.cls ∧ (∀ w ∈ wsL_law, w.before #[Value.ref b] s = true) ∧ va_X b L xs s s.heap ∧ b < s.heap.size ∧ inj ad ∧ (∀ q, AA ad q → s.heap.size ≤ q) ∧ va_K D vwCl (tyz cI cR) s ∧ NF s ∧ L ≤ 2048
abbrev lwl (b : Nat) (ad : Nat → Nat) (n : Nat) : List (Nat × Value) := [(0, .ref b), (1, .ref (ad 0)), (2, .ref (ad 359)), (3, .int (nI n))]
set_option maxHeartbeats 4000000 in
set_option maxRecDepth 100000 in
theorem lc_0 {p : Program} {e : Env} {s : State} {m : MethodId} {below : List Frame} {meth : Method} {c : Code} {l : Launch} {b L : Nat} {xs : Nat → Int32} {D : va_G} {ad : Nat → Nat} {cI cR : ClassId} {Q : State → Prop} (C : LC p s m c b L xs D ad cI cR) {n : Nat} (hn : n + 4 ≤ L) {H : Heap} {locs : List Loc} {ls : Array Slot} {mm : Mem} (g : GR mm mm) (hP : va_P D vwCl (cw ad cI cR mm) H) (hS : va_S (fun q : Nat => s.heap.size ≤ q) s.heap H locs) (hl : lv_has ls 8 (lwl b ad n)) (K : ∀ (H : Heap) (locs : List Loc) (ls : Array Slot) (mm : Mem), GR mm mm → va_P D vwCl (cw ad cI cR mm) H → va_S (fun q : Nat => s.heap.size ≤ q) s.heap H locs → lv_has ls 8 (lwl b ad n) → W p l e room_1 s m #[Value.ref b] below meth c H locs 364 5491 Q (F0 m 996 ls [])) : W p l e room_1 s m #[Value.ref b] below meth c H locs 364 5491 Q (F0 m 184 ls []) := by
  obtain ⟨hx, hb, hml, hown, hts, hX, hbl, hi, hA, hK, hN, hL⟩ := C
  have hbA : ¬ s.heap.size ≤ b := Nat.not_le.mpr hbl
  have hv1 : vp_in (nI n + 1) L := by rw [show nI n + 1 = nI (n + 1) from nI_1 n]; exact vp_in_nI (by omega) (by omega)
  have hv2 : vp_in (nI n + 2) L := by rw [show nI n + 2 = nI (n + 2) from nI_add n 2]; exact vp_in_nI (by omega) (by omega)
  have hv3 : vp_in (nI n + 3) L := by rw [show nI n + 3 = nI (n + 3) from nI_add n 3]; exact vp_in_nI (by omega) (by omega)
  obtain ⟨r, m1, m2, e1, e2, g2⟩ := two (ok_set FU hFU (xs (nI n + 1).toNatClampNeg) (xs (nI n + 2).toNatClampNeg)) g
  refine lv_aload_n hx hb dL_law_184 rfl (lv_at hl 1 rfl) ?_
  refine lv_aload_n hx hb dL_law_185 rfl (lv_at hl 0 rfl) ?_
  refine lv_iload_n hx hb dL_law_186 rfl (lv_at hl 3 rfl) ?_
  refine lv_iconst (v := 1) hx hb dL_law_187 (by decide) ?_
  refine lv_iadd hx hb dL_law_188 ?_
  refine va_sld hx hb hX hbl hbA hS (hv1) dL_law_189 ?_
  refine lv_aload_n hx hb dL_law_190 rfl (lv_at hl 0 rfl) ?_
  refine lv_iload_n hx hb dL_law_191 rfl (lv_at hl 3 rfl) ?_
  refine lv_iconst (v := 2) hx hb dL_law_192 (by decide) ?_
  refine lv_iadd hx hb dL_law_193 ?_
  refine va_sld hx hb hX hbl hbA hS (hv2) dL_law_194 ?_
  refine w_ci (va_runV (As := [.int (xs (nI n + 1).toNatClampNeg), .int (xs (nI n + 2).toNatClampNeg)]) (rest := []) ⟨hx, hb, hml, hown, hts⟩ (c_X6_set l D ad cI cR hi FU (xs (nI n + 1).toNatClampNeg) (xs (nI n + 2).toNatClampNeg) mm r m1 e1) (cwV 2 hts gL_law_X6_set rfl rfl rfl (by decide +kernel) ⟨Nat.le_of_ble_eq_true rfl, Nat.le_of_ble_eq_true rfl⟩) (w_preV (ci := 6) hK hP hN (S_ac ad cI cR).1 (S_ac ad cI cR).2 rfl) rfl rfl hl.1 rfl (lv_room (Nat.le_of_ble_eq_true rfl)) dL_law_195 ⟨Nat.le_of_ble_eq_true rfl, Nat.le_of_ble_eq_true rfl⟩) hA hS (fun H locs hP hS => ?_)
  refine lv_aload_n hx hb dL_law_198 rfl (lv_at hl 2 rfl) ?_
  refine lv_aload_n hx hb dL_law_199 rfl (lv_at hl 0 rfl) ?_
  refine lv_iload_n hx hb dL_law_200 rfl (lv_at hl 3 rfl) ?_
  refine lv_iconst (v := 1) hx hb dL_law_201 (by decide) ?_
  refine lv_iadd hx hb dL_law_202 ?_
  refine va_sld hx hb hX hbl hbA hS (hv1) dL_law_203 ?_
  refine lv_aload_n hx hb dL_law_204 rfl (lv_at hl 0 rfl) ?_
  refine lv_iload_n hx hb dL_law_205 rfl (lv_at hl 3 rfl) ?_
  refine lv_iconst (v := 2) hx hb dL_law_206 (by decide) ?_
  refine lv_iadd hx hb dL_law_207 ?_
  refine va_sld hx hb hX hbl hbA hS (hv2) dL_law_208 ?_
  refine w_ci (va_runV (As := [.int (xs (nI n + 1).toNatClampNeg), .int (xs (nI n + 2).toNatClampNeg)]) (rest := [.int r]) ⟨hx, hb, hml, hown, hts⟩ (c_X7_set l D ad cI cR hi FU (xs (nI n + 1).toNatClampNeg) (xs (nI n + 2).toNatClampNeg) m1 r m2 e2) (cwV 2 hts gL_law_X7_set rfl rfl rfl (by decide +kernel) ⟨Nat.le_of_ble_eq_true rfl, Nat.le_of_ble_eq_true rfl⟩) (w_preV (ci := 7) hK hP hN (S_mod ad cI cR).1 (S_mod ad cI cR).2 rfl) rfl rfl hl.1 rfl (lv_room (Nat.le_of_ble_eq_true rfl)) dL_law_209 ⟨Nat.le_of_ble_eq_true rfl, Nat.le_of_ble_eq_true rfl⟩) hA hS (fun H locs hP hS => ?_)
  refine lv_icmp_eq (tgt := 996) hx hb dL_law_212 (by decide) (fun _ => K _ _ ls m2 g2 hP hS hl) (fun c9 => absurd rfl c9)
set_option maxHeartbeats 4000000 in
set_option maxRecDepth 100000 in
theorem lc_1 {p : Program} {e : Env} {s : State} {m : MethodId} {below : List Frame} {meth : Method} {c : Code} {l : Launch} {b L : Nat} {xs : Nat → Int32} {D : va_G} {ad : Nat → Nat} {cI cR : ClassId} {Q : State → Prop} (C : LC p s m c b L xs D ad cI cR) {n : Nat} (hn : n + 4 ≤ L) {H : Heap} {locs : List Loc} {ls : Array Slot} {mm : Mem} (g : GR mm mm) (hP : va_P D vwCl (cw ad cI cR mm) H) (hS : va_S (fun q : Nat => s.heap.size ≤ q) s.heap H locs) (hl : lv_has ls 8 (lwl b ad n)) (K : ∀ (H : Heap) (locs : List Loc) (ls : Array Slot) (mm : Mem), GR mm mm → va_P D vwCl (cw ad cI cR mm) H → va_S (fun q : Nat => s.heap.size ≤ q) s.heap H locs → lv_has ls 8 (lwl b ad n) → W p l e room_1 s m #[Value.ref b] below meth c H locs 364 5491 Q (F0 m 996 ls [])) : W p l e room_1 s m #[Value.ref b] below meth c H locs 364 5491 Q (F0 m 217 ls []) := by
  obtain ⟨hx, hb, hml, hown, hts, hX, hbl, hi, hA, hK, hN, hL⟩ := C
  have hbA : ¬ s.heap.size ≤ b := Nat.not_le.mpr hbl
  have hv1 : vp_in (nI n + 1) L := by rw [show nI n + 1 = nI (n + 1) from nI_1 n]; exact vp_in_nI (by omega) (by omega)
  have hv2 : vp_in (nI n + 2) L := by rw [show nI n + 2 = nI (n + 2) from nI_add n 2]; exact vp_in_nI (by omega) (by omega)
  have hv3 : vp_in (nI n + 3) L := by rw [show nI n + 3 = nI (n + 3) from nI_add n 3]; exact vp_in_nI (by omega) (by omega)
  obtain ⟨r, m1, m2, e1, e2, g2⟩ := two (ok_setClass FU hFU (xs (nI n + 1).toNatClampNeg) (xs (nI n + 2).toNatClampNeg) (xs (nI n + 3).toNatClampNeg)) g
  refine lv_aload_n hx hb dL_law_217 rfl (lv_at hl 1 rfl) ?_
  refine lv_aload_n hx hb dL_law_218 rfl (lv_at hl 0 rfl) ?_
  refine lv_iload_n hx hb dL_law_219 rfl (lv_at hl 3 rfl) ?_
  refine lv_iconst (v := 1) hx hb dL_law_220 (by decide) ?_
  refine lv_iadd hx hb dL_law_221 ?_
  refine va_sld hx hb hX hbl hbA hS (hv1) dL_law_222 ?_
  refine lv_aload_n hx hb dL_law_223 rfl (lv_at hl 0 rfl) ?_
  refine lv_iload_n hx hb dL_law_224 rfl (lv_at hl 3 rfl) ?_
  refine lv_iconst (v := 2) hx hb dL_law_225 (by decide) ?_
  refine lv_iadd hx hb dL_law_226 ?_
  refine va_sld hx hb hX hbl hbA hS (hv2) dL_law_227 ?_
  refine lv_aload_n hx hb dL_law_228 rfl (lv_at hl 0 rfl) ?_
  refine lv_iload_n hx hb dL_law_229 rfl (lv_at hl 3 rfl) ?_
  refine lv_iconst (v := 3) hx hb dL_law_230 (by decide) ?_
  refine lv_iadd hx hb dL_law_231 ?_
  refine va_sld hx hb hX hbl hbA hS (hv3) dL_law_232 ?_
  refine w_ci (va_runV (As := [.int (xs (nI n + 1).toNatClampNeg), .int (xs (nI n + 2).toNatClampNeg), .int (xs (nI n + 3).toNatClampNeg)]) (rest := []) ⟨hx, hb, hml, hown, hts⟩ (c_X6_setClass l D ad cI cR hi FU (xs (nI n + 1).toNatClampNeg) (xs (nI n + 2).toNatClampNeg) (xs (nI n + 3).toNatClampNeg) mm r m1 e1) (cwV 3 hts gL_law_X6_setClass rfl rfl rfl (by decide +kernel) ⟨Nat.le_of_ble_eq_true rfl, Nat.le_of_ble_eq_true rfl⟩) (w_preV (ci := 6) hK hP hN (S_ac ad cI cR).1 (S_ac ad cI cR).2 rfl) rfl rfl hl.1 rfl (lv_room (Nat.le_of_ble_eq_true rfl)) dL_law_233 ⟨Nat.le_of_ble_eq_true rfl, Nat.le_of_ble_eq_true rfl⟩) hA hS (fun H locs hP hS => ?_)
  refine lv_aload_n hx hb dL_law_236 rfl (lv_at hl 2 rfl) ?_
  refine lv_aload_n hx hb dL_law_237 rfl (lv_at hl 0 rfl) ?_
  refine lv_iload_n hx hb dL_law_238 rfl (lv_at hl 3 rfl) ?_
  refine lv_iconst (v := 1) hx hb dL_law_239 (by decide) ?_
  refine lv_iadd hx hb dL_law_240 ?_
  refine va_sld hx hb hX hbl hbA hS (hv1) dL_law_241 ?_
  refine lv_aload_n hx hb dL_law_242 rfl (lv_at hl 0 rfl) ?_
  refine lv_iload_n hx hb dL_law_243 rfl (lv_at hl 3 rfl) ?_
  refine lv_iconst (v := 2) hx hb dL_law_244 (by decide) ?_
  refine lv_iadd hx hb dL_law_245 ?_
  refine va_sld hx hb hX hbl hbA hS (hv2) dL_law_246 ?_
  refine lv_aload_n hx hb dL_law_247 rfl (lv_at hl 0 rfl) ?_
  refine lv_iload_n hx hb dL_law_248 rfl (lv_at hl 3 rfl) ?_
  refine lv_iconst (v := 3) hx hb dL_law_249 (by decide) ?_
  refine lv_iadd hx hb dL_law_250 ?_
  refine va_sld hx hb hX hbl hbA hS (hv3) dL_law_251 ?_
  refine w_ci (va_runV (As := [.int (xs (nI n + 1).toNatClampNeg), .int (xs (nI n + 2).toNatClampNeg), .int (xs (nI n + 3).toNatClampNeg)]) (rest := [.int r]) ⟨hx, hb, hml, hown, hts⟩ (c_X7_setClass l D ad cI cR hi FU (xs (nI n + 1).toNatClampNeg) (xs (nI n + 2).toNatClampNeg) (xs (nI n + 3).toNatClampNeg) m1 r m2 e2) (cwV 3 hts gL_law_X7_setClass rfl rfl rfl (by decide +kernel) ⟨Nat.le_of_ble_eq_true rfl, Nat.le_of_ble_eq_true rfl⟩) (w_preV (ci := 7) hK hP hN (S_mod ad cI cR).1 (S_mod ad cI cR).2 rfl) rfl rfl hl.1 rfl (lv_room (Nat.le_of_ble_eq_true rfl)) dL_law_252 ⟨Nat.le_of_ble_eq_true rfl, Nat.le_of_ble_eq_true rfl⟩) hA hS (fun H locs hP hS => ?_)
  refine lv_icmp_eq (tgt := 996) hx hb dL_law_255 (by decide) (fun _ => K _ _ ls m2 g2 hP hS hl) (fun c9 => absurd rfl c9)
set_option maxHeartbeats 4000000 in
set_option maxRecDepth 100000 in
theorem lc_2 {p : Program} {e : Env} {s : State} {m : MethodId} {below : List Frame} {meth : Method} {c : Code} {l : Launch} {b L : Nat} {xs : Nat → Int32} {D : va_G} {ad : Nat → Nat} {cI cR : ClassId} {Q : State → Prop} (C : LC p s m c b L xs D ad cI cR) {n : Nat} (hn : n + 4 ≤ L) {H : Heap} {locs : List Loc} {ls : Array Slot} {mm : Mem} (g : GR mm mm) (hP : va_P D vwCl (cw ad cI cR mm) H) (hS : va_S (fun q : Nat => s.heap.size ≤ q) s.heap H locs) (hl : lv_has ls 8 (lwl b ad n)) (K : ∀ (H : Heap) (locs : List Loc) (ls : Array Slot) (mm : Mem), GR mm mm → va_P D vwCl (cw ad cI cR mm) H → va_S (fun q : Nat => s.heap.size ≤ q) s.heap H locs → lv_has ls 8 (lwl b ad n) → W p l e room_1 s m #[Value.ref b] below meth c H locs 364 5491 Q (F0 m 996 ls [])) : W p l e room_1 s m #[Value.ref b] below meth c H locs 364 5491 Q (F0 m 260 ls []) := by
  obtain ⟨hx, hb, hml, hown, hts, hX, hbl, hi, hA, hK, hN, hL⟩ := C
  have hbA : ¬ s.heap.size ≤ b := Nat.not_le.mpr hbl
  have hv1 : vp_in (nI n + 1) L := by rw [show nI n + 1 = nI (n + 1) from nI_1 n]; exact vp_in_nI (by omega) (by omega)
  have hv2 : vp_in (nI n + 2) L := by rw [show nI n + 2 = nI (n + 2) from nI_add n 2]; exact vp_in_nI (by omega) (by omega)
  have hv3 : vp_in (nI n + 3) L := by rw [show nI n + 3 = nI (n + 3) from nI_add n 3]; exact vp_in_nI (by omega) (by omega)
  obtain ⟨r, m1, m2, e1, e2, g2⟩ := two (ok_offer FU hFU (xs (nI n + 1).toNatClampNeg) (xs (nI n + 2).toNatClampNeg) (xs (nI n + 3).toNatClampNeg)) g
  refine lv_aload_n hx hb dL_law_260 rfl (lv_at hl 1 rfl) ?_
  refine lv_aload_n hx hb dL_law_261 rfl (lv_at hl 0 rfl) ?_
  refine lv_iload_n hx hb dL_law_262 rfl (lv_at hl 3 rfl) ?_
  refine lv_iconst (v := 1) hx hb dL_law_263 (by decide) ?_
  refine lv_iadd hx hb dL_law_264 ?_
  refine va_sld hx hb hX hbl hbA hS (hv1) dL_law_265 ?_
  refine lv_aload_n hx hb dL_law_266 rfl (lv_at hl 0 rfl) ?_
  refine lv_iload_n hx hb dL_law_267 rfl (lv_at hl 3 rfl) ?_
  refine lv_iconst (v := 2) hx hb dL_law_268 (by decide) ?_
  refine lv_iadd hx hb dL_law_269 ?_
  refine va_sld hx hb hX hbl hbA hS (hv2) dL_law_270 ?_
  refine lv_aload_n hx hb dL_law_271 rfl (lv_at hl 0 rfl) ?_
  refine lv_iload_n hx hb dL_law_272 rfl (lv_at hl 3 rfl) ?_
  refine lv_iconst (v := 3) hx hb dL_law_273 (by decide) ?_
  refine lv_iadd hx hb dL_law_274 ?_
  refine va_sld hx hb hX hbl hbA hS (hv3) dL_law_275 ?_
  refine w_ci (va_runV (As := [.int (xs (nI n + 1).toNatClampNeg), .int (xs (nI n + 2).toNatClampNeg), .int (xs (nI n + 3).toNatClampNeg)]) (rest := []) ⟨hx, hb, hml, hown, hts⟩ (c_X6_offer l D ad cI cR hi FU (xs (nI n + 1).toNatClampNeg) (xs (nI n + 2).toNatClampNeg) (xs (nI n + 3).toNatClampNeg) mm r m1 e1) (cwV 3 hts gL_law_X6_offer rfl rfl rfl (by decide +kernel) ⟨Nat.le_of_ble_eq_true rfl, Nat.le_of_ble_eq_true rfl⟩) (w_preV (ci := 6) hK hP hN (S_ac ad cI cR).1 (S_ac ad cI cR).2 rfl) rfl rfl hl.1 rfl (lv_room (Nat.le_of_ble_eq_true rfl)) dL_law_276 ⟨Nat.le_of_ble_eq_true rfl, Nat.le_of_ble_eq_true rfl⟩) hA hS (fun H locs hP hS => ?_)
  refine lv_aload_n hx hb dL_law_279 rfl (lv_at hl 2 rfl) ?_
  refine lv_aload_n hx hb dL_law_280 rfl (lv_at hl 0 rfl) ?_
  refine lv_iload_n hx hb dL_law_281 rfl (lv_at hl 3 rfl) ?_
  refine lv_iconst (v := 1) hx hb dL_law_282 (by decide) ?_
  refine lv_iadd hx hb dL_law_283 ?_
  refine va_sld hx hb hX hbl hbA hS (hv1) dL_law_284 ?_
  refine lv_aload_n hx hb dL_law_285 rfl (lv_at hl 0 rfl) ?_
  refine lv_iload_n hx hb dL_law_286 rfl (lv_at hl 3 rfl) ?_
  refine lv_iconst (v := 2) hx hb dL_law_287 (by decide) ?_
  refine lv_iadd hx hb dL_law_288 ?_
  refine va_sld hx hb hX hbl hbA hS (hv2) dL_law_289 ?_
  refine lv_aload_n hx hb dL_law_290 rfl (lv_at hl 0 rfl) ?_
  refine lv_iload_n hx hb dL_law_291 rfl (lv_at hl 3 rfl) ?_
  refine lv_iconst (v := 3) hx hb dL_law_292 (by decide) ?_
  refine lv_iadd hx hb dL_law_293 ?_
  refine va_sld hx hb hX hbl hbA hS (hv3) dL_law_294 ?_
  refine w_ci (va_runV (As := [.int (xs (nI n + 1).toNatClampNeg), .int (xs (nI n + 2).toNatClampNeg), .int (xs (nI n + 3).toNatClampNeg)]) (rest := [.int r]) ⟨hx, hb, hml, hown, hts⟩ (c_X7_offer l D ad cI cR hi FU (xs (nI n + 1).toNatClampNeg) (xs (nI n + 2).toNatClampNeg) (xs (nI n + 3).toNatClampNeg) m1 r m2 e2) (cwV 3 hts gL_law_X7_offer rfl rfl rfl (by decide +kernel) ⟨Nat.le_of_ble_eq_true rfl, Nat.le_of_ble_eq_true rfl⟩) (w_preV (ci := 7) hK hP hN (S_mod ad cI cR).1 (S_mod ad cI cR).2 rfl) rfl rfl hl.1 rfl (lv_room (Nat.le_of_ble_eq_true rfl)) dL_law_295 ⟨Nat.le_of_ble_eq_true rfl, Nat.le_of_ble_eq_true rfl⟩) hA hS (fun H locs hP hS => ?_)
  refine lv_icmp_eq (tgt := 996) hx hb dL_law_298 (by decide) (fun _ => K _ _ ls m2 g2 hP hS hl) (fun c9 => absurd rfl c9)
set_option maxHeartbeats 4000000 in
set_option maxRecDepth 100000 in
theorem lc_3 {p : Program} {e : Env} {s : State} {m : MethodId} {below : List Frame} {meth : Method} {c : Code} {l : Launch} {b L : Nat} {xs : Nat → Int32} {D : va_G} {ad : Nat → Nat} {cI cR : ClassId} {Q : State → Prop} (C : LC p s m c b L xs D ad cI cR) {n : Nat} (hn : n + 4 ≤ L) {H : Heap} {locs : List Loc} {ls : Array Slot} {mm : Mem} (g : GR mm mm) (hP : va_P D vwCl (cw ad cI cR mm) H) (hS : va_S (fun q : Nat => s.heap.size ≤ q) s.heap H locs) (hl : lv_has ls 8 (lwl b ad n)) (K : ∀ (H : Heap) (locs : List Loc) (ls : Array Slot) (mm : Mem), GR mm mm → va_P D vwCl (cw ad cI cR mm) H → va_S (fun q : Nat => s.heap.size ≤ q) s.heap H locs → lv_has ls 8 (lwl b ad n) → W p l e room_1 s m #[Value.ref b] below meth c H locs 364 5491 Q (F0 m 996 ls [])) : W p l e room_1 s m #[Value.ref b] below meth c H locs 364 5491 Q (F0 m 303 ls []) := by
  obtain ⟨hx, hb, hml, hown, hts, hX, hbl, hi, hA, hK, hN, hL⟩ := C
  have hbA : ¬ s.heap.size ≤ b := Nat.not_le.mpr hbl
  have hv1 : vp_in (nI n + 1) L := by rw [show nI n + 1 = nI (n + 1) from nI_1 n]; exact vp_in_nI (by omega) (by omega)
  have hv2 : vp_in (nI n + 2) L := by rw [show nI n + 2 = nI (n + 2) from nI_add n 2]; exact vp_in_nI (by omega) (by omega)
  have hv3 : vp_in (nI n + 3) L := by rw [show nI n + 3 = nI (n + 3) from nI_add n 3]; exact vp_in_nI (by omega) (by omega)
  obtain ⟨r, m1, m2, e1, e2, g2⟩ := two (ok_advance FU hFU (xs (nI n + 1).toNatClampNeg)) g
  refine lv_aload_n hx hb dL_law_303 rfl (lv_at hl 1 rfl) ?_
  refine lv_aload_n hx hb dL_law_304 rfl (lv_at hl 0 rfl) ?_
  refine lv_iload_n hx hb dL_law_305 rfl (lv_at hl 3 rfl) ?_
  refine lv_iconst (v := 1) hx hb dL_law_306 (by decide) ?_
  refine lv_iadd hx hb dL_law_307 ?_
  refine va_sld hx hb hX hbl hbA hS (hv1) dL_law_308 ?_
  refine w_ci (va_runV (As := [.int (xs (nI n + 1).toNatClampNeg)]) (rest := []) ⟨hx, hb, hml, hown, hts⟩ (c_X6_advance l D ad cI cR hi FU (xs (nI n + 1).toNatClampNeg) mm r m1 e1) (cwV 1 hts gL_law_X6_advance rfl rfl rfl (by decide +kernel) ⟨Nat.le_of_ble_eq_true rfl, Nat.le_of_ble_eq_true rfl⟩) (w_preV (ci := 6) hK hP hN (S_ac ad cI cR).1 (S_ac ad cI cR).2 rfl) rfl rfl hl.1 rfl (lv_room (Nat.le_of_ble_eq_true rfl)) dL_law_309 ⟨Nat.le_of_ble_eq_true rfl, Nat.le_of_ble_eq_true rfl⟩) hA hS (fun H locs hP hS => ?_)
  refine lv_aload_n hx hb dL_law_312 rfl (lv_at hl 2 rfl) ?_
  refine lv_aload_n hx hb dL_law_313 rfl (lv_at hl 0 rfl) ?_
  refine lv_iload_n hx hb dL_law_314 rfl (lv_at hl 3 rfl) ?_
  refine lv_iconst (v := 1) hx hb dL_law_315 (by decide) ?_
  refine lv_iadd hx hb dL_law_316 ?_
  refine va_sld hx hb hX hbl hbA hS (hv1) dL_law_317 ?_
  refine w_ci (va_runV (As := [.int (xs (nI n + 1).toNatClampNeg)]) (rest := [.int r]) ⟨hx, hb, hml, hown, hts⟩ (c_X7_advance l D ad cI cR hi FU (xs (nI n + 1).toNatClampNeg) m1 r m2 e2) (cwV 1 hts gL_law_X7_advance rfl rfl rfl (by decide +kernel) ⟨Nat.le_of_ble_eq_true rfl, Nat.le_of_ble_eq_true rfl⟩) (w_preV (ci := 7) hK hP hN (S_mod ad cI cR).1 (S_mod ad cI cR).2 rfl) rfl rfl hl.1 rfl (lv_room (Nat.le_of_ble_eq_true rfl)) dL_law_318 ⟨Nat.le_of_ble_eq_true rfl, Nat.le_of_ble_eq_true rfl⟩) hA hS (fun H locs hP hS => ?_)
  refine lv_icmp_eq (tgt := 996) hx hb dL_law_321 (by decide) (fun _ => K _ _ ls m2 g2 hP hS hl) (fun c9 => absurd rfl c9)
set_option maxHeartbeats 4000000 in
set_option maxRecDepth 100000 in
theorem lc_4 {p : Program} {e : Env} {s : State} {m : MethodId} {below : List Frame} {meth : Method} {c : Code} {l : Launch} {b L : Nat} {xs : Nat → Int32} {D : va_G} {ad : Nat → Nat} {cI cR : ClassId} {Q : State → Prop} (C : LC p s m c b L xs D ad cI cR) {n : Nat} (hn : n + 4 ≤ L) {H : Heap} {locs : List Loc} {ls : Array Slot} {mm : Mem} (g : GR mm mm) (hP : va_P D vwCl (cw ad cI cR mm) H) (hS : va_S (fun q : Nat => s.heap.size ≤ q) s.heap H locs) (hl : lv_has ls 8 (lwl b ad n)) (K : ∀ (H : Heap) (locs : List Loc) (ls : Array Slot) (mm : Mem), GR mm mm → va_P D vwCl (cw ad cI cR mm) H → va_S (fun q : Nat => s.heap.size ≤ q) s.heap H locs → lv_has ls 8 (lwl b ad n) → W p l e room_1 s m #[Value.ref b] below meth c H locs 364 5491 Q (F0 m 996 ls [])) : W p l e room_1 s m #[Value.ref b] below meth c H locs 364 5491 Q (F0 m 326 ls []) := by
  obtain ⟨hx, hb, hml, hown, hts, hX, hbl, hi, hA, hK, hN, hL⟩ := C
  have hbA : ¬ s.heap.size ≤ b := Nat.not_le.mpr hbl
  have hv1 : vp_in (nI n + 1) L := by rw [show nI n + 1 = nI (n + 1) from nI_1 n]; exact vp_in_nI (by omega) (by omega)
  have hv2 : vp_in (nI n + 2) L := by rw [show nI n + 2 = nI (n + 2) from nI_add n 2]; exact vp_in_nI (by omega) (by omega)
  have hv3 : vp_in (nI n + 3) L := by rw [show nI n + 3 = nI (n + 3) from nI_add n 3]; exact vp_in_nI (by omega) (by omega)
  obtain ⟨r, m1, m2, e1, e2, g2⟩ := two (ok_append FU (xs (nI n + 1).toNatClampNeg)) g
  refine lv_aload_n hx hb dL_law_326 rfl (lv_at hl 1 rfl) ?_
  refine lv_aload_n hx hb dL_law_327 rfl (lv_at hl 0 rfl) ?_
  refine lv_iload_n hx hb dL_law_328 rfl (lv_at hl 3 rfl) ?_
  refine lv_iconst (v := 1) hx hb dL_law_329 (by decide) ?_
  refine lv_iadd hx hb dL_law_330 ?_
  refine va_sld hx hb hX hbl hbA hS (hv1) dL_law_331 ?_
  refine w_ci (va_runV (As := [.int (xs (nI n + 1).toNatClampNeg)]) (rest := []) ⟨hx, hb, hml, hown, hts⟩ (c_X6_append l D ad cI cR hi FU (xs (nI n + 1).toNatClampNeg) mm r m1 e1) (cwV 1 hts gL_law_X6_append rfl rfl rfl (by decide +kernel) ⟨Nat.le_of_ble_eq_true rfl, Nat.le_of_ble_eq_true rfl⟩) (w_preV (ci := 6) hK hP hN (S_ac ad cI cR).1 (S_ac ad cI cR).2 rfl) rfl rfl hl.1 rfl (lv_room (Nat.le_of_ble_eq_true rfl)) dL_law_332 ⟨Nat.le_of_ble_eq_true rfl, Nat.le_of_ble_eq_true rfl⟩) hA hS (fun H locs hP hS => ?_)
  refine lv_aload_n hx hb dL_law_335 rfl (lv_at hl 2 rfl) ?_
  refine lv_aload_n hx hb dL_law_336 rfl (lv_at hl 0 rfl) ?_
  refine lv_iload_n hx hb dL_law_337 rfl (lv_at hl 3 rfl) ?_
  refine lv_iconst (v := 1) hx hb dL_law_338 (by decide) ?_
  refine lv_iadd hx hb dL_law_339 ?_
  refine va_sld hx hb hX hbl hbA hS (hv1) dL_law_340 ?_
  refine w_ci (va_runV (As := [.int (xs (nI n + 1).toNatClampNeg)]) (rest := [.int r]) ⟨hx, hb, hml, hown, hts⟩ (c_X7_append l D ad cI cR hi FU (xs (nI n + 1).toNatClampNeg) m1 r m2 e2) (cwV 1 hts gL_law_X7_append rfl rfl rfl (by decide +kernel) ⟨Nat.le_of_ble_eq_true rfl, Nat.le_of_ble_eq_true rfl⟩) (w_preV (ci := 7) hK hP hN (S_mod ad cI cR).1 (S_mod ad cI cR).2 rfl) rfl rfl hl.1 rfl (lv_room (Nat.le_of_ble_eq_true rfl)) dL_law_341 ⟨Nat.le_of_ble_eq_true rfl, Nat.le_of_ble_eq_true rfl⟩) hA hS (fun H locs hP hS => ?_)
  refine lv_icmp_eq (tgt := 996) hx hb dL_law_344 (by decide) (fun _ => K _ _ ls m2 g2 hP hS hl) (fun c9 => absurd rfl c9)
set_option maxHeartbeats 4000000 in
set_option maxRecDepth 100000 in
theorem lc_5 {p : Program} {e : Env} {s : State} {m : MethodId} {below : List Frame} {meth : Method} {c : Code} {l : Launch} {b L : Nat} {xs : Nat → Int32} {D : va_G} {ad : Nat → Nat} {cI cR : ClassId} {Q : State → Prop} (C : LC p s m c b L xs D ad cI cR) {n : Nat} (hn : n + 4 ≤ L) {H : Heap} {locs : List Loc} {ls : Array Slot} {mm : Mem} (g : GR mm mm) (hP : va_P D vwCl (cw ad cI cR mm) H) (hS : va_S (fun q : Nat => s.heap.size ≤ q) s.heap H locs) (hl : lv_has ls 8 (lwl b ad n)) (K : ∀ (H : Heap) (locs : List Loc) (ls : Array Slot) (mm : Mem), GR mm mm → va_P D vwCl (cw ad cI cR mm) H → va_S (fun q : Nat => s.heap.size ≤ q) s.heap H locs → lv_has ls 8 (lwl b ad n) → W p l e room_1 s m #[Value.ref b] below meth c H locs 364 5491 Q (F0 m 996 ls [])) : W p l e room_1 s m #[Value.ref b] below meth c H locs 364 5491 Q (F0 m 349 ls []) := by
  obtain ⟨hx, hb, hml, hown, hts, hX, hbl, hi, hA, hK, hN, hL⟩ := C
  have hbA : ¬ s.heap.size ≤ b := Nat.not_le.mpr hbl
  have hv1 : vp_in (nI n + 1) L := by rw [show nI n + 1 = nI (n + 1) from nI_1 n]; exact vp_in_nI (by omega) (by omega)
  have hv2 : vp_in (nI n + 2) L := by rw [show nI n + 2 = nI (n + 2) from nI_add n 2]; exact vp_in_nI (by omega) (by omega)
  have hv3 : vp_in (nI n + 3) L := by rw [show nI n + 3 = nI (n + 3) from nI_add n 3]; exact vp_in_nI (by omega) (by omega)
  obtain ⟨r, m1, m2, e1, e2, g2⟩ := two (ok_clear FU) g
  refine lv_aload_n hx hb dL_law_349 rfl (lv_at hl 1 rfl) ?_
  refine w_ci (va_runV (As := []) (rest := []) ⟨hx, hb, hml, hown, hts⟩ (c_X6_clearText l D ad cI cR hi FU  mm r m1 e1) (cwV 0 hts gL_law_X6_clearText rfl rfl rfl (by decide +kernel) ⟨Nat.le_of_ble_eq_true rfl, Nat.le_of_ble_eq_true rfl⟩) (w_preV (ci := 6) hK hP hN (S_ac ad cI cR).1 (S_ac ad cI cR).2 rfl) rfl rfl hl.1 rfl (lv_room (Nat.le_of_ble_eq_true rfl)) dL_law_350 ⟨Nat.le_of_ble_eq_true rfl, Nat.le_of_ble_eq_true rfl⟩) hA hS (fun H locs hP hS => ?_)
  refine lv_aload_n hx hb dL_law_353 rfl (lv_at hl 2 rfl) ?_
  refine w_ci (va_runV (As := []) (rest := [.int r]) ⟨hx, hb, hml, hown, hts⟩ (c_X7_clearText l D ad cI cR hi FU  m1 r m2 e2) (cwV 0 hts gL_law_X7_clearText rfl rfl rfl (by decide +kernel) ⟨Nat.le_of_ble_eq_true rfl, Nat.le_of_ble_eq_true rfl⟩) (w_preV (ci := 7) hK hP hN (S_mod ad cI cR).1 (S_mod ad cI cR).2 rfl) rfl rfl hl.1 rfl (lv_room (Nat.le_of_ble_eq_true rfl)) dL_law_354 ⟨Nat.le_of_ble_eq_true rfl, Nat.le_of_ble_eq_true rfl⟩) hA hS (fun H locs hP hS => ?_)
  refine lv_icmp_eq (tgt := 996) hx hb dL_law_357 (by decide) (fun _ => K _ _ ls m2 g2 hP hS hl) (fun c9 => absurd rfl c9)
set_option maxHeartbeats 4000000 in
set_option maxRecDepth 100000 in
theorem lc_6 {p : Program} {e : Env} {s : State} {m : MethodId} {below : List Frame} {meth : Method} {c : Code} {l : Launch} {b L : Nat} {xs : Nat → Int32} {D : va_G} {ad : Nat → Nat} {cI cR : ClassId} {Q : State → Prop} (C : LC p s m c b L xs D ad cI cR) {n : Nat} (hn : n + 4 ≤ L) {H : Heap} {locs : List Loc} {ls : Array Slot} {mm : Mem} (g : GR mm mm) (hP : va_P D vwCl (cw ad cI cR mm) H) (hS : va_S (fun q : Nat => s.heap.size ≤ q) s.heap H locs) (hl : lv_has ls 8 (lwl b ad n)) (K : ∀ (H : Heap) (locs : List Loc) (ls : Array Slot) (mm : Mem), GR mm mm → va_P D vwCl (cw ad cI cR mm) H → va_S (fun q : Nat => s.heap.size ≤ q) s.heap H locs → lv_has ls 8 (lwl b ad n) → W p l e room_1 s m #[Value.ref b] below meth c H locs 364 5491 Q (F0 m 996 ls [])) : W p l e room_1 s m #[Value.ref b] below meth c H locs 364 5491 Q (F0 m 362 ls []) := by
  obtain ⟨hx, hb, hml, hown, hts, hX, hbl, hi, hA, hK, hN, hL⟩ := C
  have hbA : ¬ s.heap.size ≤ b := Nat.not_le.mpr hbl
  have hv1 : vp_in (nI n + 1) L := by rw [show nI n + 1 = nI (n + 1) from nI_1 n]; exact vp_in_nI (by omega) (by omega)
  have hv2 : vp_in (nI n + 2) L := by rw [show nI n + 2 = nI (n + 2) from nI_add n 2]; exact vp_in_nI (by omega) (by omega)
  have hv3 : vp_in (nI n + 3) L := by rw [show nI n + 3 = nI (n + 3) from nI_add n 3]; exact vp_in_nI (by omega) (by omega)
  obtain ⟨r, m1, m2, e1, e2, g2⟩ := two (ok_fault FU hFU) g
  refine lv_aload_n hx hb dL_law_362 rfl (lv_at hl 1 rfl) ?_
  refine w_ci (va_runV (As := []) (rest := []) ⟨hx, hb, hml, hown, hts⟩ (c_X6_fault l D ad cI cR hi FU  mm r m1 e1) (cwV 0 hts gL_law_X6_fault rfl rfl rfl (by decide +kernel) ⟨Nat.le_of_ble_eq_true rfl, Nat.le_of_ble_eq_true rfl⟩) (w_preV (ci := 6) hK hP hN (S_ac ad cI cR).1 (S_ac ad cI cR).2 rfl) rfl rfl hl.1 rfl (lv_room (Nat.le_of_ble_eq_true rfl)) dL_law_363 ⟨Nat.le_of_ble_eq_true rfl, Nat.le_of_ble_eq_true rfl⟩) hA hS (fun H locs hP hS => ?_)
  refine lv_aload_n hx hb dL_law_366 rfl (lv_at hl 2 rfl) ?_
  refine w_ci (va_runV (As := []) (rest := [.int r]) ⟨hx, hb, hml, hown, hts⟩ (c_X7_fault l D ad cI cR hi FU  m1 r m2 e2) (cwV 0 hts gL_law_X7_fault rfl rfl rfl (by decide +kernel) ⟨Nat.le_of_ble_eq_true rfl, Nat.le_of_ble_eq_true rfl⟩) (w_preV (ci := 7) hK hP hN (S_mod ad cI cR).1 (S_mod ad cI cR).2 rfl) rfl rfl hl.1 rfl (lv_room (Nat.le_of_ble_eq_true rfl)) dL_law_367 ⟨Nat.le_of_ble_eq_true rfl, Nat.le_of_ble_eq_true rfl⟩) hA hS (fun H locs hP hS => ?_)
  refine lv_icmp_eq (tgt := 996) hx hb dL_law_370 (by decide) (fun _ => K _ _ ls m2 g2 hP hS hl) (fun c9 => absurd rfl c9)
set_option maxHeartbeats 4000000 in
set_option maxRecDepth 100000 in
theorem lc_7 {p : Program} {e : Env} {s : State} {m : MethodId} {below : List Frame} {meth : Method} {c : Code} {l : Launch} {b L : Nat} {xs : Nat → Int32} {D : va_G} {ad : Nat → Nat} {cI cR : ClassId} {Q : State → Prop} (C : LC p s m c b L xs D ad cI cR) {n : Nat} (hn : n + 4 ≤ L) {H : Heap} {locs : List Loc} {ls : Array Slot} {mm : Mem} (g : GR mm mm) (hP : va_P D vwCl (cw ad cI cR mm) H) (hS : va_S (fun q : Nat => s.heap.size ≤ q) s.heap H locs) (hl : lv_has ls 8 (lwl b ad n)) (K : ∀ (H : Heap) (locs : List Loc) (ls : Array Slot) (mm : Mem), GR mm mm → va_P D vwCl (cw ad cI cR mm) H → va_S (fun q : Nat => s.heap.size ≤ q) s.heap H locs → lv_has ls 8 (lwl b ad n) → W p l e room_1 s m #[Value.ref b] below meth c H locs 364 5491 Q (F0 m 996 ls [])) : W p l e room_1 s m #[Value.ref b] below meth c H locs 364 5491 Q (F0 m 375 ls []) := by
  obtain ⟨hx, hb, hml, hown, hts, hX, hbl, hi, hA, hK, hN, hL⟩ := C
  have hbA : ¬ s.heap.size ≤ b := Nat.not_le.mpr hbl
  have hv1 : vp_in (nI n + 1) L := by rw [show nI n + 1 = nI (n + 1) from nI_1 n]; exact vp_in_nI (by omega) (by omega)
  have hv2 : vp_in (nI n + 2) L := by rw [show nI n + 2 = nI (n + 2) from nI_add n 2]; exact vp_in_nI (by omega) (by omega)
  have hv3 : vp_in (nI n + 3) L := by rw [show nI n + 3 = nI (n + 3) from nI_add n 3]; exact vp_in_nI (by omega) (by omega)
  obtain ⟨r, m1, m2, e1, e2, g2⟩ := two (ok_run FU hFU) g
  refine lv_aload_n hx hb dL_law_375 rfl (lv_at hl 1 rfl) ?_
  refine w_ci (va_runV (As := []) (rest := []) ⟨hx, hb, hml, hown, hts⟩ (c_X6_run l D ad cI cR hi FU  mm r m1 e1) (cwV 0 hts gL_law_X6_run rfl rfl rfl (by decide +kernel) ⟨Nat.le_of_ble_eq_true rfl, Nat.le_of_ble_eq_true rfl⟩) (w_preV (ci := 6) hK hP hN (S_ac ad cI cR).1 (S_ac ad cI cR).2 rfl) rfl rfl hl.1 rfl (lv_room (Nat.le_of_ble_eq_true rfl)) dL_law_376 ⟨Nat.le_of_ble_eq_true rfl, Nat.le_of_ble_eq_true rfl⟩) hA hS (fun H locs hP hS => ?_)
  refine lv_aload_n hx hb dL_law_379 rfl (lv_at hl 2 rfl) ?_
  refine w_ci (va_runV (As := []) (rest := [.int r]) ⟨hx, hb, hml, hown, hts⟩ (c_X7_run l D ad cI cR hi FU  m1 r m2 e2) (cwV 0 hts gL_law_X7_run rfl rfl rfl (by decide +kernel) ⟨Nat.le_of_ble_eq_true rfl, Nat.le_of_ble_eq_true rfl⟩) (w_preV (ci := 7) hK hP hN (S_mod ad cI cR).1 (S_mod ad cI cR).2 rfl) rfl rfl hl.1 rfl (lv_room (Nat.le_of_ble_eq_true rfl)) dL_law_380 ⟨Nat.le_of_ble_eq_true rfl, Nat.le_of_ble_eq_true rfl⟩) hA hS (fun H locs hP hS => ?_)
  refine lv_icmp_eq (tgt := 996) hx hb dL_law_383 (by decide) (fun _ => K _ _ ls m2 g2 hP hS hl) (fun c9 => absurd rfl c9)
set_option maxHeartbeats 4000000 in
set_option maxRecDepth 100000 in
theorem lc_8 {p : Program} {e : Env} {s : State} {m : MethodId} {below : List Frame} {meth : Method} {c : Code} {l : Launch} {b L : Nat} {xs : Nat → Int32} {D : va_G} {ad : Nat → Nat} {cI cR : ClassId} {Q : State → Prop} (C : LC p s m c b L xs D ad cI cR) {n : Nat} (hn : n + 4 ≤ L) {H : Heap} {locs : List Loc} {ls : Array Slot} {mm : Mem} (g : GR mm mm) (hP : va_P D vwCl (cw ad cI cR mm) H) (hS : va_S (fun q : Nat => s.heap.size ≤ q) s.heap H locs) (hl : lv_has ls 8 (lwl b ad n)) (K : ∀ (H : Heap) (locs : List Loc) (ls : Array Slot) (mm : Mem), GR mm mm → va_P D vwCl (cw ad cI cR mm) H → va_S (fun q : Nat => s.heap.size ≤ q) s.heap H locs → lv_has ls 8 (lwl b ad n) → W p l e room_1 s m #[Value.ref b] below meth c H locs 364 5491 Q (F0 m 996 ls [])) : W p l e room_1 s m #[Value.ref b] below meth c H locs 364 5491 Q (F0 m 388 ls []) := by
  obtain ⟨hx, hb, hml, hown, hts, hX, hbl, hi, hA, hK, hN, hL⟩ := C
  have hbA : ¬ s.heap.size ≤ b := Nat.not_le.mpr hbl
  have hv1 : vp_in (nI n + 1) L := by rw [show nI n + 1 = nI (n + 1) from nI_1 n]; exact vp_in_nI (by omega) (by omega)
  have hv2 : vp_in (nI n + 2) L := by rw [show nI n + 2 = nI (n + 2) from nI_add n 2]; exact vp_in_nI (by omega) (by omega)
  have hv3 : vp_in (nI n + 3) L := by rw [show nI n + 3 = nI (n + 3) from nI_add n 3]; exact vp_in_nI (by omega) (by omega)
  obtain ⟨r, m1, m2, e1, e2, g2⟩ := two (ok_undo FU hFU) g
  refine lv_aload_n hx hb dL_law_388 rfl (lv_at hl 1 rfl) ?_
  refine w_ci (va_runV (As := []) (rest := []) ⟨hx, hb, hml, hown, hts⟩ (c_X6_undo l D ad cI cR hi FU  mm r m1 e1) (cwV 0 hts gL_law_X6_undo rfl rfl rfl (by decide +kernel) ⟨Nat.le_of_ble_eq_true rfl, Nat.le_of_ble_eq_true rfl⟩) (w_preV (ci := 6) hK hP hN (S_ac ad cI cR).1 (S_ac ad cI cR).2 rfl) rfl rfl hl.1 rfl (lv_room (Nat.le_of_ble_eq_true rfl)) dL_law_389 ⟨Nat.le_of_ble_eq_true rfl, Nat.le_of_ble_eq_true rfl⟩) hA hS (fun H locs hP hS => ?_)
  refine lv_aload_n hx hb dL_law_392 rfl (lv_at hl 2 rfl) ?_
  refine w_ci (va_runV (As := []) (rest := [.int r]) ⟨hx, hb, hml, hown, hts⟩ (c_X7_undo l D ad cI cR hi FU  m1 r m2 e2) (cwV 0 hts gL_law_X7_undo rfl rfl rfl (by decide +kernel) ⟨Nat.le_of_ble_eq_true rfl, Nat.le_of_ble_eq_true rfl⟩) (w_preV (ci := 7) hK hP hN (S_mod ad cI cR).1 (S_mod ad cI cR).2 rfl) rfl rfl hl.1 rfl (lv_room (Nat.le_of_ble_eq_true rfl)) dL_law_393 ⟨Nat.le_of_ble_eq_true rfl, Nat.le_of_ble_eq_true rfl⟩) hA hS (fun H locs hP hS => ?_)
  refine lv_icmp_eq (tgt := 996) hx hb dL_law_396 (by decide) (fun _ => K _ _ ls m2 g2 hP hS hl) (fun c9 => absurd rfl c9)
set_option maxHeartbeats 4000000 in
set_option maxRecDepth 100000 in
theorem lc_9 {p : Program} {e : Env} {s : State} {m : MethodId} {below : List Frame} {meth : Method} {c : Code} {l : Launch} {b L : Nat} {xs : Nat → Int32} {D : va_G} {ad : Nat → Nat} {cI cR : ClassId} {Q : State → Prop} (C : LC p s m c b L xs D ad cI cR) {n : Nat} (hn : n + 4 ≤ L) {H : Heap} {locs : List Loc} {ls : Array Slot} {mm : Mem} (g : GR mm mm) (hP : va_P D vwCl (cw ad cI cR mm) H) (hS : va_S (fun q : Nat => s.heap.size ≤ q) s.heap H locs) (hl : lv_has ls 8 (lwl b ad n)) (K : ∀ (H : Heap) (locs : List Loc) (ls : Array Slot) (mm : Mem), GR mm mm → va_P D vwCl (cw ad cI cR mm) H → va_S (fun q : Nat => s.heap.size ≤ q) s.heap H locs → lv_has ls 8 (lwl b ad n) → W p l e room_1 s m #[Value.ref b] below meth c H locs 364 5491 Q (F0 m 996 ls [])) : W p l e room_1 s m #[Value.ref b] below meth c H locs 364 5491 Q (F0 m 401 ls []) := by
  obtain ⟨hx, hb, hml, hown, hts, hX, hbl, hi, hA, hK, hN, hL⟩ := C
  have hbA : ¬ s.heap.size ≤ b := Nat.not_le.mpr hbl
  have hv1 : vp_in (nI n + 1) L := by rw [show nI n + 1 = nI (n + 1) from nI_1 n]; exact vp_in_nI (by omega) (by omega)
  have hv2 : vp_in (nI n + 2) L := by rw [show nI n + 2 = nI (n + 2) from nI_add n 2]; exact vp_in_nI (by omega) (by omega)
  have hv3 : vp_in (nI n + 3) L := by rw [show nI n + 3 = nI (n + 3) from nI_add n 3]; exact vp_in_nI (by omega) (by omega)
  obtain ⟨r, m1, m2, e1, e2, g2⟩ := two (ok_setting FU (xs (nI n + 1).toNatClampNeg)) g
  refine lv_aload_n hx hb dL_law_401 rfl (lv_at hl 1 rfl) ?_
  refine lv_aload_n hx hb dL_law_402 rfl (lv_at hl 0 rfl) ?_
  refine lv_iload_n hx hb dL_law_403 rfl (lv_at hl 3 rfl) ?_
  refine lv_iconst (v := 1) hx hb dL_law_404 (by decide) ?_
  refine lv_iadd hx hb dL_law_405 ?_
  refine va_sld hx hb hX hbl hbA hS (hv1) dL_law_406 ?_
  refine w_ci (va_runV (As := [.int (xs (nI n + 1).toNatClampNeg)]) (rest := []) ⟨hx, hb, hml, hown, hts⟩ (c_X6_setting l D ad cI cR hi FU (xs (nI n + 1).toNatClampNeg) mm r m1 e1) (cwV 1 hts gL_law_X6_setting rfl rfl rfl (by decide +kernel) ⟨Nat.le_of_ble_eq_true rfl, Nat.le_of_ble_eq_true rfl⟩) (w_preV (ci := 6) hK hP hN (S_ac ad cI cR).1 (S_ac ad cI cR).2 rfl) rfl rfl hl.1 rfl (lv_room (Nat.le_of_ble_eq_true rfl)) dL_law_407 ⟨Nat.le_of_ble_eq_true rfl, Nat.le_of_ble_eq_true rfl⟩) hA hS (fun H locs hP hS => ?_)
  refine lv_aload_n hx hb dL_law_410 rfl (lv_at hl 2 rfl) ?_
  refine lv_aload_n hx hb dL_law_411 rfl (lv_at hl 0 rfl) ?_
  refine lv_iload_n hx hb dL_law_412 rfl (lv_at hl 3 rfl) ?_
  refine lv_iconst (v := 1) hx hb dL_law_413 (by decide) ?_
  refine lv_iadd hx hb dL_law_414 ?_
  refine va_sld hx hb hX hbl hbA hS (hv1) dL_law_415 ?_
  refine w_ci (va_runV (As := [.int (xs (nI n + 1).toNatClampNeg)]) (rest := [.int r]) ⟨hx, hb, hml, hown, hts⟩ (c_X7_setting l D ad cI cR hi FU (xs (nI n + 1).toNatClampNeg) m1 r m2 e2) (cwV 1 hts gL_law_X7_setting rfl rfl rfl (by decide +kernel) ⟨Nat.le_of_ble_eq_true rfl, Nat.le_of_ble_eq_true rfl⟩) (w_preV (ci := 7) hK hP hN (S_mod ad cI cR).1 (S_mod ad cI cR).2 rfl) rfl rfl hl.1 rfl (lv_room (Nat.le_of_ble_eq_true rfl)) dL_law_416 ⟨Nat.le_of_ble_eq_true rfl, Nat.le_of_ble_eq_true rfl⟩) hA hS (fun H locs hP hS => ?_)
  refine lv_icmp_eq (tgt := 996) hx hb dL_law_419 (by decide) (fun _ => K _ _ ls m2 g2 hP hS hl) (fun c9 => absurd rfl c9)
set_option maxHeartbeats 4000000 in
set_option maxRecDepth 100000 in
theorem lc_10 {p : Program} {e : Env} {s : State} {m : MethodId} {below : List Frame} {meth : Method} {c : Code} {l : Launch} {b L : Nat} {xs : Nat → Int32} {D : va_G} {ad : Nat → Nat} {cI cR : ClassId} {Q : State → Prop} (C : LC p s m c b L xs D ad cI cR) {n : Nat} (hn : n + 4 ≤ L) {H : Heap} {locs : List Loc} {ls : Array Slot} {mm : Mem} (g : GR mm mm) (hP : va_P D vwCl (cw ad cI cR mm) H) (hS : va_S (fun q : Nat => s.heap.size ≤ q) s.heap H locs) (hl : lv_has ls 8 (lwl b ad n)) (K : ∀ (H : Heap) (locs : List Loc) (ls : Array Slot) (mm : Mem), GR mm mm → va_P D vwCl (cw ad cI cR mm) H → va_S (fun q : Nat => s.heap.size ≤ q) s.heap H locs → lv_has ls 8 (lwl b ad n) → W p l e room_1 s m #[Value.ref b] below meth c H locs 364 5491 Q (F0 m 996 ls [])) : W p l e room_1 s m #[Value.ref b] below meth c H locs 364 5491 Q (F0 m 424 ls []) := by
  obtain ⟨hx, hb, hml, hown, hts, hX, hbl, hi, hA, hK, hN, hL⟩ := C
  have hbA : ¬ s.heap.size ≤ b := Nat.not_le.mpr hbl
  have hv1 : vp_in (nI n + 1) L := by rw [show nI n + 1 = nI (n + 1) from nI_1 n]; exact vp_in_nI (by omega) (by omega)
  have hv2 : vp_in (nI n + 2) L := by rw [show nI n + 2 = nI (n + 2) from nI_add n 2]; exact vp_in_nI (by omega) (by omega)
  have hv3 : vp_in (nI n + 3) L := by rw [show nI n + 3 = nI (n + 3) from nI_add n 3]; exact vp_in_nI (by omega) (by omega)
  obtain ⟨r, m1, m2, e1, e2, g2⟩ := two (ok_classSetting FU (xs (nI n + 1).toNatClampNeg) (xs (nI n + 2).toNatClampNeg)) g
  refine lv_aload_n hx hb dL_law_424 rfl (lv_at hl 1 rfl) ?_
  refine lv_aload_n hx hb dL_law_425 rfl (lv_at hl 0 rfl) ?_
  refine lv_iload_n hx hb dL_law_426 rfl (lv_at hl 3 rfl) ?_
  refine lv_iconst (v := 1) hx hb dL_law_427 (by decide) ?_
  refine lv_iadd hx hb dL_law_428 ?_
  refine va_sld hx hb hX hbl hbA hS (hv1) dL_law_429 ?_
  refine lv_aload_n hx hb dL_law_430 rfl (lv_at hl 0 rfl) ?_
  refine lv_iload_n hx hb dL_law_431 rfl (lv_at hl 3 rfl) ?_
  refine lv_iconst (v := 2) hx hb dL_law_432 (by decide) ?_
  refine lv_iadd hx hb dL_law_433 ?_
  refine va_sld hx hb hX hbl hbA hS (hv2) dL_law_434 ?_
  refine w_ci (va_runV (As := [.int (xs (nI n + 1).toNatClampNeg), .int (xs (nI n + 2).toNatClampNeg)]) (rest := []) ⟨hx, hb, hml, hown, hts⟩ (c_X6_classSetting l D ad cI cR hi FU (xs (nI n + 1).toNatClampNeg) (xs (nI n + 2).toNatClampNeg) mm r m1 e1) (cwV 2 hts gL_law_X6_classSetting rfl rfl rfl (by decide +kernel) ⟨Nat.le_of_ble_eq_true rfl, Nat.le_of_ble_eq_true rfl⟩) (w_preV (ci := 6) hK hP hN (S_ac ad cI cR).1 (S_ac ad cI cR).2 rfl) rfl rfl hl.1 rfl (lv_room (Nat.le_of_ble_eq_true rfl)) dL_law_435 ⟨Nat.le_of_ble_eq_true rfl, Nat.le_of_ble_eq_true rfl⟩) hA hS (fun H locs hP hS => ?_)
  refine lv_aload_n hx hb dL_law_438 rfl (lv_at hl 2 rfl) ?_
  refine lv_aload_n hx hb dL_law_439 rfl (lv_at hl 0 rfl) ?_
  refine lv_iload_n hx hb dL_law_440 rfl (lv_at hl 3 rfl) ?_
  refine lv_iconst (v := 1) hx hb dL_law_441 (by decide) ?_
  refine lv_iadd hx hb dL_law_442 ?_
  refine va_sld hx hb hX hbl hbA hS (hv1) dL_law_443 ?_
  refine lv_aload_n hx hb dL_law_444 rfl (lv_at hl 0 rfl) ?_
  refine lv_iload_n hx hb dL_law_445 rfl (lv_at hl 3 rfl) ?_
  refine lv_iconst (v := 2) hx hb dL_law_446 (by decide) ?_
  refine lv_iadd hx hb dL_law_447 ?_
  refine va_sld hx hb hX hbl hbA hS (hv2) dL_law_448 ?_
  refine w_ci (va_runV (As := [.int (xs (nI n + 1).toNatClampNeg), .int (xs (nI n + 2).toNatClampNeg)]) (rest := [.int r]) ⟨hx, hb, hml, hown, hts⟩ (c_X7_classSetting l D ad cI cR hi FU (xs (nI n + 1).toNatClampNeg) (xs (nI n + 2).toNatClampNeg) m1 r m2 e2) (cwV 2 hts gL_law_X7_classSetting rfl rfl rfl (by decide +kernel) ⟨Nat.le_of_ble_eq_true rfl, Nat.le_of_ble_eq_true rfl⟩) (w_preV (ci := 7) hK hP hN (S_mod ad cI cR).1 (S_mod ad cI cR).2 rfl) rfl rfl hl.1 rfl (lv_room (Nat.le_of_ble_eq_true rfl)) dL_law_449 ⟨Nat.le_of_ble_eq_true rfl, Nat.le_of_ble_eq_true rfl⟩) hA hS (fun H locs hP hS => ?_)
  refine lv_icmp_eq (tgt := 996) hx hb dL_law_452 (by decide) (fun _ => K _ _ ls m2 g2 hP hS hl) (fun c9 => absurd rfl c9)
set_option maxHeartbeats 4000000 in
set_option maxRecDepth 100000 in
theorem lc_11 {p : Program} {e : Env} {s : State} {m : MethodId} {below : List Frame} {meth : Method} {c : Code} {l : Launch} {b L : Nat} {xs : Nat → Int32} {D : va_G} {ad : Nat → Nat} {cI cR : ClassId} {Q : State → Prop} (C : LC p s m c b L xs D ad cI cR) {n : Nat} (hn : n + 4 ≤ L) {H : Heap} {locs : List Loc} {ls : Array Slot} {mm : Mem} (g : GR mm mm) (hP : va_P D vwCl (cw ad cI cR mm) H) (hS : va_S (fun q : Nat => s.heap.size ≤ q) s.heap H locs) (hl : lv_has ls 8 (lwl b ad n)) (K : ∀ (H : Heap) (locs : List Loc) (ls : Array Slot) (mm : Mem), GR mm mm → va_P D vwCl (cw ad cI cR mm) H → va_S (fun q : Nat => s.heap.size ≤ q) s.heap H locs → lv_has ls 8 (lwl b ad n) → W p l e room_1 s m #[Value.ref b] below meth c H locs 364 5491 Q (F0 m 996 ls [])) : W p l e room_1 s m #[Value.ref b] below meth c H locs 364 5491 Q (F0 m 457 ls []) := by
  obtain ⟨hx, hb, hml, hown, hts, hX, hbl, hi, hA, hK, hN, hL⟩ := C
  have hbA : ¬ s.heap.size ≤ b := Nat.not_le.mpr hbl
  have hv1 : vp_in (nI n + 1) L := by rw [show nI n + 1 = nI (n + 1) from nI_1 n]; exact vp_in_nI (by omega) (by omega)
  have hv2 : vp_in (nI n + 2) L := by rw [show nI n + 2 = nI (n + 2) from nI_add n 2]; exact vp_in_nI (by omega) (by omega)
  have hv3 : vp_in (nI n + 3) L := by rw [show nI n + 3 = nI (n + 3) from nI_add n 3]; exact vp_in_nI (by omega) (by omega)
  obtain ⟨r, m1, m2, e1, e2, g2⟩ := two (ok_clock FU) g
  refine lv_aload_n hx hb dL_law_457 rfl (lv_at hl 1 rfl) ?_
  refine w_ci (va_runV (As := []) (rest := []) ⟨hx, hb, hml, hown, hts⟩ (c_X6_clock l D ad cI cR hi FU  mm r m1 e1) (cwV 0 hts gL_law_X6_clock rfl rfl rfl (by decide +kernel) ⟨Nat.le_of_ble_eq_true rfl, Nat.le_of_ble_eq_true rfl⟩) (w_preV (ci := 6) hK hP hN (S_ac ad cI cR).1 (S_ac ad cI cR).2 rfl) rfl rfl hl.1 rfl (lv_room (Nat.le_of_ble_eq_true rfl)) dL_law_458 ⟨Nat.le_of_ble_eq_true rfl, Nat.le_of_ble_eq_true rfl⟩) hA hS (fun H locs hP hS => ?_)
  refine lv_aload_n hx hb dL_law_461 rfl (lv_at hl 2 rfl) ?_
  refine w_ci (va_runV (As := []) (rest := [.int r]) ⟨hx, hb, hml, hown, hts⟩ (c_X7_clock l D ad cI cR hi FU  m1 r m2 e2) (cwV 0 hts gL_law_X7_clock rfl rfl rfl (by decide +kernel) ⟨Nat.le_of_ble_eq_true rfl, Nat.le_of_ble_eq_true rfl⟩) (w_preV (ci := 7) hK hP hN (S_mod ad cI cR).1 (S_mod ad cI cR).2 rfl) rfl rfl hl.1 rfl (lv_room (Nat.le_of_ble_eq_true rfl)) dL_law_462 ⟨Nat.le_of_ble_eq_true rfl, Nat.le_of_ble_eq_true rfl⟩) hA hS (fun H locs hP hS => ?_)
  refine lv_icmp_eq (tgt := 996) hx hb dL_law_465 (by decide) (fun _ => K _ _ ls m2 g2 hP hS hl) (fun c9 => absurd rfl c9)
