/-! ===== the calls, one by one: what if ===== -/
theorem GR_wi {m m' w w' : Mem} (g : GR m w) (f : Fr 60 m m') (n : RN 60 m') (e0 : ∀ i, i < 395 → w' 360 i = w 360 i) (e1 : w' 362 = w 362) (e2 : w' 359 = w 359) (e3 : w' 363 = w 363) : GR m' w' := by
  obtain ⟨⟨M, c, h1, h2, h3⟩, hN, hH, hT⟩ := g
  have hM := h2.1.2.1
  refine ⟨⟨M, c, Rel_ext (Rel_m h1 hM (fun a _ x => f a (by omega))) hM e0, Inv_ext h2 e0, h3⟩, fun b hb r hr => ?_, HR_c hH (fun a x1 x2 => f a (by omega)) (by rw [e2]) e1, TR_c hT (by rw [f _ (by omega)]) (f _ (by omega)) (by rw [e2]) e3⟩
  by_cases e : b = 60
  · subst e; exact n r hr
  · have := isSb_or hb
    rw [f _ (by omega)]
    exact hN b hb r hr
theorem aside_at {w : Mem} {z : Nat → Int32} : mrow (zs w z) 361 (cut (zs w z 360) (zs w z 361) 395) = zs (mrow w 361 (cut z (w 361) 395)) z := by
  funext a
  by_cases h : a = 360
  · subst h; rw [mrow_ne _ _ (by omega), zs_at, zs_at]
  · rw [zs_ne _ _ h]
    by_cases h2 : a = 361
    · subst h2; rw [mrow_at, mrow_at, zs_at, zs_ne _ _ (by omega)]
    · rw [mrow_ne _ _ h2, mrow_ne _ _ h2, zs_ne _ _ h]
/-- the model's copy is put back -/
theorem back_at {fu : Nat} {w : Mem} {z z' : Nat → Int32} (hf : 400 < fu) : ∃ w' , F_X7_putBack fu (zs (mrow w 361 (cut z (w 361) 395)) z') = some w' ∧ (∀ i, i < 395 → w' 360 i = z i) ∧ ∀ a, a ≠ 360 → a ≠ 361 → w' a = w a := by
  refine ⟨_, m_putBack hf, fun i hi => ?_, fun a h1 h2 => ?_⟩
  · rw [mrow_at]
    unfold cut
    rw [if_pos hi, zs_ne _ _ (by omega), mrow_at, if_pos hi]
  · rw [mrow_ne _ _ h1, zs_ne _ _ h1, mrow_ne _ _ h2]
theorem o7 {m : Mem} {b M : Nat} {z : Nat → Int32} (h : Rel b m z M 99) : m b 7 = nI (opn z M) := h.2.2.2.1.1
theorem o8 {m : Mem} {b M : Nat} {z : Nat → Int32} (h : Rel b m z M 99) : m b 8 = nI (rj z M) := h.2.2.2.1.2
theorem opn_le (z : Nat → Int32) (M : Nat) : opn z M ≤ M := fb_ct_le _ M
theorem rj_le (z : Nat → Int32) (M : Nat) : rj z M ≤ M := fb_ct_le _ M
/-- both trials to their ends -/
theorem w_end {fu M : Nat} {a : Int32} (hf : 500 < fu) : ∀ (d n n' x c : Nat) (m w : Mem) (z : Nat → Int32), x + d = 400 → d < n → d + 1 < n' → Rel 60 m z M 99 → Inv z M c (pB c) 99 → c + d + 1 ≤ 2000 → ∃ x' z' m' r, F_X6_ticksOfTrial_L7 fu a n (nI x) m = some (r, m') ∧ Fr 60 m m' ∧ RN 60 m' ∧ F_X7_ticksToEnd_L2 fu n' (nI x) (zs w z) = some (nI x', zs w z') ∧ x' ≤ 401 ∧ r = if x' ≤ 400 then nI x' else -100005 := by
  intro d
  induction d with
  | zero =>
    intro n n' x c m w z hx hn hn' h hi hc
    have hM := hi.1.2.1
    obtain ⟨n, rfl⟩ : ∃ i, n = i + 1 := ⟨n - 1, by omega⟩
    obtain ⟨n', rfl⟩ : ∃ i, n' = i + 1 + 1 := ⟨n' - 2, by omega⟩
    have ol := opn_le z M
    obtain rfl : x = 400 := by omega
    rw [F_X6_ticksOfTrial_L7, if_pos (show (400 : Int32) ≤ nI 400 by decide), F_X7_ticksToEnd_L2, m_isOver hi.1.1 hM (by omega), ob_s]
    unfold F_X6_ticksOfTrial_L38
    rw [o7 h]
    by_cases e : opn z M = 0
    · rw [if_pos e, if_neg (show ¬ (1 : Int32) = 0 by decide), e, if_pos (show nI 0 = 0 from rfl)]
      exact ⟨400, z, m, nI 400, rfl, Fr_rf, h.2.2.2.2, rfl, by omega, (if_pos (by omega)).symm⟩
    · rw [if_neg e, if_pos (show (0 : Int32) = 0 from rfl), if_neg (show ¬ (400 : Int32) < nI 400 by decide), m_tick hi (pB_lt (by omega)) (by omega), ob_s, bd_s, nI_1, if_neg (nI_ne0 (by omega) (by omega))]
      have hi2 := Inv_tickB hi (by omega)
      rw [F_X7_ticksToEnd_L2, m_isOver hi2.1.1 hM (by omega), ob_s]
      have fin : (if (if opn (zTick z M).2 M = 0 then (1 : Int32) else 0) = 0 then (if (400 : Int32) < nI (400 + 1) then (some (nI (400 + 1), zs w (zTick z M).2)) else (ob (F_X7_tick fu (zs w (zTick z M).2)) fun r19 m20 => bd (nI (400 + 1) + 1) fun v21 => F_X7_ticksToEnd_L2 fu n' v21 m20)) else some (nI (400 + 1), zs w (zTick z M).2)) = some (nI 401, zs w (zTick z M).2) := by
        by_cases e2 : opn (zTick z M).2 M = 0
        · rw [if_pos e2, if_neg (show ¬ (1 : Int32) = 0 by decide)]
        · rw [if_neg e2, if_pos (show (0 : Int32) = 0 from rfl), if_pos (show (400 : Int32) < nI (400 + 1) by decide)]
      rw [fin]
      exact ⟨401, _, m, -100005, rfl, Fr_rf, h.2.2.2.2, rfl, by omega, (if_neg (by omega)).symm⟩
  | succ d ih =>
    intro n n' x c m w z hx hn hn' h hi hc
    have hM := hi.1.2.1
    obtain ⟨n, rfl⟩ : ∃ i, n = i + 1 := ⟨n - 1, by omega⟩
    obtain ⟨n', rfl⟩ : ∃ i, n' = i + 1 := ⟨n' - 1, by omega⟩
    have ol := opn_le z M
    rw [F_X6_ticksOfTrial_L7, if_neg (show ¬ (400 : Int32) ≤ nI x from nI_ge (show x < 400 by omega) (by decide)), F_X7_ticksToEnd_L2, m_isOver hi.1.1 hM (by omega), ob_s, o7 h]
    by_cases e : opn z M = 0
    · rw [if_pos e, if_neg (show ¬ (1 : Int32) = 0 by decide), e, if_pos (show nI 0 ≤ 0 by decide)]
      unfold F_X6_ticksOfTrial_L38
      rw [o7 h, e, if_pos (show nI 0 = 0 from rfl)]
      exact ⟨x, z, m, nI x, rfl, Fr_rf, h.2.2.2.2, rfl, by omega, (if_pos (by omega)).symm⟩
    · obtain ⟨m1, e1, h1, f1⟩ := s_tick (fu := fu) h hi (pB_lt (by omega)) (by omega)
      rw [if_neg e, if_pos (show (0 : Int32) = 0 from rfl), if_neg (show ¬ (400 : Int32) < nI x from nI_nlt (a := x) (b := 400) |> fun _ => by
        intro q
        have := (nI_ltI (a := 400) (b := x) (by decide) (by omega)).mp q
        omega), m_tick hi (pB_lt (by omega)) (by omega), ob_s, bd_s, nI_1, if_neg (nI_nle (by omega) (by omega)), e1, ob_s, bd_s]
      obtain ⟨x', z', m', r, k1, k2, k3, k4, k5, k6⟩ := ih n n' (x + 1) (c + 1) m1 w _ (by omega) (by omega) (by omega) h1 (Inv_tickB hi (by omega)) (by omega)
      exact ⟨x', z', m', r, k1, Fr_tr f1 k2, k3, k4, k5, k6⟩
theorem s_begin {fu v M c : Nat} {m w : Mem} {z : Nat → Int32} (g : GR m (zs w z)) (h : Rel 1 m z M 99) (hi : Inv z M c (pB c) 99) (hv : 1 ≤ v) (hv2 : v ≤ 20) (hf : 80 < fu) : ∃ m', F_X6_beginTrial fu (nI v) m = some m' ∧ Rel 60 m' (upd z 0 (nI v)) M 99 ∧ Inv (upd z 0 (nI v)) M c (pB c) 99 ∧ Fr 60 m m' := by
  obtain ⟨m1, e1, h1, f1⟩ := s_copy (fu := fu) (o := 60) (b := 1) h hi (g.2.1 60 rfl) (ap_Sb rfl rfl (by omega)) hf
  unfold F_X6_beginTrial
  rw [e1, ov_s, show (0 : Int32) = nI 0 from rfl, pt_v (by omega) (by decide), ov_s]
  exact ⟨_, rfl, wr_set (nI v) h1 (by omega), Inv_is hi (IS_set hi.2.1 (by omega) ⟨fun _ => ⟨v, hv, hv2, rfl⟩, by omega, by omega, by omega⟩) (fun i x => upd_n _ _ (by omega)), Fr_tr f1 (Fr_put (by omega) (by omega))⟩
theorem w_ticks {fu v M c : Nat} {m w : Mem} {z : Nat → Int32} (g : GR m (zs w z)) (h : Rel 1 m z M 99) (hi : Inv z M c (pB c) 99) (hc : c ≤ 999) (hv : 1 ≤ v) (hv2 : v ≤ 20) (hf : 500 < fu) : ∃ r m' w', F_X6_ticksOfTrial fu (nI v) m = some (r, m') ∧ F_X7_ticksWith fu (nI v) (zs w z) = some (r, w') ∧ GR m' w' ∧ (∀ a, 359 ≤ a → m' a = m a) ∧ ∀ a, a < 359 → w' a = zs w z a := by
  obtain ⟨m1, e1, h1, i1, f1⟩ := s_begin (fu := fu) g h hi hv hv2 (by omega)
  obtain ⟨x', z', m', r, k1, k2, k3, k4, k5, k6⟩ := w_end (fu := fu) (a := nI v) hf 400 fu fu 0 c m1 (mrow w 361 (cut z (w 361) 395)) _ (by omega) (by omega) (by omega) h1 i1 (by omega)
  obtain ⟨w', b1, b2, b3⟩ := back_at (fu := fu) (w := w) (z := z) (z' := z') (by omega)
  unfold F_X6_ticksOfTrial F_X7_ticksWith F_X7_ticksToEnd
  rw [e1, ov_s, show F_X6_ticksOfTrial_L7 fu (nI v) fu 0 m1 = some (r, m') from k1, m_putAside (by omega), ov_s, aside_at, gl_0, bd_s, tl_0, mput_zs, show F_X7_ticksToEnd_L2 fu fu 0 (zs (mrow w 361 (cut z (w 361) 395)) (upd z 0 (nI v))) = some (nI x', zs (mrow w 361 (cut z (w 361) 395)) z') from k4, ob_s, b1, ov_s]
  have gr : GR m' w' := GR_wi g (Fr_tr f1 k2) k3 (fun i hi' => by rw [b2 i hi', zs_at]) (by rw [b3 _ (by omega) (by omega), zs_ne _ _ (by omega)]) (by rw [b3 _ (by omega) (by omega), zs_ne _ _ (by omega)]) (by rw [b3 _ (by omega) (by omega), zs_ne _ _ (by omega)])
  refine ⟨r, m', w', rfl, ?_, gr, fun a ha => (Fr_tr f1 k2) a (by omega), fun a ha => by rw [b3 _ (by omega) (by omega), zs_ne _ _ (by omega)]⟩
  rw [k6]
  by_cases q : x' ≤ 400
  · rw [if_pos q, if_pos (show nI x' ≤ 400 from nI_le q (by decide))]
  · rw [if_neg q, if_neg (show ¬ nI x' ≤ 400 from nI_ge (show 400 < x' by omega) (by omega))]
theorem ok_ticksLeft (fu : Nat) (hf : 500 < fu) : CallOK (F_X6_ticksLeft fu) (F_X7_ticksLeft fu) := act_ok (fun m w z M c g h hi hc => by
  obtain ⟨v, v1, v2, v3⟩ := hi.2.1.1
  obtain ⟨r, m', w', k1, k2, k3, k4, k5⟩ := w_ticks (fu := fu) g h hi hc v1 v2 hf
  unfold F_X6_ticksLeft F_X7_ticksLeft
  rw [show F_X3_at fu (1 + 1) 4 0 m = some (m (1 + 1 + 1) 0, m) from at_v (i := 0) (by omega) (by decide), ob_s, v_set h (show 0 < 4 by omega), gl_0, tl_0, zs_at, v3, k1, k2, ob_s, ob_s]
  exact ⟨r, m', w', rfl, rfl, k3, k4, k5⟩)
theorem ok_ticksIf (fu : Nat) (hf : 500 < fu) (x : Int32) : CallOK (F_X6_ticksIf fu x) (F_X7_ticksIf fu x) := act_ok (fun m w z M c g h hi hc => by
  unfold F_X6_ticksIf F_X7_ticksIf F_X6_isServerValue
  rw [if_pos (show (0 : Int32) = 0 from rfl), bt_r, ob_s, inr_Z, gd_t, ob_s, in_r, ob_s]
  rcases (inr_n (x := x) (a := 1) (b := 20) (by decide) (by decide)) with e | ⟨e, v, v1, v2, rfl⟩
  · exact act_no (-100002) g (if_pos e) (if_pos e)
  · obtain ⟨r, m', w', k1, k2, k3, k4, k5⟩ := w_ticks (fu := fu) g h hi hc v1 v2 hf
    rw [show inr (nI v) 1 20 = 1 from e, if_neg (show ¬ (1 : Int32) = 0 by decide), if_neg (show ¬ (1 : Int32) = 0 by decide), k1, k2, ob_s, ob_s]
    exact ⟨r, m', w', rfl, rfl, k3, k4, k5⟩)
/-- both trials of one request -/
theorem w_fin {fu M r : Nat} (hf : 500 < fu) (hr : r < M) : ∀ (d n n' x c : Nat) (m w : Mem) (z : Nat → Int32), x + d = 400 → d < n → d < n' → Rel 60 m z M 99 → Inv z M c (pB c) 99 → c + d + 1 ≤ 2000 → ∃ v z' m', F_X6_finish_L29 fu (nI r) n (60 + 27 + r) (nI x) m = some (v, m') ∧ Fr 60 m m' ∧ RN 60 m' ∧ F_X7_finish_L17 fu (nI r) n' (nI x) (zs w z) = F_X7_finish_L77 fu (nI r) v (zs w z') := by
  have fin : ∀ (m w : Mem) (z : Nat → Int32) (c : Nat), Rel 60 m z M 99 → Inv z M c (pB c) 99 → ∃ v z' m', F_X6_finish_L57 fu (nI r) (60 + 27 + r) m = some (v, m') ∧ Fr 60 m m' ∧ RN 60 m' ∧ F_X7_finish_L55 fu (nI r) (zs w z) = F_X7_finish_L77 fu (nI r) v (zs w z') := by
    intro m w z c h hi
    have hM := hi.1.2.1
    unfold F_X6_finish_L57 F_X7_finish_L55
    rw [of_3 (by omega), ob_s, v_sta h hr (by omega)]
    by_cases e : z (78 + 10 * r) = 2
    · rw [if_pos e, if_pos e, of_8 (by omega), ob_s, (h.2.2.1 r hr (by omega)).1 (Or.inl e)]
      exact ⟨_, z, m, rfl, Fr_rf, h.2.2.2.2, rfl⟩
    · rw [if_neg e, if_neg e]
      exact ⟨_, z, m, rfl, Fr_rf, h.2.2.2.2, rfl⟩
  intro d
  induction d with
  | zero =>
    intro n n' x c m w z hx hn hn' h hi hc
    obtain ⟨n, rfl⟩ : ∃ i, n = i + 1 := ⟨n - 1, by omega⟩
    obtain ⟨n', rfl⟩ : ∃ i, n' = i + 1 := ⟨n' - 1, by omega⟩
    obtain rfl : x = 400 := by omega
    rw [F_X6_finish_L29, if_pos (show (400 : Int32) ≤ nI 400 by decide), F_X7_finish_L17, if_pos (show (400 : Int32) ≤ nI 400 by decide)]
    exact fin m w z c h hi
  | succ d ih =>
    intro n n' x c m w z hx hn hn' h hi hc
    have hM := hi.1.2.1
    obtain ⟨n, rfl⟩ : ∃ i, n = i + 1 := ⟨n - 1, by omega⟩
    obtain ⟨n', rfl⟩ : ∃ i, n' = i + 1 := ⟨n' - 1, by omega⟩
    have nx : ¬ (400 : Int32) ≤ nI x := nI_ge (show x < 400 by omega) (by decide)
    rw [F_X6_finish_L29, if_neg nx, F_X7_finish_L17, if_neg nx, of_3 (by omega), ob_s]
    unfold F_X2_isSettled
    rw [v_sta h hr (by omega)]
    by_cases e : z (78 + 10 * r) = 2
    · rw [if_pos e, if_pos e, ob_s, if_neg (show ¬ (1 : Int32) = 0 by decide)]
      exact fin m w z c h hi
    · rw [if_neg e, if_neg e, of_3 (by omega), ob_s]
      by_cases e4 : z (78 + 10 * r) = 4
      · rw [if_pos e4, if_pos e4, ob_s, if_neg (show ¬ (1 : Int32) = 0 by decide)]
        exact fin m w z c h hi
      · obtain ⟨m1, e1, h1, f1⟩ := s_tick (fu := fu) h hi (pB_lt (by omega)) (by omega)
        rw [if_neg e4, if_neg e4, ob_s, if_pos (show (0 : Int32) = 0 from rfl), e1, ob_s, bd_s, nI_1, m_tick hi (pB_lt (by omega)) (by omega), ob_s, bd_s]
        obtain ⟨v, z', m', k1, k2, k3, k4⟩ := ih n n' (x + 1) (c + 1) m1 w _ (by omega) (by omega) (by omega) h1 (Inv_tickB hi (by omega)) (by omega)
        exact ⟨v, z', m', k1, Fr_tr f1 k2, k3, k4⟩
theorem ok_finish (fu : Nat) (hf : 500 < fu) (x : Int32) : CallOK (F_X6_finish fu x) (F_X7_finish fu x) := act_ok (fun m w z M c g h hi hc => by
  have hM := hi.1.2.1
  obtain ⟨m1, e1, h1, f1⟩ := s_copy (fu := fu) (o := 60) (b := 1) h hi (g.2.1 60 rfl) (ap_Sb rfl rfl (by omega)) (by omega)
  have no : x < 0 ∨ nI M ≤ x → ∃ r m' w', F_X6_finish fu x m = some (r, m') ∧ F_X7_finish fu x (zs w z) = some (r, w') ∧ GR m' w' ∧ (∀ a, 359 ≤ a → m' a = m a) ∧ ∀ a, a < 359 → w' a = zs w z a := fun e => by
    unfold F_X6_finish F_X7_finish
    rw [e1, ov_s, fd_no e (by rw [v_cnt h1]; exact hi.1.1), oq_n, isReq_no hi e, ob_s, if_pos (show (0 : Int32) = 0 from rfl)]
    exact ⟨_, m1, zs w z, rfl, rfl, GR_wi g f1 h1.2.2.2.2 (fun _ _ => rfl) rfl rfl rfl, fun a ha => f1 a (by omega), fun _ _ => rfl⟩
  rcases pk_ix x (n := M) (by omega) with e | e | ⟨r, hr, rfl⟩
  · exact no (Or.inl e)
  · exact no (Or.inr e)
  · obtain ⟨v, z', m', k1, k2, k3, k4⟩ := w_fin (fu := fu) hf hr 400 fu fu 0 c m1 (mrow w 361 (cut z (w 361) 395)) z (by omega) (by omega) (by omega) h1 hi (by omega)
    obtain ⟨w', b1, b2, b3⟩ := back_at (fu := fu) (w := w) (z := z) (z' := z') (by omega)
    unfold F_X6_finish F_X7_finish
    rw [e1, ov_s, fd_v hr hM (by rw [v_cnt h1]; exact hi.1.1), oq_s, isReq_yes hi hr, ob_s, if_neg (show ¬ (1 : Int32) = 0 by decide), m_putAside (by omega), ov_s, aside_at, show F_X6_finish_L29 fu (nI r) fu (60 + 27 + r) 0 m1 = some (v, m') from k1, show F_X7_finish_L17 fu (nI r) fu 0 (zs (mrow w 361 (cut z (w 361) 395)) z) = _ from k4]
    unfold F_X7_finish_L77
    rw [b1, ov_s]
    exact ⟨v, m', w', rfl, rfl, GR_wi g (Fr_tr f1 k2) k3 (fun i hi' => by rw [b2 i hi', zs_at]) (by rw [b3 _ (by omega) (by omega), zs_ne _ _ (by omega)]) (by rw [b3 _ (by omega) (by omega), zs_ne _ _ (by omega)]) (by rw [b3 _ (by omega) (by omega), zs_ne _ _ (by omega)]), fun a ha => (Fr_tr f1 k2) a (by omega), fun a ha => by rw [b3 _ (by omega) (by omega), zs_ne _ _ (by omega)]⟩)
