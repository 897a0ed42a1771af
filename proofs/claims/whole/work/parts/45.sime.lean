theorem upd_mv (z : Nat → Int32) (i j l n : Nat) (a b c d : Int32) (h1 : i ≠ j) (h2 : i ≠ l) (h3 : i ≠ n) (h4 : j ≠ l) (h5 : j ≠ n) (h6 : l ≠ n) : upd (upd (upd (upd z i a) j b) l c) n d = upd (upd (upd (upd z n d) l c) i a) j b := by
  rw [upd_cm (upd (upd z i a) j b) c d h6, upd_cm (upd z i a) b d h5, upd_cm z a d h3, upd_cm (upd (upd z n d) i a) b c h4, upd_cm (upd z n d) a c h2]
theorem s_work {fu b k M c B : Nat} {m : Mem} {z : Nat → Int32} (h : Rel b m z M 99) (hi : Inv z M c B 99) (hk : zNext z 3 = some k) (hB : B < 2 ^ 30) (hf : 9 < fu) : SimI b m (F_X4_workOneUnit fu b m) (zWork z k).1 (zWork z k).2 M 99 := by
  have hM := hi.1.2.1
  obtain ⟨k3, kL⟩ := zNext_lt z 3 k hk
  obtain ⟨hL0, q, q1, q2, q3, q4⟩ := Inv_first hi k3 kL
  have q99 : q ≠ 99 := by omega
  obtain ⟨-, -, s1, s2⟩ := Inv_kd hi q1
  obtain ⟨n, n1, n2, n3⟩ := (hi.2.1.2.2.2.2.1 k k3).1
  unfold F_X4_workOneUnit zWork
  rw [q3, s_nextL h hf, hk, show lcode b (some k) = some (b + (5 + 7 * k)) from rfl, oq_s, bd_s, bd_s, v_wk h k3]
  have h1 := wr_wk (z (22 + k) + 1) h k3
  rw [at_0 (by decide) (by omega), ob_s, v_shr h1 k3, upd_n _ _ (show 4 + 4 * k ≠ 22 + k by omega), n3]
  unfold F_X6_quotient
  rw [if_pos (show 1 ≤ nI n from nI_le (a := 1) n1 (by omega)), nz_of (nI_ne0 n1 (by omega)), gd_t, bd_s, ob_s, bd_s, bd_s, v_pass h1 k3, upd_n _ _ (show 19 + k ≠ 22 + k by omega)]
  have h2 := wr_pass (z (19 + k) + 2520 / nI n) h1 k3
  rw [at_0 (by decide) (by omega), ob_s]
  have eq : mput (mput m (b + (5 + 7 * k)) 6 (z (22 + k) + 1)) (b + (5 + 7 * k)) 5 (z (19 + k) + 2520 / nI n) (b + (5 + 7 * k) + 5 + 1) 0 = nI q := by
    have e := v_que (p := 0) h2 k3 (by decide)
    rw [upd_n _ _ (by omega), upd_n _ _ (by omega)] at e
    exact e.trans q2
  rw [eq, fd_v q1 hM (by rw [v_cnt h2, upd_n _ _ (by omega), upd_n _ _ (by omega)]; exact hi.1.1), oq_s, bd_s, bd_s, bd_s, v_unt h2 q1, upd_n _ _ (show 80 + 10 * q ≠ 19 + k by omega), upd_n _ _ (show 80 + 10 * q ≠ 22 + k by omega)]
  have h3 := wr_unt (z (80 + 10 * q) + 1) q h2
  have f3 : Fr b m (mput (mput (mput (mput m (b + (5 + 7 * k)) 6 (z (22 + k) + 1)) (b + (5 + 7 * k)) 5 (z (19 + k) + 2520 / nI n)) (b + 27 + q) 6 (z (80 + 10 * q) + 1)) (b + 27 + q) 4 1) := Fr_tr (Fr_put (by omega) (by omega)) (Fr_tr (Fr_put (by omega) (by omega)) (Fr_tr (Fr_put (by omega) (by omega)) (Fr_put (by omega) (by omega))))
  have e78 : upd (upd (upd z (22 + k) (z (22 + k) + 1)) (19 + k) (z (19 + k) + 2520 / nI n)) (80 + 10 * q) (z (80 + 10 * q) + 1) (78 + 10 * q) = z (78 + 10 * q) := by rw [upd_n _ _ (by omega), upd_n _ _ (by omega), upd_n _ _ (by omega)]
  have h4 := Rel_xz 1 (Rel_xc (s := 4) 1 (Rel_op h3 q1 hM (by rw [e78]; rcases q4 with e | e <;> rw [e] <;> decide)) (by omega)) (i := 78 + 10 * q) (by omega)
  have h5 : Rel b (mput (mput (mput (mput m (b + (5 + 7 * k)) 6 (z (22 + k) + 1)) (b + (5 + 7 * k)) 5 (z (19 + k) + 2520 / nI n)) (b + 27 + q) 6 (z (80 + 10 * q) + 1)) (b + 27 + q) 4 1) (zStep z q k) M 99 := by
    have e : zStep z q k = upd (upd (upd (upd z (22 + k) (z (22 + k) + 1)) (19 + k) (z (19 + k) + 2520 / nI n)) (80 + 10 * q) (z (80 + 10 * q) + 1)) (78 + 10 * q) 1 := by
      unfold zStep
      rw [n3, upd_mv z (22 + k) (19 + k) (80 + 10 * q) (78 + 10 * q) _ _ _ _ (by omega) (by omega) (by omega) (by omega) (by omega) (by omega)]
    rw [e]
    refine Rel_cl h4 q1 hM ?_ ?_ ?_ ?_ ?_
    · rw [mput_at, upd_s]
    · rw [mput_ne _ _ (by omega), upd_n _ _ (by omega)]; exact v_prc h3 q1 q99
    · intro e; rw [upd_s] at e; exfalso; revert e; decide
    · intro e; rw [upd_s] at e; exfalso; revert e; decide
    · rw [upd_s]; decide
  generalize mput (mput (mput (mput m (b + (5 + 7 * k)) 6 (z (22 + k) + 1)) (b + (5 + 7 * k)) 5 (z (19 + k) + 2520 / nI n)) (b + 27 + q) 6 (z (80 + 10 * q) + 1)) (b + 27 + q) 4 1 = m5 at *
  have y80 : zStep z q k (80 + 10 * q) = z (80 + 10 * q) + 1 := by
    unfold zStep
    rw [upd_n _ _ (show 80 + 10 * q ≠ 19 + k by omega), upd_n _ _ (show 80 + 10 * q ≠ 22 + k by omega), upd_s]
  have y78 : zStep z q k (78 + 10 * q) = 1 := by
    unfold zStep
    rw [upd_n _ _ (show 78 + 10 * q ≠ 19 + k by omega), upd_n _ _ (show 78 + 10 * q ≠ 22 + k by omega), upd_n _ _ (by omega), upd_s]
  have yo : ∀ i, i ≠ 78 + 10 * q → i ≠ 80 + 10 * q → i ≠ 22 + k → i ≠ 19 + k → zStep z q k i = z i := fun i a b c d => zStep_o a b c d
  rw [v_cst h5 q1, v_unt h5 q1, y80, yo (77 + 10 * q) (by omega) (by omega) (by omega) (by omega)]
  show SimI b m _ (if z (77 + 10 * q) ≤ z (80 + 10 * q) + 1 then ((1 : Int32), zDone (zStep z q k) q k (sd z q)) else (0, zStep z q k)).1 (if z (77 + 10 * q) ≤ z (80 + 10 * q) + 1 then ((1 : Int32), zDone (zStep z q k) q k (sd z q)) else (0, zStep z q k)).2 M 99
  by_cases c1 : z (77 + 10 * q) ≤ z (80 + 10 * q) + 1
  · rw [if_pos c1, if_pos c1]
    have i5 := Inv_step hi k3 q1 q4 hB
    obtain ⟨m6, e6, h6, f6⟩ := s_done (fu := fu) (s := sd z q) h5 i5 k3 (by rw [ln_c (yo _ (by omega) (by omega) (by omega) (by omega))]; exact hL0) q1 y78 s1 (by rw [yo _ (by omega) (by omega) (by omega) (by omega)]; exact s2) hf
    rw [e6, ov_s]
    exact ⟨m6, rfl, h6, Fr_tr f3 f6⟩
  · rw [if_neg c1, if_neg c1]
    exact ⟨m5, rfl, h5, f3⟩
theorem s_unit {fu b M c B : Nat} {m : Mem} {z : Nat → Int32} (h : Rel b m z M 99) (hi : Inv z M c B 99) (hB : B < 2 ^ 30) (hf : 9 < fu) : SimI b m (F_X4_workOneUnit fu b m) (zUnit z).1 (zUnit z).2 M 99 := by
  unfold zUnit
  cases e : zNext z 3 with
  | none =>
    unfold F_X4_workOneUnit
    rw [s_nextL h hf, e, show lcode b none = none from rfl, oq_n, bd_s, bd_s, v_idl h]
    exact ⟨_, rfl, wr_idl _ h, Fr_put (by omega) (by omega)⟩
  | some k => exact s_work h hi e hB hf
theorem s_units {fu b M c C : Nat} (hf : 9 < fu) : ∀ (d n u B : Nat) (x : Int32) (m : Mem) (z : Nat → Int32), Rel b m z M 99 → Inv z M c B 99 → z 0 = nI C → C ≤ 20 → u + d = C → d < n → B + 2520 * d < 2 ^ 30 → SimI b m (F_X4_tick_L110 fu b n x (nI u) m) (zUnits d x z).1 (upd (zUnits d x z).2 67 ((zUnits d x z).2 67 + 1)) M 99 := by
  intro d
  induction d with
  | zero =>
    intro n u B x m z h hi h0 hC hu hn hB
    obtain ⟨n, rfl⟩ : ∃ i, n = i + 1 := ⟨n - 1, by omega⟩
    rw [F_X4_tick_L110, at_0 (by decide) (by omega), ob_s, v_set (i := 0) h (by decide), h0, if_pos (nI_le (by omega) (by omega)), bd_s, bd_s, v_clk h, zUnits]
    exact ⟨_, rfl, wr_clk _ h, Fr_put (by omega) (by omega)⟩
  | succ d ih =>
    intro n u B x m z h hi h0 hC hu hn hB
    obtain ⟨n, rfl⟩ : ∃ i, n = i + 1 := ⟨n - 1, by omega⟩
    obtain ⟨m1, e1, h1, f1⟩ := s_unit h hi (by omega) hf
    rw [F_X4_tick_L110, at_0 (by decide) (by omega), ob_s, v_set (i := 0) h (by decide), h0, if_neg (nI_ge (by omega) (by omega)), e1, ob_s, bd_s, bd_s, nI_1, zUnits]
    obtain ⟨m2, e2, h2, f2⟩ := ih n (u + 1) (B + 2520) (x + (zUnit z).1) m1 (zUnit z).2 h1 (Inv_unit hi (by omega)) (by rw [zUnit_lo (by omega)]; exact h0) hC (by omega) (by omega) (by omega)
    exact ⟨m2, e2, h2, Fr_tr f1 f2⟩
theorem zLate_lo {k i : Nat} (hk : k < 3) (hi : i < 16) : ∀ (d p : Nat) (y : Nat → Int32), zLate y k p d i = y i := by
  intro d
  induction d with
  | zero => intro p y; rw [zLate_0]
  | succ d ih =>
    intro p y
    rw [zLate_t]
    by_cases c1 : y (78 + 10 * (y (28 + 8 * k + p)).toNatClampNeg) = 0
    · rw [if_pos c1]
      by_cases c2 : y 67 - y (84 + 10 * (y (28 + 8 * k + p)).toNatClampNeg) < y 1
      · rw [if_pos c2]; exact ih _ _
      · rw [if_neg c2, ih, zAdd_o (by omega), zRefuse_o (by omega) (by omega) (by omega) (by omega), zLeave_lo hk (by omega)]
    · rw [if_neg c1]; exact ih _ _
theorem zLates_lo {i : Nat} (hi : i < 16) {z : Nat → Int32} : ∀ j, j ≤ 3 → zLates j z i = z i
  | 0, _ => by rw [zLates]
  | j + 1, h => by rw [zLates, zLate_lo (by omega) hi, zLates_lo hi j (by omega)]
theorem s_lates {fu b M c B : Nat} {z : Nat → Int32} (hi : Inv z M c B 99) (hB : B + 50400 < 2 ^ 30) (hf : 40 < fu) : ∀ (d n j : Nat) (m : Mem), Rel b m (zLates j z) M 99 → j + d = 3 → d < n → SimI b m (F_X4_tick_L86 fu b n (nI j) m) (zUnits (z 0).toNatClampNeg 0 (zLates 3 z)).1 (upd (zUnits (z 0).toNatClampNeg 0 (zLates 3 z)).2 67 ((zUnits (z 0).toNatClampNeg 0 (zLates 3 z)).2 67 + 1)) M 99 := by
  intro d
  induction d with
  | zero =>
    intro n j m h hj hn
    obtain ⟨n, rfl⟩ : ∃ i, n = i + 1 := ⟨n - 1, by omega⟩
    obtain rfl : j = 3 := by omega
    obtain ⟨c1, c2, c3⟩ := Inv_cap hi
    rw [F_X4_tick_L86, if_pos (by decide)]
    exact s_units (C := (z 0).toNatClampNeg) (by omega) _ fu 0 B 0 m _ h (Inv_lates 3 z M c B (by omega) hi) (by rw [zLates_lo (by omega) 3 (by omega)]; exact c1) c3 (by omega) (by omega) (by omega)
  | succ d ih =>
    intro n j m h hj hn
    obtain ⟨n, rfl⟩ : ∃ i, n = i + 1 := ⟨n - 1, by omega⟩
    have h3 : ¬ (3 : Int32) ≤ nI j := by rw [show (3 : Int32) = nI 3 from rfl]; exact nI_ge (by omega) (by omega)
    have hj1 := Inv_lates j z M c B (by omega) hi
    obtain ⟨x1, x2, -⟩ := hj1.2.2.1 j (by omega)
    rw [F_X4_tick_L86, if_neg h3, ln_v (by omega), oq_s]
    unfold F_X4_refuseThoseWhoWaited
    obtain ⟨m1, e1, h1, f1⟩ := s_late (fu := fu) (k := j) (by omega) (by omega) (ln (zLates j z) j) fu 0 m _ h hj1 (by omega) (by omega)
    rw [v_len h (by omega), x1, show (0 : Int32) = nI 0 from rfl, e1, ov_s, bd_s, nI_1]
    obtain ⟨m2, e2, h2, f2⟩ := ih n (j + 1) m1 (by rw [zLates]; exact h1) (by omega) (by omega)
    exact ⟨m2, e2, h2, Fr_tr f1 f2⟩
theorem s_due {fu b M c B : Nat} (hB : B + 50400 < 2 ^ 30) (hf : 40 < fu) : ∀ (d n r : Nat) (m : Mem) (z : Nat → Int32), Rel b m z M 99 → Inv z M c B 99 → r + d = M → d < n → ∃ m', F_X4_tick_L35 fu b n (nI r) m = F_X4_tick_L86 fu b fu 0 m' ∧ Rel b m' (zDue r d z) M 99 ∧ Fr b m m' := by
  intro d
  induction d with
  | zero =>
    intro n r m z h hi hr hn
    obtain ⟨n, rfl⟩ : ∃ i, n = i + 1 := ⟨n - 1, by omega⟩
    have hM := hi.1.2.1
    rw [F_X4_tick_L35, v_cnt h, hi.1.1, if_pos (nI_le (by omega) (by omega)), zDue]
    exact ⟨m, rfl, h, Fr_rf⟩
  | succ d ih =>
    intro n r m z h hi hr hn
    obtain ⟨n, rfl⟩ : ∃ i, n = i + 1 := ⟨n - 1, by omega⟩
    have hM := hi.1.2.1
    have hr1 : r < M := by omega
    have i1 := Inv_due1 hi hr1 (by omega)
    rw [F_X4_tick_L35, v_cnt h, hi.1.1, if_neg (nI_ge (by omega) (by omega)), fd_v hr1 hM (by rw [v_cnt h]; exact hi.1.1), oq_s, v_sta h hr1 (by omega), zDue]
    by_cases c1 : z (78 + 10 * r) = 3
    · rw [if_pos c1] at i1 ⊢
      rw [if_pos c1, v_clk h, (h.2.2.1 r hr1 (by omega)).1 (Or.inr c1)]
      by_cases c2 : z 67 < z (83 + 10 * r)
      · rw [if_pos c2] at i1 ⊢
        rw [if_pos c2, bd_s, nI_1]
        exact ih n (r + 1) m z h i1 (by omega) (by omega)
      · rw [if_neg c2] at i1 ⊢
        obtain ⟨k1, k2, s1, s2⟩ := Inv_kd hi hr1
        obtain ⟨m1, e1, h1, f1⟩ := s_offer (fu := fu) (Rel_op h hr1 hM (by rw [c1]; decide)) (Inv_weak hi hr1 (by rw [c1]; decide)) hr1 k1 s1 k2 s2 (by omega) (by omega)
        rw [if_neg c2, e1, ob_s, bd_s, nI_1]
        obtain ⟨m2, e2, h2, f2⟩ := ih n (r + 1) m1 _ h1 i1 (by omega) (by omega)
        exact ⟨m2, e2, h2, Fr_tr f1 f2⟩
    · rw [if_neg c1] at i1 ⊢
      rw [if_neg c1, bd_s, nI_1]
      exact ih n (r + 1) m z h i1 (by omega) (by omega)
theorem s_gains {fu b M c B : Nat} {z : Nat → Int32} (hi : Inv z M c B 99) : ∀ (d n j : Nat) (m : Mem), Rel b m (zGain j z) M 99 → j + d = 3 → d < n → ∃ m', F_X4_tick_L2 fu b n (nI j) m = F_X4_tick_L35 fu b fu 0 m' ∧ Rel b m' (zGain 3 z) M 99 ∧ Fr b m m' := by
  intro d
  induction d with
  | zero =>
    intro n j m h hj hn
    obtain ⟨n, rfl⟩ : ∃ i, n = i + 1 := ⟨n - 1, by omega⟩
    obtain rfl : j = 3 := by omega
    rw [F_X4_tick_L2, if_pos (by decide)]
    exact ⟨m, rfl, h, Fr_rf⟩
  | succ d ih =>
    intro n j m h hj hn
    obtain ⟨n, rfl⟩ : ∃ i, n = i + 1 := ⟨n - 1, by omega⟩
    have h3 : ¬ (3 : Int32) ≤ nI j := by rw [show (3 : Int32) = nI 3 from rfl]; exact nI_ge (by omega) (by omega)
    have hj3 : j < 3 := by omega
    rw [F_X4_tick_L2, if_neg h3, ln_v hj3, oq_s, ln_v hj3, oq_s, at_1 (by decide) (by omega), ob_s, v_rte h hj3]
    have hs := hi.2.1.2.2.2.2.1 j hj3
    have hr : rng (zGain j z (5 + 4 * j)) 0 100 := by
      rw [zGain_lo (by omega)]
      obtain ⟨v, v1, v2, v3⟩ := hs.2.1
      exact ⟨v, v1, by omega, v3⟩
    obtain ⟨m1, e1, h1, f1⟩ := s_gain (fu := fu) h hj3 (by rw [zGain_lo (by omega)]; exact hs.2.2.1) hr
    rw [e1, ov_s, bd_s, nI_1]
    obtain ⟨m2, e2, h2, f2⟩ := ih n (j + 1) m1 (by rw [zGain]; exact h1) (by omega) (by omega)
    exact ⟨m2, e2, h2, Fr_tr f1 f2⟩
theorem s_tick {fu b M c B : Nat} {m : Mem} {z : Nat → Int32} (h : Rel b m z M 99) (hi : Inv z M c B 99) (hB : B + 50400 < 2 ^ 30) (hf : 40 < fu) : SimI b m (F_X4_tick fu b m) (zTick z M).1 (zTick z M).2 M 99 := by
  have hM := hi.1.2.1
  obtain ⟨m1, e1, h1, f1⟩ := s_gains (fu := fu) hi 3 fu 0 m (by rw [zGain]; exact h) rfl (by omega)
  have i1 := Inv_gain 3 z M c B 99 (by omega) hi
  obtain ⟨m2, e2, h2, f2⟩ := s_due (fu := fu) hB hf M fu 0 m1 _ h1 i1 (by omega) (by omega)
  have i2 := Inv_due M 0 _ M c B (by omega) i1 (by omega)
  obtain ⟨m3, e3, h3, f3⟩ := s_lates (fu := fu) i2 hB hf 3 fu 0 m2 (by rw [zLates]; exact h2) rfl (by omega)
  unfold F_X4_tick
  refine ⟨m3, e1.trans (e2.trans (e3.trans ?_)), ?_, Fr_tr f1 (Fr_tr f2 f3)⟩
  · rw [zDue_lo (by omega), zGain_lo (by omega)]
    rfl
  · rw [zDue_lo (by omega), zGain_lo (by omega)] at h3
    exact h3
theorem s_pass {fu b M : Nat} {t : Nat} (ht : t ≤ 99) (hf : 120 < fu) : ∀ (d n j c : Nat) (x : Int32) (m : Mem) (z : Nat → Int32), Rel b m z M 99 → Inv z M c (pB c) 99 → c + d ≤ 2000 → j + d = t → d < n → SimI b m (F_X4_letPass_L4 fu b (nI t) n x (nI j) m) (zPass d x z M).1 (zPass d x z M).2 M 99 := by
  intro d
  induction d with
  | zero =>
    intro n j c x m z h hi hc hj hn
    obtain ⟨n, rfl⟩ : ∃ i, n = i + 1 := ⟨n - 1, by omega⟩
    rw [F_X4_letPass_L4, if_pos (nI_le (by omega) (by omega)), zPass]
    exact ⟨m, rfl, h, Fr_rf⟩
  | succ d ih =>
    intro n j c x m z h hi hc hj hn
    obtain ⟨n, rfl⟩ : ∃ i, n = i + 1 := ⟨n - 1, by omega⟩
    obtain ⟨m1, e1, h1, f1⟩ := s_tick (fu := fu) h hi (pB_lt (by omega)) (by omega)
    rw [F_X4_letPass_L4, if_neg (nI_ge (by omega) (by omega)), e1, ob_s, bd_s, bd_s, nI_1, zPass]
    obtain ⟨m2, e2, h2, f2⟩ := ih n (j + 1) (c + 1) (x + (zTick z M).1) m1 _ h1 (Inv_tickB hi (by omega)) (by omega) (by omega) (by omega)
    exact ⟨m2, e2, h2, Fr_tr f1 f2⟩
