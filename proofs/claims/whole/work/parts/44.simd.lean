theorem s_shift {fu b k L M r0 : Nat} {a1 : Int32} (hk : k < 3) (hL : L ≤ 7) : ∀ (d n p : Nat) (m : Mem) (z : Nat → Int32), Rel b m z M r0 → z (25 + k) = nI L → p + d = L → d < n → Sim b m (F_X1_leave_L19 fu (b + (5 + 7 * k)) a1 n (nI p) m) (zShift z k p d) M r0 := by
  intro d
  induction d with
  | zero =>
    intro n p m z h hl hp hn
    obtain ⟨n, rfl⟩ : ∃ i, n = i + 1 := ⟨n - 1, by omega⟩
    rw [F_X1_leave_L19, v_len h hk, hl, if_pos (nI_le (by omega) (by omega)), zShift]
    exact ⟨m, rfl, h, Fr_rf⟩
  | succ d ih =>
    intro n p m z h hl hp hn
    obtain ⟨n, rfl⟩ : ∃ i, n = i + 1 := ⟨n - 1, by omega⟩
    rw [F_X1_leave_L19, v_len h hk, hl, if_neg (nI_ge (by omega) (by omega)), bd_s, nI_1, at_v (show p + 1 < 8 by omega) (by omega), ob_s, v_que h hk (show p + 1 < 8 by omega), pt_v (show p < 8 by omega) (by omega), ov_s, bd_s, zShift]
    obtain ⟨m', e, h', f'⟩ := ih n (p + 1) _ _ (wr_que (z (28 + 8 * k + (p + 1))) h hk (show p < 8 by omega)) (by rw [upd_n _ _ (by omega)]; exact hl) (by omega) (by omega)
    exact ⟨m', e, h', Fr_tr (Fr_put (by omega) (by omega)) f'⟩
theorem s_leave {fu b k p L M r0 : Nat} {m : Mem} {z : Nat → Int32} (h : Rel b m z M r0) (hk : k < 3) (hL : L ≤ 7) (hl : z (25 + k) = nI (L + 1)) (hp : p ≤ L) (hf : 9 < fu) : Sim b m (F_X1_leave fu (b + (5 + 7 * k)) (nI p) m) (zLeave z k p) M r0 := by
  have e : ln z k = L + 1 := by unfold ln; rw [hl, tn _ (by omega)]
  unfold F_X1_leave zLeave
  rw [v_len h hk, hl, if_neg (nI_nle (by omega) (by omega)), bd_s, bd_s, nI_pred, e]
  obtain ⟨m', e', h', f'⟩ := s_shift (fu := fu) (a1 := nI p) hk hL (L + 1 - 1 - p) fu p _ _ (wr_len (nI L) h hk) (upd_s _ _ _) (by omega) (by omega)
  exact ⟨m', e', h', Fr_tr (Fr_put (by omega) (by omega)) f'⟩
theorem s_late {fu b k M c B : Nat} (hk : k < 3) (hf : 9 < fu) : ∀ (d n p : Nat) (m : Mem) (z : Nat → Int32), Rel b m z M 99 → Inv z M c B 99 → p + d = ln z k → d < n → Sim b m (F_X4_refuseThoseWhoWaited_L7 fu b (b + (5 + 7 * k)) n (nI p) (nI d) m) (zLate z k p d) M 99 := by
  intro d
  induction d with
  | zero =>
    intro n p m z h hi hp hn
    obtain ⟨n, rfl⟩ : ∃ i, n = i + 1 := ⟨n - 1, by omega⟩
    rw [F_X4_refuseThoseWhoWaited_L7, if_pos (by decide), zLate_0]
    exact ⟨m, rfl, h, Fr_rf⟩
  | succ d ih =>
    intro n p m z h hi hp hn
    obtain ⟨n, rfl⟩ : ∃ i, n = i + 1 := ⟨n - 1, by omega⟩
    obtain ⟨x1, x2, x3⟩ := hi.2.2.1 k hk
    have hM := hi.1.2.1
    obtain ⟨q, q1, -, q3, -⟩ := x3 p (by omega)
    have q4 : q < 32 := by omega
    have q99 : q ≠ 99 := by omega
    rw [F_X4_refuseThoseWhoWaited_L7, if_neg (nI_nle (by omega) (by omega)), at_v (show p < 8 by omega) (by omega), ob_s, v_que h hk (show p < 8 by omega), q3, fd_v q1 hM (by rw [v_cnt h]; exact hi.1.1), oq_s, zLate_s z k p d q q3 q4]
    unfold F_X4_hasWaitedTooLong
    rw [v_sta h q1 q99]
    by_cases c1 : z (78 + 10 * q) = 0
    · rw [if_pos c1, if_pos c1, bd_s, at_1 (by decide) (by omega), ob_s, v_set (i := 1) h (by decide), v_clk h, (h.2.2.1 q q1 q99).2 c1]
      by_cases c2 : z 67 - z (84 + 10 * q) < z 1
      · rw [if_pos c2, if_pos c2, ob_s, if_pos rfl, bd_s, bd_s, nI_1, pk_m1]
        exact ih n (p + 1) m z h hi (by omega) (by omega)
      · rw [if_neg c2, if_neg c2, ob_s, if_neg (by decide)]
        obtain ⟨L, hLe⟩ : ∃ L, ln z k = L + 1 := ⟨ln z k - 1, by omega⟩
        obtain ⟨k1, k2, -, -⟩ := Inv_kd hi q1
        have o : ∀ i, 52 ≤ i → zLeave z k p i = z i := fun i hi => zLeave_o hk x2 (by omega) (by omega)
        obtain ⟨i1, i2⟩ := Inv_late1 hi hk (by omega) q3 q1
        obtain ⟨m1, e1, h1, f1⟩ := s_leave (fu := fu) h hk (show L ≤ 7 by omega) (by rw [x1, hLe]) (show p ≤ L by omega) hf
        rw [e1, ov_s]
        have h1' := Rel_op h1 q1 hM (by rw [o _ (by omega), c1]; decide)
        obtain ⟨m2, e2, h2, f2⟩ := s_refuse (fu := fu) (j := 5) h1' q1 hM k1 (by omega) (by omega) (by rw [o _ (by omega)]; exact k2) (v_prc h1 q1 q99)
        rw [show (5 : Int32) = nI 5 from rfl, e2, ov_s, v_prc h2 q1 q99, zRefuse_o (by omega) (by omega) (by omega) (by omega), o _ (by omega)]
        have hb : rng (zRefuse (zLeave z k p) q (kd z q) 5 (6 + 4 * k)) 1 99 := by
          rw [zRefuse_o (by omega) (by omega) (by omega) (by omega), zLeave_lo hk (by omega)]
          exact (hi.2.1.2.2.2.2.1 k hk).2.2.1
        have ha : rng (z (79 + 10 * q)) 0 100 := by
          obtain ⟨v, v1, v2, v3⟩ := ((hi.2.2.2.2.1 q q1).2.2.2 q99).2.1
          exact ⟨v, v1, by omega, v3⟩
        obtain ⟨m3, e3, h3, f3⟩ := s_gain (fu := fu) h2 hk hb ha
        rw [e3, ov_s, bd_s, pk_m1]
        obtain ⟨m4, e4, h4, f4⟩ := ih n p m3 _ h3 i1 (by omega) (by omega)
        exact ⟨m4, e4, h4, Fr_tr f1 (Fr_tr f2 (Fr_tr f3 f4))⟩
    · rw [if_neg c1, if_neg c1, ob_s, if_pos rfl, bd_s, bd_s, nI_1, pk_m1]
      exact ih n (p + 1) m z h hi (by omega) (by omega)
theorem s_next {fu b M r0 : Nat} {m : Mem} {z : Nat → Int32} (h : Rel b m z M r0) : ∀ d n j, j + d = 3 → d < n → F_X4_nextLane_L4 fu b n (lcode b (zNext z j)) (nI j) m = some (lcode b (zNext z 3), m) := by
  intro d
  induction d with
  | zero =>
    intro n j hj hn
    obtain ⟨n, rfl⟩ : ∃ i, n = i + 1 := ⟨n - 1, by omega⟩
    obtain rfl : j = 3 := by omega
    rw [F_X4_nextLane_L4]
    cases e : zNext z 3 with
    | none => rw [show lcode b none = none from rfl, cq_n, if_pos (by decide)]
    | some a => rw [show lcode b (some a) = some (b + (5 + 7 * a)) from rfl, cq_s, if_pos (by decide)]
  | succ d ih =>
    intro n j hj hn
    obtain ⟨n, rfl⟩ : ∃ i, n = i + 1 := ⟨n - 1, by omega⟩
    have h3 : ¬ (3 : Int32) ≤ nI j := by rw [show (3 : Int32) = nI 3 from rfl]; exact nI_ge (by omega) (by omega)
    have go := ih n (j + 1) (by omega) (by omega)
    have hj3 : j < 3 := by omega
    rw [F_X4_nextLane_L4]
    by_cases c2 : z (25 + j) ≤ 0
    · have e1 : zNext z (j + 1) = zNext z j := by rw [zNext, if_pos c2]
      rw [e1] at go
      cases e : zNext z j with
      | none =>
        rw [e] at go
        rw [show lcode b none = none from rfl, cq_n, if_neg h3, ln_v hj3, oq_s, v_len h hj3, if_pos c2, bd_s, nI_1]
        exact go
      | some a =>
        rw [e] at go
        rw [show lcode b (some a) = some (b + (5 + 7 * a)) from rfl, cq_s, if_neg h3, ln_v hj3, oq_s, v_len h hj3, if_pos c2, bd_s, nI_1]
        exact go
    · cases e : zNext z j with
      | none =>
        have e1 : zNext z (j + 1) = some j := by rw [zNext, if_neg c2, e]
        rw [e1] at go
        rw [show lcode b none = none from rfl, cq_n, if_neg h3, ln_v hj3, oq_s, v_len h hj3, if_neg c2, bd_s, nI_1]
        exact go
      | some a =>
        have ha := (zNext_lt z j a e).1
        have ha3 : a < 3 := by omega
        rw [show lcode b (some a) = some (b + (5 + 7 * a)) from rfl, cq_s, if_neg h3, ln_v hj3, oq_s, v_len h hj3, if_neg c2, v_pass h ha3, v_pass h hj3]
        by_cases c3 : z (19 + a) ≤ z (19 + j)
        · have e1 : zNext z (j + 1) = some a := by rw [zNext, if_neg c2, e]; exact if_pos c3
          rw [e1] at go
          rw [if_pos c3, bd_s, nI_1]
          exact go
        · have e1 : zNext z (j + 1) = some j := by rw [zNext, if_neg c2, e]; exact if_neg c3
          rw [e1] at go
          rw [if_neg c3, bd_s, nI_1]
          exact go
theorem s_nextL {fu b M r0 : Nat} {m : Mem} {z : Nat → Int32} (h : Rel b m z M r0) (hf : 9 < fu) : F_X4_nextLane fu b m = some (lcode b (zNext z 3), m) := by
  have e := s_next (fu := fu) h 3 fu 0 rfl (by omega)
  rw [show lcode b (zNext z 0) = none by rw [zNext]; rfl] at e
  exact e
theorem zLeave_cm {z : Nat → Int32} {k p i : Nat} (v : Int32) (hk : k < 3) (hL : ln z k ≤ 8) (hp : p < ln z k) (hi : 52 ≤ i) : zLeave (upd z i v) k p = upd (zLeave z k p) i v := by
  have hl : ln (upd z i v) k = ln z k := ln_c (upd_n _ _ (by omega))
  funext j
  by_cases e : j = i
  · subst e
    rw [zLeave_o hk (by rw [hl]; exact hL) (by rw [hl]; exact hp) (by omega), upd_s, upd_s]
  · rw [upd_n _ _ e, zLeave_at j hk, zLeave_at j hk, hl]
    by_cases c1 : j = 25 + k
    · rw [if_pos c1, if_pos c1, upd_n _ _ (by omega)]
    · rw [if_neg c1, if_neg c1]
      by_cases c2 : 28 + 8 * k + p ≤ j ∧ j < 28 + 8 * k + p + (ln z k - 1 - p)
      · rw [if_pos c2, if_pos c2, upd_n _ _ (by omega)]
      · rw [if_neg c2, if_neg c2, upd_n _ _ e]
theorem sub_sub' (t p c : Int32) : t - (c - p) = t + (p - c) := by rw [Int32.sub_eq_add_neg t, Int32.neg_sub]
theorem nI_cmp {p c : Nat} (hp : p ≤ 60) (hc : c ≤ 60) : (nI p - nI c ≤ 0) ↔ p ≤ c := by
  rw [Int32.le_iff_toInt_le, pk_sub_toInt (by omega) (by omega)]
  show ((p : Int) - (c : Int) ≤ 0) ↔ _
  omega
/-- the first of the queue k is done -/
theorem s_done {fu b k q s M c B : Nat} {m : Mem} {z : Nat → Int32} (h : Rel b m z M 99) (hi : Inv z M c B 99) (hk : k < 3) (hL : 0 < ln z k) (hq : q < M) (hst : z (78 + 10 * q) = 1) (hs : s < 5) (hsz : z (76 + 10 * q) = nI s) (hf : 9 < fu) : Sim b m (F_X4_complete fu b (b + (5 + 7 * k)) (b + 27 + q) m) (zDone z q k s) M 99 := by
  have hM := hi.1.2.1
  have q99 : q ≠ 99 := by omega
  obtain ⟨x1, x2, x3⟩ := hi.2.2.1 k hk
  obtain ⟨L, hLe⟩ : ∃ L, ln z k = L + 1 := ⟨ln z k - 1, by omega⟩
  obtain ⟨cs, cs1, cs2, cs3⟩ := (hi.2.2.2.2.1 q hq).2.2.1
  obtain ⟨pr, pr1, pr2, pr3⟩ := ((hi.2.2.2.2.1 q hq).2.2.2 q99).2.1
  unfold F_X4_complete
  rw [bd_s, bd_s, bd_s, bd_s]
  have h1 := Rel_xc (s := 4) 2 (Rel_op h hq hM (by rw [hst]; decide)) (by omega)
  rw [v_clk h1]
  have h2 := Rel_xc (s := 10) (z 67) h1 (by omega)
  have h3 := Rel_xz (z 67) (Rel_xz 2 h2 (i := 78 + 10 * q) (by omega)) (i := 83 + 10 * q) (by omega)
  have h4 := Rel_dn h3 hq hM (by rw [mput_ne _ _ (by omega), mput_at]) (by rw [upd_n _ _ (by omega), upd_s]) (by rw [mput_ne _ _ (by omega), mput_ne _ _ (by omega), upd_n _ _ (by omega), upd_n _ _ (by omega)]; exact v_prc h hq q99) (by rw [mput_at, upd_s])
  have f4 : Fr b m (mput (mput (mput m (b + 27 + q) 4 2) (b + 27 + q) 10 (z 67)) b 7 (mput (mput m (b + 27 + q) 4 2) (b + 27 + q) 10 (z 67) b 7 - 1)) := Fr_tr (Fr_put (by omega) (by omega)) (Fr_tr (Fr_put (by omega) (by omega)) (Fr_put (by omega) (by omega)))
  generalize mput (mput (mput m (b + 27 + q) 4 2) (b + 27 + q) 10 (z 67)) b 7 (mput (mput m (b + 27 + q) 4 2) (b + 27 + q) 10 (z 67) b 7 - 1) = m4 at *
  obtain ⟨m5, e5, h5, f5⟩ := s_leave (fu := fu) (p := 0) h4 hk (show L ≤ 7 by omega) (by rw [upd_n _ _ (by omega), upd_n _ _ (by omega), x1, hLe]) (by omega) hf
  rw [show (0 : Int32) = nI 0 from rfl, e5, ov_s]
  rw [zLeave_cm _ hk (by rw [ln_c (upd_n _ _ (by omega))]; exact x2) (by rw [ln_c (upd_n _ _ (by omega))]; exact hL) (by omega), zLeave_cm _ hk x2 hL (by omega)] at h5
  have o : ∀ i, 52 ≤ i → i ≠ 78 + 10 * q → i ≠ 83 + 10 * q → upd (upd (zLeave z k 0) (78 + 10 * q) 2) (83 + 10 * q) (z 67) i = z i := fun i h1 h2 h3 => by rw [upd_n _ _ h3, upd_n _ _ h2, zLeave_o hk x2 hL (by omega)]
  have o16 : upd (upd (zLeave z k 0) (78 + 10 * q) 2) (83 + 10 * q) (z 67) (16 + k) = z (16 + k) := by rw [upd_n _ _ (by omega), upd_n _ _ (by omega), zLeave_lo hk (by omega)]
  have o6 : upd (upd (zLeave z k 0) (78 + 10 * q) 2) (83 + 10 * q) (z 67) (6 + 4 * k) = z (6 + 4 * k) := by rw [upd_n _ _ (by omega), upd_n _ _ (by omega), zLeave_lo hk (by omega)]
  unfold zDone
  show Sim b m _ (if z (79 + 10 * q) - z (77 + 10 * q) ≤ 0 then upd (upd (upd (upd (zLeave z k 0) (78 + 10 * q) 2) (83 + 10 * q) (z 67)) (70 + s) (z (70 + s) + (16 * z (77 + 10 * q) - z (70 + s)) / 4)) (16 + k) (z (16 + k) + (z (79 + 10 * q) - z (77 + 10 * q))) else zAdd (upd (upd (upd (zLeave z k 0) (78 + 10 * q) 2) (83 + 10 * q) (z 67)) (70 + s) (z (70 + s) + (16 * z (77 + 10 * q) - z (70 + s)) / 4)) k (z (79 + 10 * q) - z (77 + 10 * q))) M 99
  generalize upd (upd (zLeave z k 0) (78 + 10 * q) 2) (83 + 10 * q) (z 67) = y at *
  rw [v_shp h5 hq, o _ (by omega) (by omega) (by omega), hsz, at_v (show s < 5 by omega) (by omega), ob_s, v_est h5 hs, o _ (by omega) (by omega) (by omega), bd_s, bd_s, bd_s, bd_s, v_cst h5 hq, o _ (by omega) (by omega) (by omega), v_shp h5 hq, o _ (by omega) (by omega) (by omega), hsz, pt_v (show s < 5 by omega) (by omega), ov_s]
  have h6 := wr_est (z (70 + s) + (16 * z (77 + 10 * q) - z (70 + s)) / 4) h5 hs
  rw [v_prc h6 hq q99, v_cst h6 hq, upd_n _ _ (show 79 + 10 * q ≠ 70 + s by omega), upd_n _ _ (show 77 + 10 * q ≠ 70 + s by omega), o _ (by omega) (by omega) (by omega), o _ (by omega) (by omega) (by omega), pr3, cs3]
  rw [cs3] at h6
  by_cases c1 : pr ≤ cs
  · rw [if_pos (nI_le c1 (by omega)), if_pos ((nI_cmp pr2 cs2).mpr c1), bd_s, bd_s, bd_s, v_tok h6 hk, upd_n _ _ (show 16 + k ≠ 70 + s by omega), o16, sub_sub']
    exact ⟨_, rfl, wr_tok _ h6 hk, Fr_tr f4 (Fr_tr f5 (Fr_tr (Fr_put (by omega) (by omega)) (Fr_put (by omega) (by omega))))⟩
  · rw [if_neg (nI_ge (by omega) (by omega)), if_neg (fun e => c1 ((nI_cmp pr2 cs2).mp e)), bd_s]
    have ha : rng (nI pr - nI cs) 0 100 := by
      rw [pk_sub (by omega)]
      exact ⟨pr - cs, by omega, by omega, rfl⟩
    obtain ⟨m7, e7, h7, f7⟩ := s_gain (fu := fu) h6 hk (by rw [upd_n _ _ (by omega), o6]; exact (hi.2.1.2.2.2.2.1 k hk).2.2.1) ha
    rw [e7, ov_s]
    exact ⟨m7, rfl, h7, Fr_tr f4 (Fr_tr f5 (Fr_tr (Fr_put (by omega) (by omega)) f7))⟩
