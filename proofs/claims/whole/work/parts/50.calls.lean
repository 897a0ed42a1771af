/-! ===== the calls, one by one: the reads ===== -/
def CallOK (FC FM : Mem → Option (Int32 × Mem)) : Prop := ∀ m w, GR m w → ∃ r m' w', FC m = some (r, m') ∧ FM w = some (r, w') ∧ GR m' w' ∧ (∀ a, 359 ≤ a → m' a = m a) ∧ ∀ a, a < 359 → w' a = w a
theorem get_ok {FC FM : Mem → Option (Int32 × Mem)} (h : ∀ m w z M c, Rel 1 m z M 99 → Inv z M c (pB c) 99 → c ≤ 999 → ∃ r, FC m = some (r, m) ∧ FM (zs w z) = some (r, zs w z)) : CallOK FC FM := by
  intro m w g
  obtain ⟨M, c, r1, r2, r3⟩ := g.1
  obtain ⟨r, e1, e2⟩ := h m w (w 360) M c r1 r2 r3
  rw [zs_self] at e2
  exact ⟨r, m, w, e1, e2, g, fun _ _ => rfl, fun _ _ => rfl⟩
theorem lt_of_les {n : Nat} {x : Int32} (hn : n + 1 < 2 ^ 31) (h : nI (n + 1) ≤ x) : nI n < x := by
  rw [Int32.lt_iff_toInt_lt, nI_toInt (by omega)]
  rw [Int32.le_iff_toInt_le, nI_toInt hn] at h
  omega
theorem in_yes {fu j a b : Nat} {w : Mem} (h1 : a ≤ j) (h2 : j ≤ b) (hb : b < 2 ^ 31) : F_X7_in fu (nI j) (nI a) (nI b) w = some (1, w) := by
  unfold F_X7_in
  rw [if_neg (nI_nlt h1 (by omega)), if_neg (nI_nlt h2 hb)]
theorem in_lo {fu : Nat} {x a b : Int32} {w : Mem} (h : x < a) : F_X7_in fu x a b w = some (0, w) := by
  unfold F_X7_in
  rw [if_pos h]
theorem in_hi {fu : Nat} {x a b : Int32} {w : Mem} (h : b < x) : F_X7_in fu x a b w = some (0, w) := by
  unfold F_X7_in
  by_cases c : x < a
  · rw [if_pos c]
  · rw [if_neg c, if_pos h]
theorem isKind_no {fu : Nat} {x : Int32} {m w : Mem} (h : x < 0 ∨ nI 3 ≤ x) : F_X6_isKind fu x m = some (0, m) ∧ F_X7_isClass fu x w = some (0, w) := by
  unfold F_X6_isKind F_X7_isClass
  by_cases c : x < 0
  · rw [if_pos c, in_lo c, ob_s, isZ_0, gd_t]
    exact ⟨rfl, rfl⟩
  · have h2 := h.resolve_left c
    rw [if_neg c, if_pos (show (3 : Int32) ≤ x from h2), in_hi (show (2 : Int32) < x from lt_of_les (n := 2) (by decide) h2), ob_s, isZ_0, gd_t]
    exact ⟨rfl, rfl⟩
theorem isKind_yes {fu j : Nat} {m w : Mem} (h : j < 3) : F_X6_isKind fu (nI j) m = some (1, m) ∧ F_X7_isClass fu (nI j) w = some (1, w) := by
  unfold F_X6_isKind F_X7_isClass
  rw [if_neg (nI_pos (by omega)), if_neg (show ¬ (3 : Int32) ≤ nI j from nI_ge h (by decide)), show F_X7_in fu (nI j) 0 2 w = some (1, w) from in_yes (a := 0) (b := 2) (by omega) (by omega) (by decide), ob_s, isZ_1, gd_t]
  exact ⟨rfl, rfl⟩
theorem isShape_no {fu : Nat} {x : Int32} {m w : Mem} (h : x < 0 ∨ nI 5 ≤ x) : F_X6_isShape fu x m = some (0, m) ∧ F_X7_isShape fu x w = some (0, w) := by
  unfold F_X6_isShape F_X7_isShape
  by_cases c : x < 0
  · rw [if_pos c, in_lo c, ob_s, isZ_0, gd_t]
    exact ⟨rfl, rfl⟩
  · have h2 := h.resolve_left c
    rw [if_neg c, if_pos (show (5 : Int32) ≤ x from h2), in_hi (show (4 : Int32) < x from lt_of_les (n := 4) (by decide) h2), ob_s, isZ_0, gd_t]
    exact ⟨rfl, rfl⟩
theorem isShape_yes {fu j : Nat} {m w : Mem} (h : j < 5) : F_X6_isShape fu (nI j) m = some (1, m) ∧ F_X7_isShape fu (nI j) w = some (1, w) := by
  unfold F_X6_isShape F_X7_isShape
  rw [if_neg (nI_pos (by omega)), if_neg (show ¬ (5 : Int32) ≤ nI j from nI_ge h (by decide)), show F_X7_in fu (nI j) 0 4 w = some (1, w) from in_yes (a := 0) (b := 4) (by omega) (by omega) (by decide), ob_s, isZ_1, gd_t]
  exact ⟨rfl, rfl⟩
theorem isSet_no {fu : Nat} {x : Int32} {m w : Mem} (h : x < 0 ∨ nI 4 ≤ x) : F_X6_isSetting fu x m = some (0, m) ∧ F_X7_in fu x 0 3 w = some (0, w) := by
  unfold F_X6_isSetting
  by_cases c : x < 0
  · rw [if_pos c, in_lo c]
    exact ⟨rfl, rfl⟩
  · have h2 := h.resolve_left c
    rw [if_neg c, if_pos (show (4 : Int32) ≤ x from h2), in_hi (show (3 : Int32) < x from lt_of_les (n := 3) (by decide) h2)]
    exact ⟨rfl, rfl⟩
theorem isSet_yes {fu j : Nat} {m w : Mem} (h : j < 4) : F_X6_isSetting fu (nI j) m = some (1, m) ∧ F_X7_in fu (nI j) 0 3 w = some (1, w) := by
  unfold F_X6_isSetting
  rw [if_neg (nI_pos (by omega)), if_neg (show ¬ (4 : Int32) ≤ nI j from nI_ge h (by decide))]
  exact ⟨rfl, in_yes (a := 0) (b := 3) (by omega) (by omega) (by decide)⟩
theorem fd_no {fu b M : Nat} {x : Int32} {m : Mem} (h : x < 0 ∨ nI M ≤ x) (hm : m b 6 = nI M) : F_X4_find fu b x m = some (none, m) := by
  unfold F_X4_find
  by_cases c : x < 0
  · rw [if_pos c]
  · rw [if_neg c, hm, if_pos (h.resolve_left c)]
theorem isReq_no {fu M c B : Nat} {x : Int32} {w : Mem} {z : Nat → Int32} (hi : Inv z M c B 99) (h : x < 0 ∨ nI M ≤ x) : F_X7_isRequest fu x (zs w z) = some (0, zs w z) := by
  have hM := hi.1.2.1
  unfold F_X7_isRequest
  rw [gl_69, tl_69, zs_at, hi.1.1, bd_s]
  by_cases c1 : x < 0
  · rw [in_lo c1, ob_s, isZ_0, gd_t]
  · have h2 := h.resolve_left c1
    rw [in_hi, ob_s, isZ_0, gd_t]
    rw [Int32.lt_iff_toInt_lt, show (1 : Int32) = nI 1 from rfl, pk_sub_toInt (by omega) (by omega)]
    rw [Int32.le_iff_toInt_le, nI_toInt (by omega)] at h2
    omega
theorem isReq_yes {fu M c B r : Nat} {w : Mem} {z : Nat → Int32} (hi : Inv z M c B 99) (h : r < M) : F_X7_isRequest fu (nI r) (zs w z) = some (1, zs w z) := by
  have hM := hi.1.2.1
  unfold F_X7_isRequest
  rw [gl_69, tl_69, zs_at, hi.1.1, bd_s, show (1 : Int32) = nI 1 from rfl, pk_sub (by omega), show F_X7_in fu (nI r) 0 (nI (M - 1)) (zs w z) = some (1, zs w z) from in_yes (a := 0) (by omega) (by omega) (by omega), ob_s, isZ_1, gd_t]
  rfl
theorem ok_clock (fu : Nat) : CallOK (F_X6_clock fu) (F_X7_clock fu) := get_ok (fun m w z M c h hi _ => ⟨z 67, by unfold F_X6_clock; rw [v_clk h], by unfold F_X7_clock; rw [gl_67, tl_67, zs_at]⟩)
theorem ok_idle (fu : Nat) : CallOK (F_X6_idle fu) (F_X7_idle fu) := get_ok (fun m w z M c h hi _ => ⟨z 68, by unfold F_X6_idle; rw [v_idl h], by unfold F_X7_idle; rw [gl_68, tl_68, zs_at]⟩)
theorem ok_requests (fu : Nat) : CallOK (F_X6_requests fu) (F_X7_requests fu) := get_ok (fun m w z M c h hi _ => ⟨z 69, by unfold F_X6_requests; rw [v_cnt h], by unfold F_X7_requests; rw [gl_69, tl_69, zs_at]⟩)
theorem ok_setting (fu : Nat) (x : Int32) : CallOK (F_X6_setting fu x) (F_X7_setting fu x) := get_ok (fun m w z M c h hi _ => by
  unfold F_X6_setting F_X7_setting
  rcases pk_ix x (n := 4) (by decide) with e | e | ⟨j, hj, rfl⟩
  · obtain ⟨e1, e2⟩ := isSet_no (fu := fu) (m := m) (w := zs w z) (Or.inl e)
    rw [e1, e2, ob_s, ob_s, if_pos rfl, if_pos rfl]
    exact ⟨_, rfl, rfl⟩
  · obtain ⟨e1, e2⟩ := isSet_no (fu := fu) (m := m) (w := zs w z) (Or.inr e)
    rw [e1, e2, ob_s, ob_s, if_pos rfl, if_pos rfl]
    exact ⟨_, rfl, rfl⟩
  · obtain ⟨e1, e2⟩ := isSet_yes (fu := fu) (m := m) (w := zs w z) hj
    rw [e1, e2, ob_s, ob_s, if_neg (by decide), if_neg (by decide), at_v hj (by decide), ob_s, bd_s, ia_0, gd_in _ (by omega) (by omega), tn (0 + j) (by omega), zs_at, v_set h hj, Nat.zero_add]
    exact ⟨_, rfl, rfl⟩)
theorem ok_estimate (fu : Nat) (x : Int32) : CallOK (F_X6_estimate fu x) (F_X7_estimate fu x) := get_ok (fun m w z M c h hi _ => by
  unfold F_X6_estimate F_X7_estimate
  rcases pk_ix x (n := 5) (by decide) with e | e | ⟨j, hj, rfl⟩
  · obtain ⟨e1, e2⟩ := isShape_no (fu := fu) (m := m) (w := zs w z) (Or.inl e)
    rw [e1, e2, ob_s, ob_s, if_pos rfl, if_pos rfl]
    exact ⟨_, rfl, rfl⟩
  · obtain ⟨e1, e2⟩ := isShape_no (fu := fu) (m := m) (w := zs w z) (Or.inr e)
    rw [e1, e2, ob_s, ob_s, if_pos rfl, if_pos rfl]
    exact ⟨_, rfl, rfl⟩
  · obtain ⟨e1, e2⟩ := isShape_yes (fu := fu) (m := m) (w := zs w z) hj
    rw [e1, e2, ob_s, ob_s, if_neg (by decide), if_neg (by decide), at_v hj (by decide), ob_s, bd_s, ia_70, gd_in _ (by omega) (by omega), tn (70 + j) (by omega), zs_at, v_est h hj]
    exact ⟨_, rfl, rfl⟩)
theorem ok_tokens (fu : Nat) (x : Int32) : CallOK (F_X6_tokens fu x) (F_X7_tokens fu x) := get_ok (fun m w z M c h hi _ => by
  unfold F_X6_tokens F_X7_tokens
  rcases pk_ix x (n := 3) (by decide) with e | e | ⟨j, hj, rfl⟩
  · obtain ⟨e1, e2⟩ := isKind_no (fu := fu) (m := m) (w := zs w z) (Or.inl e)
    rw [e1, e2, ob_s, ob_s, if_pos rfl, if_pos rfl]
    exact ⟨_, rfl, rfl⟩
  · obtain ⟨e1, e2⟩ := isKind_no (fu := fu) (m := m) (w := zs w z) (Or.inr e)
    rw [e1, e2, ob_s, ob_s, if_pos rfl, if_pos rfl]
    exact ⟨_, rfl, rfl⟩
  · obtain ⟨e1, e2⟩ := isKind_yes (fu := fu) (m := m) (w := zs w z) hj
    rw [e1, e2, ob_s, ob_s, if_neg (show ¬ (1 : Int32) = 0 by decide), if_neg (show ¬ (1 : Int32) = 0 by decide)]
    rw [ln_v hj, oq_s, bd_s, ia_16, gd_in _ (by omega) (by omega), tn (16 + j) (by omega), zs_at, v_tok h hj]
    exact ⟨_, rfl, rfl⟩)
theorem ok_pass (fu : Nat) (x : Int32) : CallOK (F_X6_pass fu x) (F_X7_pass fu x) := get_ok (fun m w z M c h hi _ => by
  unfold F_X6_pass F_X7_pass
  rcases pk_ix x (n := 3) (by decide) with e | e | ⟨j, hj, rfl⟩
  · obtain ⟨e1, e2⟩ := isKind_no (fu := fu) (m := m) (w := zs w z) (Or.inl e)
    rw [e1, e2, ob_s, ob_s, if_pos rfl, if_pos rfl]
    exact ⟨_, rfl, rfl⟩
  · obtain ⟨e1, e2⟩ := isKind_no (fu := fu) (m := m) (w := zs w z) (Or.inr e)
    rw [e1, e2, ob_s, ob_s, if_pos rfl, if_pos rfl]
    exact ⟨_, rfl, rfl⟩
  · obtain ⟨e1, e2⟩ := isKind_yes (fu := fu) (m := m) (w := zs w z) hj
    rw [e1, e2, ob_s, ob_s, if_neg (show ¬ (1 : Int32) = 0 by decide), if_neg (show ¬ (1 : Int32) = 0 by decide)]
    rw [ln_v hj, oq_s, bd_s, ia_19, gd_in _ (by omega) (by omega), tn (19 + j) (by omega), zs_at, v_pass h hj]
    exact ⟨_, rfl, rfl⟩)
theorem ok_queued (fu : Nat) (x : Int32) : CallOK (F_X6_queued fu x) (F_X7_queued fu x) := get_ok (fun m w z M c h hi _ => by
  unfold F_X6_queued F_X7_queued
  rcases pk_ix x (n := 3) (by decide) with e | e | ⟨j, hj, rfl⟩
  · obtain ⟨e1, e2⟩ := isKind_no (fu := fu) (m := m) (w := zs w z) (Or.inl e)
    rw [e1, e2, ob_s, ob_s, if_pos rfl, if_pos rfl]
    exact ⟨_, rfl, rfl⟩
  · obtain ⟨e1, e2⟩ := isKind_no (fu := fu) (m := m) (w := zs w z) (Or.inr e)
    rw [e1, e2, ob_s, ob_s, if_pos rfl, if_pos rfl]
    exact ⟨_, rfl, rfl⟩
  · obtain ⟨e1, e2⟩ := isKind_yes (fu := fu) (m := m) (w := zs w z) hj
    rw [e1, e2, ob_s, ob_s, if_neg (show ¬ (1 : Int32) = 0 by decide), if_neg (show ¬ (1 : Int32) = 0 by decide)]
    rw [ln_v hj, oq_s, bd_s, ia_25, gd_in _ (by omega) (by omega), tn (25 + j) (by omega), zs_at, v_len h hj]
    exact ⟨_, rfl, rfl⟩)
theorem ok_worked (fu : Nat) (x : Int32) : CallOK (F_X6_worked fu x) (F_X7_worked fu x) := get_ok (fun m w z M c h hi _ => by
  unfold F_X6_worked F_X7_worked
  rcases pk_ix x (n := 3) (by decide) with e | e | ⟨j, hj, rfl⟩
  · obtain ⟨e1, e2⟩ := isKind_no (fu := fu) (m := m) (w := zs w z) (Or.inl e)
    rw [e1, e2, ob_s, ob_s, if_pos rfl, if_pos rfl]
    exact ⟨_, rfl, rfl⟩
  · obtain ⟨e1, e2⟩ := isKind_no (fu := fu) (m := m) (w := zs w z) (Or.inr e)
    rw [e1, e2, ob_s, ob_s, if_pos rfl, if_pos rfl]
    exact ⟨_, rfl, rfl⟩
  · obtain ⟨e1, e2⟩ := isKind_yes (fu := fu) (m := m) (w := zs w z) hj
    rw [e1, e2, ob_s, ob_s, if_neg (show ¬ (1 : Int32) = 0 by decide), if_neg (show ¬ (1 : Int32) = 0 by decide)]
    rw [ln_v hj, oq_s, bd_s, ia_22, gd_in _ (by omega) (by omega), tn (22 + j) (by omega), zs_at, v_wk h hj]
    exact ⟨_, rfl, rfl⟩)
theorem ok_classSetting (fu : Nat) (x : Int32) (y : Int32) : CallOK (F_X6_classSetting fu x y) (F_X7_classSetting fu x y) := get_ok (fun m w z M c h hi _ => by
  unfold F_X6_classSetting F_X7_classSetting
  rcases pk_ix x (n := 3) (by decide) with e | e | ⟨j, hj, rfl⟩
  · obtain ⟨e1, e2⟩ := isKind_no (fu := fu) (m := m) (w := zs w z) (Or.inl e)
    rw [e1, e2, ob_s, ob_s, if_pos rfl, if_pos rfl]
    exact ⟨_, rfl, rfl⟩
  · obtain ⟨e1, e2⟩ := isKind_no (fu := fu) (m := m) (w := zs w z) (Or.inr e)
    rw [e1, e2, ob_s, ob_s, if_pos rfl, if_pos rfl]
    exact ⟨_, rfl, rfl⟩
  · obtain ⟨e1, e2⟩ := isKind_yes (fu := fu) (m := m) (w := zs w z) hj
    rw [e1, e2, ob_s, ob_s, if_neg (show ¬ (1 : Int32) = 0 by decide), if_neg (show ¬ (1 : Int32) = 0 by decide)]
    rcases pk_ix y (n := 4) (by decide) with e | e | ⟨i, hi4, rfl⟩
    · obtain ⟨e1, e2⟩ := isSet_no (fu := fu) (m := m) (w := zs w z) (Or.inl e)
      rw [e1, e2, ob_s, ob_s, if_pos rfl, if_pos rfl]
      exact ⟨_, rfl, rfl⟩
    · obtain ⟨e1, e2⟩ := isSet_no (fu := fu) (m := m) (w := zs w z) (Or.inr e)
      rw [e1, e2, ob_s, ob_s, if_pos rfl, if_pos rfl]
      exact ⟨_, rfl, rfl⟩
    · obtain ⟨e1, e2⟩ := isSet_yes (fu := fu) (m := m) (w := zs w z) hi4
      rw [e1, e2, ob_s, ob_s, if_neg (by decide), if_neg (by decide), ln_v hj, oq_s, at_v hi4 (by decide), ob_s, ofc_v hj hi4, ob_s, v_cls h hj hi4]
      exact ⟨_, rfl, rfl⟩)
theorem ok_queuedAt (fu : Nat) (x : Int32) (y : Int32) : CallOK (F_X6_queuedAt fu x y) (F_X7_queuedAt fu x y) := get_ok (fun m w z M c h hi _ => by
  unfold F_X6_queuedAt F_X7_queuedAt
  rcases pk_ix x (n := 3) (by decide) with e | e | ⟨j, hj, rfl⟩
  · obtain ⟨e1, e2⟩ := isKind_no (fu := fu) (m := m) (w := zs w z) (Or.inl e)
    rw [e1, e2, ob_s, ob_s, if_pos rfl, if_pos rfl]
    exact ⟨_, rfl, rfl⟩
  · obtain ⟨e1, e2⟩ := isKind_no (fu := fu) (m := m) (w := zs w z) (Or.inr e)
    rw [e1, e2, ob_s, ob_s, if_pos rfl, if_pos rfl]
    exact ⟨_, rfl, rfl⟩
  · obtain ⟨e1, e2⟩ := isKind_yes (fu := fu) (m := m) (w := zs w z) hj
    rw [e1, e2, ob_s, ob_s, if_neg (show ¬ (1 : Int32) = 0 by decide), if_neg (show ¬ (1 : Int32) = 0 by decide)]
    obtain ⟨x1, x2, -⟩ := hi.2.2.1 j hj
    by_cases c1 : 0 ≤ y
    · rw [if_pos c1, if_pos c1, ln_v hj, oq_s, bd_s, ia_25, gd_in _ (by omega) (by omega), tn (25 + j) (by omega), zs_at, v_len h hj]
      by_cases c2 : z (25 + j) ≤ y
      · rw [if_pos c2, if_pos c2]
        exact ⟨_, rfl, rfl⟩
      · rcases pk_ix y (n := 8) (by decide) with e | e | ⟨p, hp, rfl⟩
        · exact absurd c1 (Int32.not_le.mpr e)
        · exfalso
          apply c2
          rw [x1]
          exact Int32.le_trans (nI_le x2 (by decide)) e
        · rw [if_neg c2, if_neg c2, at_v hp (by decide), ob_s, inq_v hj hp, ob_s, v_que h hj hp]
          exact ⟨_, rfl, rfl⟩
    · rw [if_neg c1, if_neg c1]
      exact ⟨_, rfl, rfl⟩)
theorem ok_refused (fu : Nat) (x : Int32) (y : Int32) : CallOK (F_X6_refused fu x y) (F_X7_refused fu x y) := get_ok (fun m w z M c h hi _ => by
  unfold F_X6_refused F_X7_refused
  rcases pk_ix x (n := 3) (by decide) with e | e | ⟨j, hj, rfl⟩
  · obtain ⟨e1, e2⟩ := isKind_no (fu := fu) (m := m) (w := zs w z) (Or.inl e)
    rw [e1, e2, ob_s, ob_s, if_pos rfl, if_pos rfl]
    exact ⟨_, rfl, rfl⟩
  · obtain ⟨e1, e2⟩ := isKind_no (fu := fu) (m := m) (w := zs w z) (Or.inr e)
    rw [e1, e2, ob_s, ob_s, if_pos rfl, if_pos rfl]
    exact ⟨_, rfl, rfl⟩
  · obtain ⟨e1, e2⟩ := isKind_yes (fu := fu) (m := m) (w := zs w z) hj
    rw [e1, e2, ob_s, ob_s, if_neg (show ¬ (1 : Int32) = 0 by decide), if_neg (show ¬ (1 : Int32) = 0 by decide)]
    by_cases c1 : y < 1
    · rw [if_pos c1, in_lo c1, ob_s, if_pos rfl]
      exact ⟨_, rfl, rfl⟩
    · rw [if_neg c1]
      by_cases c2 : y ≤ 5
      · rcases pk_ix y (n := 6) (by decide) with e | e | ⟨i, hi6, rfl⟩
        · exfalso
          apply c1
          exact Int32.lt_of_lt_of_le e (by decide)
        · exfalso
          have := lt_of_les (n := 5) (by decide) e
          exact absurd c2 (Int32.not_le.mpr this)
        · obtain ⟨i, rfl⟩ : ∃ i', i = i' + 1 := by
            refine ⟨i - 1, ?_⟩
            rcases Nat.eq_zero_or_pos i with e0 | e0
            · exfalso
              subst e0
              exact c1 (by decide)
            · omega
          rw [if_pos c2, show F_X7_in fu (nI (i + 1)) 1 5 (zs w z) = some (1, zs w z) from in_yes (a := 1) (b := 5) (by omega) (by omega) (by decide), ob_s, if_neg (by decide), ln_v hj, oq_s, at_v hi6 (by decide), ob_s, bd_s, bd_s, bd_s, bd_s, im_5, ia_52, nI_add, show 52 + 5 * j + (i + 1) = 52 + 5 * j + i + 1 from rfl, nI_pred, gd_in _ (by omega) (by omega), tn (52 + 5 * j + i) (by omega), zs_at, v_ref h hj (show i < 5 by omega)]
          exact ⟨_, rfl, rfl⟩
      · rw [if_neg c2, in_hi (Int32.not_le.mp c2), ob_s, if_pos rfl]
        exact ⟨_, rfl, rfl⟩)
theorem Inv_back {z : Nat → Int32} {M c B k : Nat} (hi : Inv z M c B 99) (hk : k < 3) : z (25 + k) = nI (ln z k) ∧ ln z k ≤ 8 ∧ (∀ p, p < ln z k → ∃ q, q < 32 ∧ z (28 + 8 * k + p) = nI q) ∧ ∀ p, p < ln z k → ∃ q, q < M ∧ q ≠ 99 ∧ z (28 + 8 * k + p) = nI q := by
  obtain ⟨x1, x2, x3⟩ := hi.2.2.1 k hk
  exact ⟨x1, x2, IQ_q hi.2.2.1 hi.1.2.1 hk, fun p hp => by obtain ⟨q, a1, a2, a3, -⟩ := x3 p hp; exact ⟨q, a1, a2, a3⟩⟩
theorem ok_backlog (fu : Nat) (hf : 9 < fu) (x : Int32) : CallOK (F_X6_backlog fu x) (F_X7_backlog fu x) := get_ok (fun m w z M c h hi _ => by
  unfold F_X6_backlog F_X7_backlog
  rcases pk_ix x (n := 3) (by decide) with e | e | ⟨j, hj, rfl⟩
  · obtain ⟨e1, e2⟩ := isKind_no (fu := fu) (m := m) (w := zs w z) (Or.inl e)
    rw [e1, e2, ob_s, ob_s, if_pos rfl, if_pos rfl]
    exact ⟨_, rfl, rfl⟩
  · obtain ⟨e1, e2⟩ := isKind_no (fu := fu) (m := m) (w := zs w z) (Or.inr e)
    rw [e1, e2, ob_s, ob_s, if_pos rfl, if_pos rfl]
    exact ⟨_, rfl, rfl⟩
  · obtain ⟨e1, e2⟩ := isKind_yes (fu := fu) (m := m) (w := zs w z) hj
    rw [e1, e2, ob_s, ob_s, if_neg (show ¬ (1 : Int32) = 0 by decide), if_neg (show ¬ (1 : Int32) = 0 by decide)]
    obtain ⟨x1, x2, x3, x4⟩ := Inv_back hi hj
    have eb : F_X4_backlogOf fu 1 (1 + (5 + 7 * j)) m = some (zBack z j 0 (ln z j) 0, m) := s_back h hj hi.1.2.1 hi.1.1 x1 x2 x4 (ln z j) fu 0 0 (by omega) (by omega)
    rw [ln_v hj, oq_s, eb, ob_s, m_backlog hj x2 x1 x3 hf, ob_s]
    exact ⟨_, rfl, rfl⟩)
theorem ok_wouldRefuse (fu : Nat) (hf : 9 < fu) (x : Int32) (y : Int32) : CallOK (F_X6_wouldRefuse fu x y) (F_X7_wouldRefuse fu x y) := get_ok (fun m w z M c h hi _ => by
  unfold F_X6_wouldRefuse F_X7_wouldRefuse
  rcases pk_ix x (n := 3) (by decide) with e | e | ⟨j, hj, rfl⟩
  · obtain ⟨e1, e2⟩ := isKind_no (fu := fu) (m := m) (w := zs w z) (Or.inl e)
    rw [e1, e2, ob_s, ob_s, if_pos rfl, if_pos rfl]
    exact ⟨_, rfl, rfl⟩
  · obtain ⟨e1, e2⟩ := isKind_no (fu := fu) (m := m) (w := zs w z) (Or.inr e)
    rw [e1, e2, ob_s, ob_s, if_pos rfl, if_pos rfl]
    exact ⟨_, rfl, rfl⟩
  · obtain ⟨e1, e2⟩ := isKind_yes (fu := fu) (m := m) (w := zs w z) hj
    rw [e1, e2, ob_s, ob_s, if_neg (show ¬ (1 : Int32) = 0 by decide), if_neg (show ¬ (1 : Int32) = 0 by decide)]
    rcases pk_ix y (n := 5) (by decide) with e | e | ⟨s, hs, rfl⟩
    · obtain ⟨e1, e2⟩ := isShape_no (fu := fu) (m := m) (w := zs w z) (Or.inl e)
      rw [e1, e2, ob_s, ob_s, if_pos rfl, if_pos rfl]
      exact ⟨_, rfl, rfl⟩
    · obtain ⟨e1, e2⟩ := isShape_no (fu := fu) (m := m) (w := zs w z) (Or.inr e)
      rw [e1, e2, ob_s, ob_s, if_pos rfl, if_pos rfl]
      exact ⟨_, rfl, rfl⟩
    · obtain ⟨e1, e2⟩ := isShape_yes (fu := fu) (m := m) (w := zs w z) hs
      obtain ⟨x1, x2, x3, x4⟩ := Inv_back hi hj
      obtain ⟨d, d1, d2, d3⟩ := IS_div hi.2.1 hj
      rw [e1, e2, ob_s, ob_s, if_neg (by decide), if_neg (by decide), ln_v hj, oq_s, s_cost h hs, ob_s, m_cost hs, ob_s, s_why h hi hj hf, ob_s, m_why hj x2 x1 x3 (by rw [d3]; exact nI_n0 d1 d2) hf, ob_s]
      exact ⟨_, rfl, rfl⟩)
theorem ok_state (fu : Nat) (x : Int32) : CallOK (F_X6_state fu x) (F_X7_state fu x) := get_ok (fun m w z M c h hi _ => by
  have hM := hi.1.2.1
  unfold F_X6_state F_X7_state F_X7_told
  rcases pk_ix x (n := M) (by omega) with e | e | ⟨r, hr, rfl⟩
  · rw [fd_no (Or.inl e) (by rw [v_cnt h]; exact hi.1.1), oq_n, isReq_no hi (Or.inl e), ob_s, if_pos rfl, ob_s]
    exact ⟨_, rfl, rfl⟩
  · rw [fd_no (Or.inr e) (by rw [v_cnt h]; exact hi.1.1), oq_n, isReq_no hi (Or.inr e), ob_s, if_pos rfl, ob_s]
    exact ⟨_, rfl, rfl⟩
  · rw [fd_v hr hM (by rw [v_cnt h]; exact hi.1.1), oq_s, isReq_yes hi hr, ob_s, if_neg (by decide), of_3 (by omega), ob_s, ob_s, v_sta h hr (by omega)]
    exact ⟨_, rfl, rfl⟩)
theorem ok_price (fu : Nat) (x : Int32) : CallOK (F_X6_price fu x) (F_X7_price fu x) := get_ok (fun m w z M c h hi _ => by
  have hM := hi.1.2.1
  unfold F_X6_price F_X7_price F_X7_told
  rcases pk_ix x (n := M) (by omega) with e | e | ⟨r, hr, rfl⟩
  · rw [fd_no (Or.inl e) (by rw [v_cnt h]; exact hi.1.1), oq_n, isReq_no hi (Or.inl e), ob_s, if_pos rfl, ob_s]
    exact ⟨_, rfl, rfl⟩
  · rw [fd_no (Or.inr e) (by rw [v_cnt h]; exact hi.1.1), oq_n, isReq_no hi (Or.inr e), ob_s, if_pos rfl, ob_s]
    exact ⟨_, rfl, rfl⟩
  · rw [fd_v hr hM (by rw [v_cnt h]; exact hi.1.1), oq_s, isReq_yes hi hr, ob_s, if_neg (by decide), of_4 (by omega), ob_s, ob_s, v_prc h hr (by omega)]
    exact ⟨_, rfl, rfl⟩)
theorem ok_done (fu : Nat) (x : Int32) : CallOK (F_X6_done fu x) (F_X7_done fu x) := get_ok (fun m w z M c h hi _ => by
  have hM := hi.1.2.1
  unfold F_X6_done F_X7_done F_X7_told
  rcases pk_ix x (n := M) (by omega) with e | e | ⟨r, hr, rfl⟩
  · rw [fd_no (Or.inl e) (by rw [v_cnt h]; exact hi.1.1), oq_n, isReq_no hi (Or.inl e), ob_s, if_pos rfl, ob_s]
    exact ⟨_, rfl, rfl⟩
  · rw [fd_no (Or.inr e) (by rw [v_cnt h]; exact hi.1.1), oq_n, isReq_no hi (Or.inr e), ob_s, if_pos rfl, ob_s]
    exact ⟨_, rfl, rfl⟩
  · rw [fd_v hr hM (by rw [v_cnt h]; exact hi.1.1), oq_s, isReq_yes hi hr, ob_s, if_neg (by decide), of_5 (by omega), ob_s, ob_s, v_unt h hr]
    exact ⟨_, rfl, rfl⟩)
theorem ok_offers (fu : Nat) (x : Int32) : CallOK (F_X6_offers fu x) (F_X7_offers fu x) := get_ok (fun m w z M c h hi _ => by
  have hM := hi.1.2.1
  unfold F_X6_offers F_X7_offers F_X7_told
  rcases pk_ix x (n := M) (by omega) with e | e | ⟨r, hr, rfl⟩
  · rw [fd_no (Or.inl e) (by rw [v_cnt h]; exact hi.1.1), oq_n, isReq_no hi (Or.inl e), ob_s, if_pos rfl, ob_s]
    exact ⟨_, rfl, rfl⟩
  · rw [fd_no (Or.inr e) (by rw [v_cnt h]; exact hi.1.1), oq_n, isReq_no hi (Or.inr e), ob_s, if_pos rfl, ob_s]
    exact ⟨_, rfl, rfl⟩
  · rw [fd_v hr hM (by rw [v_cnt h]; exact hi.1.1), oq_s, isReq_yes hi hr, ob_s, if_neg (by decide), of_6 (by omega), ob_s, ob_s, v_ofr h hr]
    exact ⟨_, rfl, rfl⟩)
theorem ok_reason (fu : Nat) (x : Int32) : CallOK (F_X6_reason fu x) (F_X7_reason fu x) := get_ok (fun m w z M c h hi _ => by
  have hM := hi.1.2.1
  unfold F_X6_reason F_X7_reason F_X7_told
  rcases pk_ix x (n := M) (by omega) with e | e | ⟨r, hr, rfl⟩
  · rw [fd_no (Or.inl e) (by rw [v_cnt h]; exact hi.1.1), oq_n, isReq_no hi (Or.inl e), ob_s, if_pos rfl, ob_s]
    exact ⟨_, rfl, rfl⟩
  · rw [fd_no (Or.inr e) (by rw [v_cnt h]; exact hi.1.1), oq_n, isReq_no hi (Or.inr e), ob_s, if_pos rfl, ob_s]
    exact ⟨_, rfl, rfl⟩
  · rw [fd_v hr hM (by rw [v_cnt h]; exact hi.1.1), oq_s, isReq_yes hi hr, ob_s, if_neg (by decide), of_7 (by omega), ob_s, ob_s, v_rea h hr]
    exact ⟨_, rfl, rfl⟩)
theorem ok_when (fu : Nat) (x : Int32) : CallOK (F_X6_when fu x) (F_X7_when fu x) := get_ok (fun m w z M c h hi _ => by
  have hM := hi.1.2.1
  unfold F_X6_when F_X7_when F_X7_told
  rcases pk_ix x (n := M) (by omega) with e | e | ⟨r, hr, rfl⟩
  · rw [fd_no (Or.inl e) (by rw [v_cnt h]; exact hi.1.1), oq_n, isReq_no hi (Or.inl e), ob_s, if_pos rfl, ob_s]
    exact ⟨_, rfl, rfl⟩
  · rw [fd_no (Or.inr e) (by rw [v_cnt h]; exact hi.1.1), oq_n, isReq_no hi (Or.inr e), ob_s, if_pos rfl, ob_s]
    exact ⟨_, rfl, rfl⟩
  · have r99 : r ≠ 99 := by omega
    obtain ⟨⟨n, n1, n2, n3⟩, -, s3⟩ := (hi.2.2.2.2.1 r hr).2.2.2 r99
    rw [fd_v hr hM (by rw [v_cnt h]; exact hi.1.1), oq_s, isReq_yes hi hr, ob_s, if_neg (show ¬ (1 : Int32) = 0 by decide), of_8 (by omega), ob_s, ob_s, v_sta h hr r99]
    by_cases c1 : z (78 + 10 * r) = 3
    · rw [if_pos c1, (h.2.2.1 r hr r99).1 (Or.inr c1)]
      exact ⟨_, rfl, rfl⟩
    · rw [if_neg c1]
      by_cases c2 : z (78 + 10 * r) = 2
      · rw [if_pos c2, (h.2.2.1 r hr r99).1 (Or.inl c2)]
        exact ⟨_, rfl, rfl⟩
      · rw [if_neg c2, s3]
        · exact ⟨_, rfl, rfl⟩
        · rw [n3] at c1 c2 ⊢
          rcases (show n = 0 ∨ n = 1 ∨ n = 2 ∨ n = 3 ∨ n = 4 by omega) with rfl | rfl | rfl | rfl | rfl
          · exact Or.inl rfl
          · exact Or.inr (Or.inl rfl)
          · exact absurd rfl c2
          · exact absurd rfl c1
          · exact Or.inr (Or.inr rfl))
