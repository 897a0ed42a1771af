/-! ===== the least capacity ===== -/
theorem n400 {x : Nat} (h : x ≤ 400) : ¬ (400 : Int32) < nI x := fun q => by
  have := (nI_ltI (a := 400) (b := x) (by decide) (by omega)).mp q
  omega
theorem m_end {fu M : Nat} {w : Mem} (hf : 500 < fu) : ∀ (d n x c : Nat) (z : Nat → Int32), x + d = 401 → d < n → Inv z M c (pB c) 99 → c + d ≤ 2000 → ∃ x' z', F_X7_ticksToEnd_L2 fu n (nI x) (zs w z) = some (nI x', zs w z') ∧ x' ≤ 401 ∧ S4 z z' ∧ z' 69 = nI M := by
  intro d
  induction d with
  | zero =>
    intro n x c z hx hn hi hc
    have hM := hi.1.2.1
    obtain ⟨n, rfl⟩ : ∃ i, n = i + 1 := ⟨n - 1, by omega⟩
    obtain rfl : x = 401 := by omega
    rw [F_X7_ticksToEnd_L2, m_isOver hi.1.1 hM (by omega), ob_s]
    refine ⟨401, z, ?_, by omega, S4_rf, hi.1.1⟩
    by_cases e : opn z M = 0
    · rw [if_pos e, if_neg (show ¬ (1 : Int32) = 0 by decide)]
    · rw [if_neg e, if_pos (show (0 : Int32) = 0 from rfl), if_pos (show (400 : Int32) < nI 401 by decide)]
  | succ d ih =>
    intro n x c z hx hn hi hc
    have hM := hi.1.2.1
    obtain ⟨n, rfl⟩ : ∃ i, n = i + 1 := ⟨n - 1, by omega⟩
    rw [F_X7_ticksToEnd_L2, m_isOver hi.1.1 hM (by omega), ob_s]
    by_cases e : opn z M = 0
    · rw [if_pos e, if_neg (show ¬ (1 : Int32) = 0 by decide)]
      exact ⟨x, z, rfl, by omega, S4_rf, hi.1.1⟩
    · rw [if_neg e, if_pos (show (0 : Int32) = 0 from rfl), if_neg (n400 (by omega)), m_tick hi (pB_lt (by omega)) (by omega), ob_s, bd_s, nI_1]
      obtain ⟨x', z', k1, k2, k3, k4⟩ := ih n (x + 1) (c + 1) _ (by omega) (by omega) (Inv_tickB hi (by omega)) (by omega)
      exact ⟨x', z', k1, k2, S4_tr (S4_tick hi (by omega)) k3, k4⟩
theorem l55 {fu M R : Nat} {a : Int32} {m : Mem} {z : Nat → Int32} (h : Rel 60 m z M 99) (hM : M ≤ 32) (hR : m 1 8 = nI R) (hR2 : R ≤ 32) : F_X6_trialEndsWithoutRejection_L55 fu a m = some (if opn z M = 0 ∧ rj z M = R then 1 else 0, m) := by
  have ol := opn_le z M
  have rl := rj_le z M
  unfold F_X6_trialEndsWithoutRejection_L55
  rw [o7 h, o8 h, hR]
  by_cases e : opn z M = 0
  · rw [if_pos (by rw [e]; rfl)]
    by_cases e2 : rj z M = R
    · rw [if_pos (by rw [e2]), if_pos ⟨e, e2⟩]
    · rw [if_neg (fun q => e2 ((nI_eq (by omega) (by omega)).mp q)), if_neg (fun q => e2 q.2)]
  · rw [if_neg (nI_ne0 (by omega) (by omega)), if_neg (fun q => e q.1)]
theorem w_least {fu M R : Nat} {a : Int32} (hf : 500 < fu) (hR2 : R ≤ 32) : ∀ (d n n' x c : Nat) (m w : Mem) (z : Nat → Int32), x + d = 400 → d < n → d + 1 < n' → Rel 60 m z M 99 → Inv z M c (pB c) 99 → c + d + 1 ≤ 2000 → m 1 8 = nI R → R ≤ rj z M → ∃ x' z' m' r, F_X6_trialEndsWithoutRejection_L7 fu a n (nI x) m = some (r, m') ∧ Fr 60 m m' ∧ RN 60 m' ∧ F_X7_ticksToEnd_L2 fu n' (nI x) (zs w z) = some (nI x', zs w z') ∧ x' ≤ 401 ∧ z' 69 = nI M ∧ r = if x' ≤ 400 ∧ rj z' M = R then 1 else 0 := by
  have over : ∀ (n' x : Nat) (m w : Mem) (z : Nat → Int32) (c : Nat), x ≤ 400 → Rel 60 m z M 99 → Inv z M c (pB c) 99 → m 1 8 = nI R → opn z M = 0 → ∃ x' z' m' r, F_X6_trialEndsWithoutRejection_L55 fu a m = some (r, m') ∧ Fr 60 m m' ∧ RN 60 m' ∧ F_X7_ticksToEnd_L2 fu (n' + 1) (nI x) (zs w z) = some (nI x', zs w z') ∧ x' ≤ 401 ∧ z' 69 = nI M ∧ r = if x' ≤ 400 ∧ rj z' M = R then 1 else 0 := by
    intro n' x m w z c hx h hi hR e
    have hM := hi.1.2.1
    rw [l55 h hM hR hR2, F_X7_ticksToEnd_L2, m_isOver hi.1.1 hM (by omega), ob_s, if_pos e, if_neg (show ¬ (1 : Int32) = 0 by decide)]
    refine ⟨x, z, m, _, rfl, Fr_rf, h.2.2.2.2, rfl, by omega, hi.1.1, ?_⟩
    by_cases e2 : rj z M = R
    · rw [if_pos ⟨e, e2⟩, if_pos ⟨hx, e2⟩]
    · rw [if_neg (fun q => e2 q.2), if_neg (fun q => e2 q.2)]
  intro d
  induction d with
  | zero =>
    intro n n' x c m w z hx hn hn' h hi hc hR hRz
    have hM := hi.1.2.1
    obtain ⟨n, rfl⟩ : ∃ i, n = i + 1 := ⟨n - 1, by omega⟩
    obtain ⟨n', rfl⟩ : ∃ i, n' = i + 1 := ⟨n' - 1, by omega⟩
    obtain rfl : x = 400 := by omega
    rw [F_X6_trialEndsWithoutRejection_L7, if_pos (show (400 : Int32) ≤ nI 400 by decide)]
    by_cases e : opn z M = 0
    · exact over n' 400 m w z c (by omega) h hi hR e
    · rw [l55 h hM hR hR2, if_neg (fun q => e q.1), F_X7_ticksToEnd_L2, m_isOver hi.1.1 hM (by omega), ob_s, if_neg e, if_pos (show (0 : Int32) = 0 from rfl), if_neg (n400 (by omega)), m_tick hi (pB_lt (by omega)) (by omega), ob_s, bd_s, nI_1]
      obtain ⟨n', rfl⟩ : ∃ i, n' = i + 1 := ⟨n' - 1, by omega⟩
      have hi2 := Inv_tickB hi (by omega)
      refine ⟨401, _, m, _, rfl, Fr_rf, h.2.2.2.2, ?_, by omega, hi2.1.1, (if_neg (by omega)).symm⟩
      rw [F_X7_ticksToEnd_L2, m_isOver hi2.1.1 hM (by omega), ob_s]
      by_cases e2 : opn (zTick z M).2 M = 0
      · rw [if_pos e2, if_neg (show ¬ (1 : Int32) = 0 by decide)]
      · rw [if_neg e2, if_pos (show (0 : Int32) = 0 from rfl), if_pos (show (400 : Int32) < nI (400 + 1) by decide)]
  | succ d ih =>
    intro n n' x c m w z hx hn hn' h hi hc hR hRz
    have hM := hi.1.2.1
    obtain ⟨n, rfl⟩ : ∃ i, n = i + 1 := ⟨n - 1, by omega⟩
    obtain ⟨n', rfl⟩ : ∃ i, n' = i + 1 := ⟨n' - 1, by omega⟩
    have ol := opn_le z M
    have rl := rj_le z M
    rw [F_X6_trialEndsWithoutRejection_L7, if_neg (show ¬ (400 : Int32) ≤ nI x from nI_ge (show x < 400 by omega) (by decide)), o7 h, o8 h, hR]
    by_cases e : opn z M = 0
    · rw [if_pos (show nI (opn z M) ≤ 0 by rw [e]; decide)]
      exact over n' x m w z c (by omega) h hi hR e
    · rw [if_neg (nI_nle (by omega) (by omega))]
      by_cases e2 : rj z M = R
      · obtain ⟨m1, e1, h1, f1⟩ := s_tick (fu := fu) h hi (pB_lt (by omega)) (by omega)
        rw [if_pos (by rw [e2]), e1, ob_s, bd_s, nI_1, F_X7_ticksToEnd_L2, m_isOver hi.1.1 hM (by omega), ob_s, if_neg e, if_pos (show (0 : Int32) = 0 from rfl), if_neg (n400 (by omega)), m_tick hi (pB_lt (by omega)) (by omega), ob_s, bd_s, nI_1]
        obtain ⟨x', z', m', r, k1, k2, k3, k4, k5, k6, k7⟩ := ih n n' (x + 1) (c + 1) m1 w _ (by omega) (by omega) (by omega) h1 (Inv_tickB hi (by omega)) (by omega) (by rw [f1 1 (by omega)]; exact hR) (Nat.le_trans hRz (rj_mono hM (S4_tick hi (by omega))))
        exact ⟨x', z', m', r, k1, Fr_tr f1 k2, k3, k4, k5, k6, k7⟩
      · obtain ⟨x', z', k1, k2, k3, k4⟩ := m_end (w := w) hf (401 - x) (n' + 1) x c z (by omega) (by omega) hi (by omega)
        have mo := rj_mono hM k3
        rw [if_neg (fun q => e2 ((nI_eq (by omega) (by omega)).mp q)), l55 h hM hR hR2, if_neg (fun q => e q.1)]
        exact ⟨x', z', m, _, rfl, Fr_rf, h.2.2.2.2, k1, k2, k4, (if_neg (by omega)).symm⟩
theorem w_cap {fu : Nat} (hf : 500 < fu) : ∀ (d n n' x : Nat) (m w : Mem), x + d = 21 → 1 ≤ x → d < n → d + 1 < n' → GR m w → ∃ r m' w', F_X6_leastCapacity_L2 fu n (nI x) m = some (r, m') ∧ F_X7_leastCapacity_L5 fu n' (-100005) (nI x) w = some (r, w') ∧ GR m' w' ∧ (∀ a, 359 ≤ a → m' a = m a) ∧ ∀ a, a < 359 → w' a = w a := by
  intro d
  induction d with
  | zero =>
    intro n n' x m w hx h1 hn hn' g
    obtain ⟨n, rfl⟩ : ∃ i, n = i + 1 := ⟨n - 1, by omega⟩
    obtain ⟨n', rfl⟩ : ∃ i, n' = i + 1 := ⟨n' - 1, by omega⟩
    obtain rfl : x = 21 := by omega
    rw [F_X6_leastCapacity_L2, if_pos (show (20 : Int32) < nI 21 by decide), F_X7_leastCapacity_L5, if_pos (show (20 : Int32) < nI 21 by decide)]
    exact act_no (-100005) g rfl rfl
  | succ d ih =>
    intro n n' x m w hx hx1 hn hn' g
    obtain ⟨n, rfl⟩ : ∃ i, n = i + 1 := ⟨n - 1, by omega⟩
    obtain ⟨n', rfl⟩ : ∃ i, n' = i + 1 := ⟨n' - 1, by omega⟩
    obtain ⟨M, c, h, hi, hc⟩ := g.1
    have hM := hi.1.2.1
    obtain ⟨z, ez⟩ : ∃ z, z = w 360 := ⟨_, rfl⟩
    have ew : w = zs w z := by rw [ez, zs_self]
    rw [← ez] at h hi
    have g' : GR m (zs w z) := by rw [← ew]; exact g
    have n20 : ¬ (20 : Int32) < nI x := fun q => by
      have := (nI_ltI (a := 20) (b := x) (by decide) (by omega)).mp q
      omega
    obtain ⟨m1, e1, h1, i1, f1⟩ := s_begin (fu := fu) g' h hi hx1 (show x ≤ 20 by omega) (by omega)
    have er : rj (upd z 0 (nI x)) M = rj z M := Nat.le_antisymm (rj_mono hM (fun r e => by rw [upd_n _ _ (by omega)] at e; exact e)) (rj_mono hM (S4_up (fun r => by omega)))
    obtain ⟨x', z', m', r, k1, k2, k3, k4, k5, k6, k7⟩ := w_least (fu := fu) (a := nI x) hf (R := rj z M) (Nat.le_trans (rj_le _ _) hM) 400 fu fu 0 c m1 (mrow w 361 (cut z (w 361) 395)) _ (by omega) (by omega) (by omega) h1 i1 (by omega) (by rw [f1 1 (by omega)]; exact o8 h) (by rw [er]; exact Nat.le_refl _)
    obtain ⟨w', b1, b2, b3⟩ := back_at (fu := fu) (w := w) (z := z) (z' := z') (by omega)
    have gr : GR m' w' := GR_wi g (Fr_tr f1 k2) k3 (fun i hi' => by rw [b2 i hi', ez]) (b3 _ (by omega) (by omega)) (b3 _ (by omega) (by omega)) (b3 _ (by omega) (by omega))
    have fm : ∀ a, 359 ≤ a → m' a = m a := fun a ha => (Fr_tr f1 k2) a (by omega)
    have fw : ∀ a, a < 359 → w' a = w a := fun a ha => b3 _ (by omega) (by omega)
    rw [F_X6_leastCapacity_L2, if_neg n20]
    unfold F_X6_trialEndsWithoutRejection
    rw [e1, ov_s, show F_X6_trialEndsWithoutRejection_L7 fu (nI x) fu 0 m1 = some (r, m') from k1, ob_s]
    have mod : F_X7_leastCapacity_L5 fu (n' + 1) (-100005) (nI x) w = F_X7_leastCapacity_L5 fu n' (if x' ≤ 400 ∧ rj z' M = rj z M then nI x else -100005) (nI (x + 1)) w' := by
      have pa : F_X7_putAside fu w = some (zs (mrow w 361 (cut z (w 361) 395)) z) := by
        rw [ew, m_putAside (by omega), aside_at, zs_ne _ _ (show 361 ≠ 360 by omega)]
        have : mrow (zs w z) 361 (cut z (w 361) 395) = zs (mrow w 361 (cut z (w 361) 395)) z := by
          funext a
          by_cases q : a = 360
          · subst q; rw [mrow_ne _ _ (by omega), zs_at, zs_at]
          · rw [zs_ne _ _ q]
            by_cases q2 : a = 361
            · subst q2; rw [mrow_at, mrow_at]
            · rw [mrow_ne _ _ q2, mrow_ne _ _ q2, zs_ne _ _ q]
        rw [this, zs_zs]
      rw [F_X7_leastCapacity_L5, if_neg n20, if_neg (show ¬ (0 : Int32) ≤ -100005 by decide), pa, ov_s, m_inState hi.1.1 hM (by omega), ob_s, gl_0, bd_s, tl_0, mput_zs]
      unfold F_X7_ticksToEnd
      rw [show F_X7_ticksToEnd_L2 fu fu 0 (zs (mrow w 361 (cut z (w 361) 395)) (upd z 0 (nI x))) = some (nI x', zs (mrow w 361 (cut z (w 361) 395)) z') from k4, ob_s]
      unfold F_X7_leastCapacity_L60
      by_cases q : x' ≤ 400
      · rw [if_neg (n400 q), m_inState k6 hM (by omega), ob_s, cs_4 hM, cs_4 hM, b1, ov_s, bd_s, nI_1]
        by_cases q2 : rj z' M = rj z M
        · rw [if_pos (by rw [q2]), if_pos ⟨q, q2⟩]
        · rw [if_neg (fun e => q2 ((nI_eq (by have := rj_le z' M; omega) (by have := rj_le z M; omega)).mp e)), if_neg (fun e => q2 e.2), ov_s, bd_s]
      · rw [if_pos (show (400 : Int32) < nI x' from nI_lt (a := 400) (by omega) (by omega)), if_neg (fun e => q e.1), b1, ov_s, bd_s, nI_1]
    rw [mod, k7]
    by_cases q : x' ≤ 400 ∧ rj z' M = rj z M
    · rw [if_pos q, if_pos q, if_neg (show ¬ (1 : Int32) = 0 by decide)]
      refine ⟨nI x, m', w', rfl, ?_, gr, fm, fw⟩
      obtain ⟨n', rfl⟩ : ∃ i, n' = i + 1 := ⟨n' - 1, by omega⟩
      rw [F_X7_leastCapacity_L5, if_pos (show (0 : Int32) ≤ nI x from nI_pos' (by omega))]
      by_cases q3 : (20 : Int32) < nI (x + 1)
      · rw [if_pos q3]
      · rw [if_neg q3]
    · rw [if_neg q, if_neg q, if_pos (show (0 : Int32) = 0 from rfl), bd_s, nI_1]
      obtain ⟨r2, m2, w2, a1, a2, a3, a4, a5⟩ := ih n n' (x + 1) m' w' (by omega) (by omega) (by omega) (by omega) gr
      exact ⟨r2, m2, w2, a1, a2, a3, fun a ha => (a4 a ha).trans (fm a ha), fun a ha => (a5 a ha).trans (fw a ha)⟩
theorem ok_least (fu : Nat) (hf : 500 < fu) : CallOK (F_X6_leastCapacity fu) (F_X7_leastCapacity fu) := fun m w g => by
  unfold F_X6_leastCapacity F_X7_leastCapacity
  exact w_cap (fu := fu) hf 20 fu fu 1 m w (by omega) (by omega) (by omega) (by omega) g
