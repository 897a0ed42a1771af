/-! ===== the run of the text ===== -/
theorem of_core {fu M c k s cost : Nat} {m w : Mem} {z : Nat → Int32} (h : Rel 1 m z M 99) (hi : Inv z M c (pB c) 99) (hc : c ≤ 999) (hk : k < 3) (hs : s < 5) (c1 : 1 ≤ cost) (c2 : cost ≤ 60) (hf : 9 < fu) : (F_X4_errorOfOffer fu 1 (nI k) (nI s) (nI cost) m = some (-100004, m) ∧ F_X7_noOffer fu (nI k) (nI s) (nI cost) (zs w z) = some (-100004, zs w z)) ∨ (F_X4_errorOfOffer fu 1 (nI k) (nI s) (nI cost) m = some (0, m) ∧ F_X7_noOffer fu (nI k) (nI s) (nI cost) (zs w z) = some (0, zs w z) ∧ ∃ r m' z' M' c', F_X4_offerNew fu 1 (nI k) (nI s) (nI cost) m = some (r, m') ∧ F_X7_doOffer fu (nI k) (nI s) (nI cost) (zs w z) = some (r, zs w z') ∧ Rel 1 m' z' M' 99 ∧ Inv z' M' c' (pB c') 99 ∧ c' ≤ 999 ∧ Fr 1 m m') := by
  have hM := hi.1.2.1
  obtain ⟨e1, e2⟩ := isKind_yes (fu := fu) (m := m) (w := zs w z) hk
  obtain ⟨e3, e4⟩ := isShape_yes (fu := fu) (m := m) (w := zs w z) hs
  have e5 : inr (nI cost) 1 60 = 1 := by
    rw [show inr (nI cost) 1 60 = inr (nI cost) (nI 1) (nI 60) from rfl, inr_b (by omega) (by omega) (by omega), if_pos ⟨c1, c2⟩]
  have l1 : F_X4_errorOfOffer fu 1 (nI k) (nI s) (nI cost) m = if nI M < 32 then some (0, m) else some (-100004, m) := by
    unfold F_X4_errorOfOffer
    rw [e1, ob_s, if_neg (show ¬ (1 : Int32) = 0 by decide), e3, ob_s, if_neg (show ¬ (1 : Int32) = 0 by decide), bt_r, e5, ob_s, if_neg (show ¬ (1 : Int32) = 0 by decide), v_cnt h, hi.1.1]
  have l2 : F_X7_noOffer fu (nI k) (nI s) (nI cost) (zs w z) = if nI M = 32 then some (-100004, zs w z) else some (0, zs w z) := by
    unfold F_X7_noOffer
    rw [e2, ob_s, if_neg (show ¬ (1 : Int32) = 0 by decide), e4, ob_s, if_neg (show ¬ (1 : Int32) = 0 by decide), in_r, e5, ob_s, if_neg (show ¬ (1 : Int32) = 0 by decide), gl_69, tl_69, zs_at, hi.1.1]
  rw [l1, l2]
  by_cases cM : M = 32
  · rw [if_neg (show ¬ nI M < 32 by subst cM; decide), if_pos (show nI M = 32 by subst cM; rfl)]
    exact Or.inl ⟨rfl, rfl⟩
  · have cM2 : M < 32 := by omega
    rw [if_pos (show nI M < 32 from nI_lt cM2 (by decide)), if_neg (show ¬ nI M = 32 from fun e => cM ((nI_eq (b := 32) (by omega) (by decide)).mp e))]
    obtain ⟨i1, i2, i3⟩ := Inv_new (s := s) (k := k) hi cM2 hk hs c1 c2
    obtain ⟨m2, y1, y2, y3⟩ := s_new (fu := fu) (k := k) (s := s) (cost := cost) h hi cM2 hk hs c1 c2 (by have := pB_lt (c := c) (by omega); omega) (by omega)
    exact Or.inr ⟨rfl, rfl, _, m2, _, M + 1, c, y1, m_doOffer hi cM2 hk hs c1 c2 (by omega), y2, Inv_offer i1 (by omega) hk hs (by have := pB_lt (c := c) (by omega); omega), hc, y3⟩
theorem ad_core {fu M c t : Nat} {m w : Mem} {z : Nat → Int32} (h : Rel 1 m z M 99) (hi : Inv z M c (pB c) 99) (hc : c ≤ 999) (t1 : 1 ≤ t) (t2 : t ≤ 99) (hf : 120 < fu) : (F_X4_errorOfTicks fu 1 (nI t) m = some (-100004, m) ∧ F_X7_noAdvance fu (nI t) (zs w z) = some (-100004, zs w z)) ∨ (F_X4_errorOfTicks fu 1 (nI t) m = some (0, m) ∧ F_X7_noAdvance fu (nI t) (zs w z) = some (0, zs w z) ∧ ∃ r m' z' M' c', F_X4_letPass fu 1 (nI t) m = some (r, m') ∧ F_X7_doAdvance fu (nI t) (zs w z) = some (r, zs w z') ∧ Rel 1 m' z' M' 99 ∧ Inv z' M' c' (pB c') 99 ∧ c' ≤ 999 ∧ Fr 1 m m') := by
  have e5 : inr (nI t) 1 99 = 1 := by
    rw [show inr (nI t) 1 99 = inr (nI t) (nI 1) (nI 99) from rfl, inr_b (by omega) (by omega) (by omega), if_pos ⟨t1, t2⟩]
  have l1 : F_X4_errorOfTicks fu 1 (nI t) m = if nI (c + t) ≤ 999 then some (0, m) else some (-100004, m) := by
    unfold F_X4_errorOfTicks
    rw [bt_r, e5, ob_s, if_neg (show ¬ (1 : Int32) = 0 by decide), bd_s, v_clk h, hi.1.2.2.1, nI_add]
  have l2 : F_X7_noAdvance fu (nI t) (zs w z) = if nI (c + t) ≤ 999 then some (0, zs w z) else some (-100004, zs w z) := by
    unfold F_X7_noAdvance
    rw [in_r, e5, ob_s, if_neg (show ¬ (1 : Int32) = 0 by decide), gl_67, tl_67, zs_at, bd_s, hi.1.2.2.1, nI_add]
  rw [l1, l2]
  by_cases cc : nI (c + t) ≤ 999
  · have ct : c + t ≤ 999 := (nI_leI (b := 999) (by omega) (by omega)).mp cc
    rw [if_pos cc, if_pos cc]
    obtain ⟨p1, p2⟩ := m_pass (fu := fu) (M := M) (w := w) t2 (by omega) t fu 0 c 0 z hi (by omega) (by omega) (by omega)
    obtain ⟨m2, y1, y2, y3⟩ := s_pass (fu := fu) (b := 1) (M := M) t2 (by omega) t fu 0 c 0 m z h hi (by omega) (by omega) (by omega)
    exact Or.inr ⟨rfl, rfl, _, m2, _, M, c + t, y1, p1, y2, p2, ct, y3⟩
  · rw [if_neg cc, if_neg cc]
    exact Or.inl ⟨rfl, rfl⟩
/-- the number behind the place p, as the class reads it -/
theorem s_num {fu L p mx : Nat} {C : Nat → Nat} {m w : Mem} (h : TX L C m w) (hm : mx = 60 ∨ mx = 99) (hn : nF (cT L C) p) (hp : p < L) (he : nE (cT L C) p mx = L ∨ cT L C (nE (cT L C) p mx) = 59) : F_X5_numberAt fu (nI p) m = some (nI (nN (cT L C) p mx), m) := by
  have hL := h.1
  obtain ⟨c1, -, -⟩ := cT_le h p
  obtain ⟨d1, d2, d3⟩ := cT_le h (p + 1)
  have n' : 49 ≤ cT L C p ∧ cT L C p ≤ 57 := hn
  unfold nE at he
  unfold F_X5_numberAt nN
  rw [s_at h hp, ob_s, bd_s, show (48 : Int32) = nI 48 from rfl, pk_sub (by omega), bd_s, nI_1, h.2.1]
  by_cases q : p + 1 < L
  · rw [if_neg (nI_ge q (by omega)), s_at h q, ob_s, show (57 : Int32) = nI 57 from rfl, bt_n (by omega) (by omega) (by omega), ob_s]
    by_cases e : 48 ≤ cT L C (p + 1) ∧ cT L C (p + 1) ≤ 57
    · by_cases e2 : 48 ≤ cT L C (p + 1) ∧ cT L C (p + 1) ≤ 57 ∧ 10 * (cT L C p - 48) + (cT L C (p + 1) - 48) ≤ mx
      · rw [if_pos e, if_neg (show ¬ (1 : Int32) = 0 by decide), if_pos e2, bd_s, show (10 : Int32) = nI 10 from rfl, pk_mul, s_at h q, ob_s, bd_s, nI_add, bd_s, pk_sub (by omega), show (cT L C p - 48) * 10 + cT L C (p + 1) - 48 = 10 * (cT L C p - 48) + (cT L C (p + 1) - 48) by omega]
      · exfalso
        rw [if_neg e2] at he
        omega
    · rw [if_neg e, if_pos (show (0 : Int32) = 0 from rfl), if_neg (fun x => e ⟨x.1, x.2.1⟩)]
  · rw [if_pos (nI_le (by omega) (by omega)), if_neg (fun x => by have := d3 (by omega); omega)]
theorem nN_r {c : Nat → Nat} {p mx : Nat} (hm : mx = 60 ∨ mx = 99) (hn : nF c p) : 1 ≤ nN c p mx ∧ nN c p mx ≤ mx := by
  have n' : 49 ≤ c p ∧ c p ≤ 57 := hn
  unfold nN
  split <;> omega
theorem sF_n {c : Nat → Nat} {a : Nat} (h : sF c a = none) : nF c (sP c a) ∧ (¬ c a = 43 → 48 ≤ c a ∧ c a ≤ 50 ∧ 97 ≤ c (a + 1) ∧ c (a + 1) ≤ 101) := by
  unfold sF at h
  unfold sP nF
  by_cases e : c a = 43
  · rw [if_pos e] at h ⊢
    by_cases n : 49 ≤ c (a + 1) ∧ c (a + 1) ≤ 57
    · exact ⟨n, fun q => absurd e q⟩
    · rw [if_neg n] at h; exact absurd h (by simp)
  · rw [if_neg e] at h ⊢
    by_cases e1 : 48 ≤ c a ∧ c a ≤ 50
    · rw [if_pos e1] at h
      by_cases e2 : 97 ≤ c (a + 1) ∧ c (a + 1) ≤ 101
      · rw [if_pos e2] at h
        by_cases n : 49 ≤ c (a + 2) ∧ c (a + 2) ≤ 57
        · exact ⟨n, fun _ => ⟨e1.1, e1.2, e2.1, e2.2⟩⟩
        · rw [if_neg n] at h; exact absurd h (by simp)
      · rw [if_neg e2] at h; exact absurd h (by simp)
    · rw [if_neg e1] at h; exact absurd h (by simp)
/-- what the chars of a step are not -/
theorem st_chars {c : Nat → Nat} {a i : Nat} (h : sF c a = none) (h1 : a ≤ i) (h2 : i < sE c a) : c i ≠ 59 := by
  obtain ⟨n, k⟩ := sF_n h
  have n' : 49 ≤ c (sP c a) ∧ c (sP c a) ≤ 57 := n
  unfold sE nE at h2
  by_cases e : c a = 43
  · have ep : sP c a = a + 1 := by unfold sP; rw [if_pos e]
    rw [ep] at h2 n'
    split at h2
    · rcases (show i = a ∨ i = a + 1 ∨ i = a + 1 + 1 by omega) with rfl | rfl | rfl <;> omega
    · rcases (show i = a ∨ i = a + 1 by omega) with rfl | rfl <;> omega
  · have ep : sP c a = a + 2 := by unfold sP; rw [if_neg e]
    have k' := k e
    rw [ep] at h2 n'
    split at h2
    · rcases (show i = a ∨ i = a + 1 ∨ i = a + 2 ∨ i = a + 2 + 1 by omega) with rfl | rfl | rfl | rfl <;> omega
    · rcases (show i = a ∨ i = a + 1 ∨ i = a + 2 by omega) with rfl | rfl | rfl <;> omega
/-- one step done on both sides -/
theorem t_step {fu L a M c : Nat} {C : Nat → Nat} {m w : Mem} {z : Nat → Int32} (hT : TX L C m (zs w z)) (h : Rel 1 m z M 99) (hi : Inv z M c (pB c) 99) (hc : c ≤ 999) (hs : sF (cT L C) a = none) (ha : a < L) (he : sE (cT L C) a ≤ L) (he2 : sE (cT L C) a = L ∨ cT L C (sE (cT L C) a) = 59) (hf : 120 < fu) : ∃ w1, F_X7_readStep fu (nI a) (zs w z) = some (nI (sE (cT L C) a), zs w1 z) ∧ W3 (zs w z) (zs w1 z) ∧ ((F_X6_takeStep fu (nI a) m = some (0, m) ∧ ∀ k20 x1 x2, (if 0 ≤ (zs w1 z) 359 6 then (ob (F_X7_noOffer fu ((zs w1 z) 359 6) ((zs w1 z) 359 7) ((zs w1 z) 359 8) (zs w1 z)) fun r68 m69 => F_X7_run_L76 fu k20 x1 x2 ((zs w1 z) 359 6) r68 m69) else (ob (F_X7_noAdvance fu ((zs w1 z) 359 8) (zs w1 z)) fun r70 m71 => F_X7_run_L76 fu k20 x1 x2 ((zs w1 z) 359 6) r70 m71)) = k20 (x1 + 0) x2 0 (zs w1 z)) ∨ ∃ m' z' M' c', F_X6_takeStep fu (nI a) m = some (1, m') ∧ Rel 1 m' z' M' 99 ∧ Inv z' M' c' (pB c') 99 ∧ c' ≤ 999 ∧ Fr 1 m m' ∧ ∀ k20 x1 x2, (if 0 ≤ (zs w1 z) 359 6 then (ob (F_X7_noOffer fu ((zs w1 z) 359 6) ((zs w1 z) 359 7) ((zs w1 z) 359 8) (zs w1 z)) fun r68 m69 => F_X7_run_L76 fu k20 x1 x2 ((zs w1 z) 359 6) r68 m69) else (ob (F_X7_noAdvance fu ((zs w1 z) 359 8) (zs w1 z)) fun r70 m71 => F_X7_run_L76 fu k20 x1 x2 ((zs w1 z) 359 6) r70 m71)) = k20 (x1 + 1) x2 1 (zs w1 z')) := by
  have hL := hT.1
  obtain ⟨c1, -, -⟩ := cT_le hT a
  obtain ⟨d1, -, -⟩ := cT_le hT (a + 1)
  obtain ⟨n, kk⟩ := sF_n hs
  obtain ⟨r, w', k1, k2, k3⟩ := m_step (fu := fu) hT (show a ≤ 80 by omega) (by omega)
  rcases k3 with ⟨f, x1, -⟩ | ⟨-, x2, x3, x4, x5⟩
  · rw [hs] at x1; exact absurd x1 (by simp)
  have ez : w' = zs w' z := by
    have : w' 360 = z := by rw [k2.1 360 (by omega), zs_at]
    rw [← this, zs_self]
  rw [ez] at k1 k2 x3 x4 x5
  rw [x2] at k1
  refine ⟨w', k1, k2, ?_⟩
  rw [x3]
  unfold F_X6_takeStep
  rw [s_at hT ha, ob_s]
  have no0 : ∀ k20 x1 x2 x4, F_X7_run_L76 fu k20 x1 x2 x4 (-100004) (zs w' z) = k20 (x1 + 0) x2 0 (zs w' z) := by
    intro k20 x1 x2 x4
    unfold F_X7_run_L76
    rw [if_neg (show ¬ (-100004 : Int32) = 0 by decide)]
    unfold F_X7_run_L84
    rw [if_pos (show (0 : Int32) = 0 from rfl)]
    unfold F_X7_run_L106
    rw [if_pos (show (0 : Int32) = 0 from rfl)]
    unfold F_X7_run_L125
    rw [if_pos (show (0 : Int32) = 0 from rfl), bd_s]
  by_cases e : cT L C a = 43
  · have ep : sP (cT L C) a = a + 1 := by unfold sP; rw [if_pos e]
    have em : sM (cT L C) a = 99 := by unfold sM; rw [if_pos e]
    have x4' := x4 e
    unfold sE at he he2
    unfold sN
    rw [ep] at n
    rw [ep, em] at he he2 ⊢
    have pL : a + 1 < L := by
      have q : 49 ≤ cT L C (a + 1) ∧ cT L C (a + 1) ≤ 57 := n
      rcases Nat.lt_or_ge (a + 1) L with y | y
      · exact y
      · have := (cT_le hT (a + 1)).2.2 y; omega
    obtain ⟨t1, t2⟩ := nN_r (mx := 99) (Or.inr rfl) n
    rw [if_pos (show nI (cT L C a) = 43 by rw [e]; rfl), bd_s, nI_1, s_num hT (Or.inr rfl) n pL he2, ob_s, x4']
    rcases ad_core (fu := fu) (w := w') h hi hc t1 t2 hf with ⟨y1, y2⟩ | ⟨y1, y2, r', m', z', M', c', y3, y4, y5, y6, y7, y8⟩
    · refine Or.inl ⟨by rw [y1, ob_s, if_neg (show ¬ (-100004 : Int32) = 0 by decide)], fun k20 x1 x2 => ?_⟩
      rw [if_neg (show ¬ (0 : Int32) ≤ -1 by decide), y2, ob_s, no0]
    · refine Or.inr ⟨m', z', M', c', by rw [y1, ob_s, if_pos (show (0 : Int32) = 0 from rfl), y3, ob_s], y5, y6, y7, y8, fun k20 x1 x2 => ?_⟩
      rw [if_neg (show ¬ (0 : Int32) ≤ -1 by decide), y2, ob_s]
      unfold F_X7_run_L76
      rw [if_pos (show (0 : Int32) = 0 from rfl)]
      unfold F_X7_run_L84
      rw [if_neg (show ¬ (1 : Int32) = 0 by decide), if_neg (show ¬ (0 : Int32) ≤ -1 by decide), x3]
      unfold sN
      rw [ep, em, y4, ob_s]
      unfold F_X7_run_L125
      rw [if_neg (show ¬ (1 : Int32) = 0 by decide), bd_s]
  · have ep : sP (cT L C) a = a + 2 := by unfold sP; rw [if_neg e]
    have em : sM (cT L C) a = 60 := by unfold sM; rw [if_neg e]
    obtain ⟨x5', x6'⟩ := x5 e
    obtain ⟨q1, q2, q3, q4⟩ := kk e
    unfold sE at he he2
    unfold sN
    rw [ep] at n
    rw [ep, em] at he he2 ⊢
    have pL : a + 2 < L := by
      have q : 49 ≤ cT L C (a + 2) ∧ cT L C (a + 2) ≤ 57 := n
      rcases Nat.lt_or_ge (a + 2) L with y | y
      · exact y
      · have := (cT_le hT (a + 2)).2.2 y; omega
    obtain ⟨t1, t2⟩ := nN_r (mx := 60) (Or.inl rfl) n
    have k0 : (0 : Int32) ≤ nI (cT L C a - 48) := nI_pos' (by omega)
    rw [if_neg (show ¬ nI (cT L C a) = 43 from fun q => e ((nI_eq (b := 43) (by omega) (by decide)).mp q)), s_at hT ha, ob_s, bd_s, show (48 : Int32) = nI 48 from rfl, pk_sub (by omega), bd_s, nI_1, s_at hT (by omega), ob_s, bd_s, show (97 : Int32) = nI 97 from rfl, pk_sub (by omega), bd_s, show (2 : Int32) = nI 2 from rfl, nI_add, s_num hT (Or.inl rfl) n pL he2, ob_s, x5', x6']
    rcases of_core (fu := fu) (w := w') h hi hc (show cT L C a - 48 < 3 by omega) (show cT L C (a + 1) - 97 < 5 by omega) t1 t2 (by omega) with ⟨y1, y2⟩ | ⟨y1, y2, r', m', z', M', c', y3, y4, y5, y6, y7, y8⟩
    · refine Or.inl ⟨by rw [y1, ob_s, if_neg (show ¬ (-100004 : Int32) = 0 by decide)], fun k20 x1 x2 => ?_⟩
      rw [if_pos k0, y2, ob_s, no0]
    · refine Or.inr ⟨m', z', M', c', by rw [y1, ob_s, if_pos (show (0 : Int32) = 0 from rfl), y3, ob_s], y5, y6, y7, y8, fun k20 x1 x2 => ?_⟩
      rw [if_pos k0, y2, ob_s]
      unfold F_X7_run_L76
      rw [if_pos (show (0 : Int32) = 0 from rfl)]
      unfold F_X7_run_L84
      rw [if_neg (show ¬ (1 : Int32) = 0 by decide), if_pos k0]
      unfold F_X7_run_L106
      rw [if_neg (show ¬ (1 : Int32) = 0 by decide), x3, x6']
      unfold sN
      rw [ep, em, y4, ob_s]
      unfold F_X7_run_L125
      rw [if_neg (show ¬ (1 : Int32) = 0 by decide), bd_s]
/-- the class goes over the rest of a step -/
theorem skip {fu L a : Nat} {C : Nat → Nat} {m w : Mem} {x : Int32} (hT : TX L C m w) (hs : sF (cT L C) a = none) (he : sE (cT L C) a ≤ L) : ∀ d n i, i + d = sE (cT L C) a + 1 → a < i → d ≤ n → (sE (cT L C) a = L → d = 0 ∨ 1 ≤ n) → (sE (cT L C) a < L → F_X6_run_L30 fu n x (nI i) m = F_X6_run_L30 fu (n - d) x (nI (sE (cT L C) a + 1)) m) ∧ (sE (cT L C) a = L → 1 ≤ d → F_X6_run_L30 fu n x (nI i) m = some (x, m)) := by
  have hL := hT.1
  intro d
  induction d with
  | zero =>
    intro n i hi ha hn _
    refine ⟨fun _ => ?_, fun _ h => absurd h (by omega)⟩
    rw [show i = sE (cT L C) a + 1 by omega, Nat.sub_zero]
  | succ d ih =>
    intro n i hi ha hn _
    obtain ⟨n, rfl⟩ : ∃ k, n = k + 1 := ⟨n - 1, by omega⟩
    rw [F_X6_run_L30, hT.2.1]
    by_cases q : i < L
    · have hc := st_chars hs (show a ≤ i - 1 by omega) (show i - 1 < sE (cT L C) a by omega)
      obtain ⟨i, rfl⟩ : ∃ k, i = k + 1 := ⟨i - 1, by omega⟩
      rw [show i + 1 - 1 = i by omega] at hc
      have ss : F_X5_startsStep fu (nI (i + 1)) m = some (0, m) := by
        obtain ⟨c1, -, -⟩ := cT_le hT i
        unfold F_X5_startsStep
        rw [if_neg (nI_ne0 (by omega) (by omega)), bd_s, nI_pred, s_at hT (by omega), ob_s, if_neg (show ¬ nI (cT L C i) = 59 from fun e => hc ((nI_eq (b := 59) (by omega) (by decide)).mp e))]
      rw [if_neg (nI_ge q (by omega)), ss, ob_s, if_pos (show (0 : Int32) = 0 from rfl), bd_s, nI_1]
      obtain ⟨b1, b2⟩ := ih n (i + 1 + 1) (by omega) (by omega) (by omega) (by omega)
      refine ⟨fun e => by rw [b1 e, show n + 1 - (d + 1) = n - d by omega], fun e _ => ?_⟩
      exact b2 e (by omega)
    · rw [if_pos (nI_le (by omega) (by omega))]
      exact ⟨fun e => absurd e (by omega), fun _ _ => rfl⟩
theorem run_all {fu L : Nat} {C : Nat → Nat} (hf : 1200 < fu) : ∀ (d a n n' M c : Nat) (x : Int32) (m w : Mem) (z : Nat → Int32), TX L C m (zs w z) → OkN (cT L C) L d a → (a = 0 ∨ cT L C (a - 1) = 59) → a < L → 5 * (L - a) + 10 < n → d + 1 < n' → Rel 1 m z M 99 → Inv z M c (pB c) 99 → c ≤ 999 → ∃ r m' w' z' M' c', F_X6_run_L30 fu n x (nI a) m = some (r, m') ∧ F_X7_run_L20 fu n' x (nI a) 1 (zs w z) = some (r, zs w' z') ∧ Rel 1 m' z' M' 99 ∧ Inv z' M' c' (pB c') 99 ∧ c' ≤ 999 ∧ Fr 1 m m' ∧ W3 (zs w z) (zs w' z) := by
  intro d
  induction d with
  | zero => intro a n n' M c x m w z hT ok; exact absurd ok (by unfold OkN; exact id)
  | succ d ih =>
    intro a n n' M c x m w z hT ok hst ha hn hn' h hi hc
    have hL := hT.1
    obtain ⟨ok1, ok2⟩ := ok
    obtain ⟨n, rfl⟩ : ∃ i, n = i + 1 := ⟨n - 1, by omega⟩
    obtain ⟨n', rfl⟩ : ∃ i, n' = i + 1 := ⟨n' - 1, by omega⟩
    have he : sE (cT L C) a ≤ L := by rcases ok2 with e | ⟨e, -⟩ <;> omega
    have he2 : sE (cT L C) a = L ∨ cT L C (sE (cT L C) a) = 59 := by
      rcases ok2 with e | ⟨-, e, -⟩
      · exact Or.inl e
      · exact Or.inr e
    have hge : a + 2 ≤ sE (cT L C) a ∧ sE (cT L C) a ≤ a + 4 := by
      unfold sE nE sP
      constructor <;> (split <;> split <;> omega)
    have ss : F_X5_startsStep fu (nI a) m = some (1, m) := by
      unfold F_X5_startsStep
      rcases hst with rfl | e
      · rw [if_pos (show nI 0 = 0 from rfl)]
      · rcases Nat.eq_zero_or_pos a with e0 | e0
        · rw [if_pos (show nI a = 0 by rw [e0]; rfl)]
        · obtain ⟨b, rfl⟩ : ∃ k, a = k + 1 := ⟨a - 1, by omega⟩
          rw [show b + 1 - 1 = b by omega] at e
          rw [if_neg (nI_ne0 (by omega) (by omega)), bd_s, nI_pred, s_at hT (by omega), ob_s, e, if_pos (show nI 59 = 59 from rfl)]
    obtain ⟨w1, k1, k2, k3⟩ := t_step (fu := fu) hT h hi hc ok1 ha he he2 (by omega)
    rw [F_X6_run_L30, hT.2.1, if_neg (nI_ge ha (by omega)), ss, ob_s, if_neg (show ¬ (1 : Int32) = 0 by decide), F_X7_run_L20, if_neg (show ¬ (1 : Int32) = 0 by decide), hT.2.2.1, if_neg (nI_ge ha (by omega)), k1, ob_s, bd_s, nI_1]
    rcases k3 with ⟨y1, y2⟩ | ⟨m', z', M', c', y1, y2, y3, y4, y5, y6⟩
    · rw [y2, y1, ob_s, if_pos (show (0 : Int32) = 0 from rfl)]
      obtain ⟨n', rfl⟩ : ∃ i, n' = i + 1 := ⟨n' - 1, by omega⟩
      rw [F_X7_run_L20, if_pos (show (0 : Int32) = 0 from rfl), Int32.add_zero]
      exact ⟨x, m, w1, z, M, c, rfl, rfl, h, hi, hc, Fr_rf, k2⟩
    · rw [y6, y1, ob_s, if_neg (show ¬ (1 : Int32) = 0 by decide), bd_s, bd_s, nI_1]
      have hT2 : TX L C m' (zs w1 z') := by
        refine TX_c hT (by rw [y5 _ (by omega)]) (y5 _ (by omega)) ?_ ?_
        · rw [zs_ne _ _ (by omega)]
          have := k2.2 5 (by omega) (by omega) (by omega)
          rw [zs_ne _ _ (by omega)] at this
          exact this
        · rw [zs_ne _ _ (by omega)]
          have := k2.1 363 (by omega)
          rw [zs_ne _ _ (by omega)] at this
          exact this
      obtain ⟨sk1, sk2⟩ := skip (fu := fu) (x := x + 1) hT2 ok1 he (sE (cT L C) a - a) n (a + 1) (by omega) (by omega) (by omega) (by omega)
      have wz : W3 (zs w z) (zs w1 z) := k2
      rcases ok2 with e | ⟨e1, e2, e3⟩
      · obtain ⟨n', rfl⟩ : ∃ i, n' = i + 1 := ⟨n' - 1, by omega⟩
        rw [sk2 e (by omega), F_X7_run_L20, if_neg (show ¬ (1 : Int32) = 0 by decide), hT2.2.2.1, if_pos (nI_le (by omega) (by omega))]
        exact ⟨x + 1, m', w1, z', M', c', rfl, rfl, y2, y3, y4, y5, wz⟩
      · rw [sk1 e1]
        have eL : sE (cT L C) a + 1 < L := by
          rcases Nat.lt_or_ge (sE (cT L C) a + 1) L with q | q
          · exact q
          · exfalso
            cases d with
            | zero => exact absurd e3 (by unfold OkN; exact id)
            | succ d =>
              obtain ⟨e4, -⟩ := e3
              have z0 := (cT_le hT (sE (cT L C) a + 1)).2.2 (by omega)
              have z1 := sF_n e4
              have := z1.2 (by omega)
              omega
        obtain ⟨r, m2, w2, z2, M2, c2, a1, a2, a3, a4, a5, a6, a7⟩ := ih (sE (cT L C) a + 1) (n - (sE (cT L C) a - a)) n' M' c' (x + 1) m' w1 z' hT2 e3 (Or.inr (by rw [show sE (cT L C) a + 1 - 1 = sE (cT L C) a by omega]; exact e2)) eL (by omega) (by omega) y2 y3 y4
        refine ⟨r, m2, w2, z2, M2, c2, a1, a2, a3, a4, a5, Fr_tr y5 a6, ?_⟩
        refine W3_tr wz ⟨fun b hb => ?_, fun s h6 h7 h8 => ?_⟩
        · by_cases q : b = 360
          · subst q; rw [zs_at, zs_at]
          · have := a7.1 b hb
            rw [zs_ne _ _ q, zs_ne _ _ q] at this ⊢
            exact this
        · have := a7.2 s h6 h7 h8
          rw [zs_ne _ _ (by omega), zs_ne _ _ (by omega)] at this ⊢
          exact this
theorem ok_run (fu : Nat) (hf : 1200 < fu) : CallOK (F_X6_run fu) (F_X7_run fu) := fun m w g => by
  obtain ⟨L, C, hT⟩ := TX_of g.2.2.2
  obtain ⟨r, w', k1, k2, k3, k4⟩ := f_both hT hf
  have g' := GR_w3 g k3
  have fw : ∀ a, a < 359 → w' a = w a := fun a ha => k3.1 a (by omega)
  unfold F_X6_run F_X7_run
  rw [k1, k2, ob_s, ob_s]
  rcases k4 with ⟨rfl, ok⟩ | ⟨f, f1, rfl⟩
  · rw [if_pos (show (-100005 : Int32) = -100005 from rfl), if_pos (show (-100005 : Int32) < 0 by decide)]
    obtain ⟨m1, w1, e1, e2, g1, e3, e4, e5⟩ := g_keep g' hf
    rw [e1, e2, ov_s, ov_s]
    obtain ⟨M, c, h1, h2, h3⟩ := g1.1
    obtain ⟨z, ez⟩ : ∃ z, z = w1 360 := ⟨_, rfl⟩
    have ew : zs w1 z = w1 := by rw [ez, zs_self]
    have hT1 : TX L C m1 (zs w1 z) := by
      obtain ⟨L', C', hx⟩ := TX_of g1.2.2.2
      rw [ew]
      have hT' := TX_w hT k3
      have t2 := g1.2.2.2
      obtain ⟨L2, b1, b2, b3, b4⟩ := t2
      have q1 : m1 356 1 = m 356 1 := by rw [e4 _ (by omega)]
      have q2 : m1 358 = m 358 := e4 _ (by omega)
      have hLL : L2 = L := by
        have : nI L2 = nI L := by rw [← b2, q1, hT.2.1]
        exact (nI_eq (by omega) (by have := hT.1; omega)).mp this
      subst hLL
      refine ⟨b1, b2, b3, fun i hi => ?_⟩
      obtain ⟨x, x1, x2, x3, x4⟩ := b4 i hi
      obtain ⟨y1, y2, y3, y4⟩ := hT.2.2.2 i hi
      refine ⟨y1, y2, by rw [q2]; exact y3, ?_⟩
      rw [x4, ← x3, q2]
      exact y3
    have L0 : 0 < L := by
      rcases Nat.eq_zero_or_pos L with e | e
      · exfalso
        obtain ⟨o1, -⟩ := ok
        have z0 := (cT_le hT 0).2.2 (by omega)
        have := (sF_n o1).2 (by omega)
        omega
      · exact e
    have hLb := hT.1
    obtain ⟨r, m2, w2, z2, M2, c2, a1, a2, a3, a4, a5, a6, a7⟩ := run_all (fu := fu) hf (L + 1) 0 fu fu M c 0 m1 w1 z hT1 ok (Or.inl rfl) L0 (by omega) (by omega) (by rw [ez]; exact h1) (by rw [ez]; exact h2) h3
    rw [ew] at a2 a7
    refine ⟨r, m2, zs w2 z2, a1, a2, ?_, fun a ha => by rw [a6 a (by omega), e4 a (by omega)], fun a ha => ?_⟩
    · have g2 : GR m1 (zs w2 z) := GR_w3 g1 a7
      have g3 := GR_srv g2 a3 a4 a5 a6
      rw [zs_zs] at g3
      exact g3
    · rw [zs_ne _ _ (by omega)]
      have := a7.1 a (by omega)
      rw [zs_ne _ _ (by omega)] at this
      rw [this, e5 a ha, fw a ha]
  · rw [if_neg (show ¬ nI f = -100005 from fun e => by
      have := congrArg Int32.toInt e
      rw [nI_toInt (by omega)] at this
      have q : (-100005 : Int32).toInt = -100005 := by decide
      omega), if_neg (nI_pos (by omega))]
    exact ⟨_, m, w', rfl, rfl, g', fun _ _ => rfl, fw⟩
