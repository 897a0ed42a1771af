theorem zLeave_lo {z : Nat → Int32} {k p i : Nat} (hk : k < 3) (hi : i < 25) : zLeave z k p i = z i := by
  rw [zLeave_at i hk, if_neg (by omega), if_neg (by omega)]
theorem zDone_lo {z : Nat → Int32} {q k s i : Nat} (hk : k < 3) (hi : i < 16) : zDone z q k s i = z i := by
  unfold zDone
  show (if z (79 + 10 * q) - z (77 + 10 * q) ≤ 0 then upd (upd (upd (upd (zLeave z k 0) (78 + 10 * q) 2) (83 + 10 * q) (z 67)) (70 + s) (z (70 + s) + (16 * z (77 + 10 * q) - z (70 + s)) / 4)) (16 + k) (z (16 + k) + (z (79 + 10 * q) - z (77 + 10 * q))) else zAdd (upd (upd (upd (zLeave z k 0) (78 + 10 * q) 2) (83 + 10 * q) (z 67)) (70 + s) (z (70 + s) + (16 * z (77 + 10 * q) - z (70 + s)) / 4)) k (z (79 + 10 * q) - z (77 + 10 * q))) i = z i
  by_cases c : z (79 + 10 * q) - z (77 + 10 * q) ≤ 0
  · rw [if_pos c, upd_n _ _ (show i ≠ 16 + k by omega), upd_n _ _ (show i ≠ 70 + s by omega), upd_n _ _ (show i ≠ 83 + 10 * q by omega), upd_n _ _ (show i ≠ 78 + 10 * q by omega), zLeave_lo hk (by omega)]
  · rw [if_neg c, zAdd_o (show i ≠ 16 + k by omega), upd_n _ _ (show i ≠ 70 + s by omega), upd_n _ _ (show i ≠ 83 + 10 * q by omega), upd_n _ _ (show i ≠ 78 + 10 * q by omega), zLeave_lo hk (by omega)]
theorem zWork_lo {z : Nat → Int32} {k i : Nat} (hk : k < 3) (hi : i < 16) : (zWork z k).2 i = z i := by
  unfold zWork
  generalize (z (28 + 8 * k)).toNatClampNeg = q
  show (if z (77 + 10 * q) ≤ z (80 + 10 * q) + 1 then ((1 : Int32), zDone (zStep z q k) q k (sd z q)) else (0, zStep z q k)).2 i = z i
  by_cases c : z (77 + 10 * q) ≤ z (80 + 10 * q) + 1
  · rw [if_pos c]
    show zDone (zStep z q k) q k (sd z q) i = z i
    rw [zDone_lo hk hi, zStep_o (by omega) (by omega) (by omega) (by omega)]
  · rw [if_neg c]
    exact zStep_o (by omega) (by omega) (by omega) (by omega)
theorem zUnit_lo {z : Nat → Int32} {i : Nat} (hi : i < 16) : (zUnit z).2 i = z i := by
  unfold zUnit
  cases e : zNext z 3 with
  | none => exact upd_n _ _ (by omega)
  | some k => exact zWork_lo (zNext_lt z 3 k e).1 hi
theorem m_nextC {fu : Nat} {w : Mem} {z : Nat → Int32} (hf : 9 < fu) : F_X7_nextClass fu (zs w z) = some (enc (zNext z 3), zs w z) := by
  have h := m_next (fu := fu) (w := w) (z := z) 3 fu 0 rfl (by omega)
  rw [zNext] at h
  exact h
theorem m_units {fu M c C : Nat} {w : Mem} (hf : 9 < fu) : ∀ (d n u B : Nat) (x : Int32) (z : Nat → Int32), Inv z M c B 99 → z 0 = nI C → C ≤ 20 → u + d = C → d < n → B + 2520 * d < 2 ^ 30 → F_X7_tick_L98 fu n x (nI u) (zs w z) = some ((zUnits d x z).1, zs w (upd (zUnits d x z).2 67 ((zUnits d x z).2 67 + 1))) := by
  intro d
  induction d with
  | zero =>
    intro n u B x z h h0 hC hu hn hB
    obtain ⟨n, rfl⟩ : ∃ i, n = i + 1 := ⟨n - 1, by omega⟩
    rw [F_X7_tick_L98, gl_0, tl_0, zs_at, h0, if_pos (nI_le (by omega) (by omega)), gl_67, tl_67, bd_s, gl_67, bd_s, mput_zs, zUnits]
  | succ d ih =>
    intro n u B x z h h0 hC hu hn hB
    obtain ⟨n, rfl⟩ : ∃ i, n = i + 1 := ⟨n - 1, by omega⟩
    have h1 := Inv_unit h (by omega)
    have go := fun x' => ih n (u + 1) (B + 2520) x' (zUnit z).2 h1 (by rw [zUnit_lo (by omega)]; exact h0) hC (by omega) (by omega) (by omega)
    rw [F_X7_tick_L98, gl_0, tl_0, zs_at, h0, if_neg (nI_ge (by omega) (by omega)), m_nextC hf, ob_s, zUnits]
    unfold zUnit at go ⊢
    cases e : zNext z 3 with
    | none =>
      rw [e] at go
      rw [if_neg (by decide), gl_68, tl_68, zs_at, bd_s, gl_68, bd_s, mput_zs, bd_s, nI_1]
      have go := go x
      show _ = some ((zUnits d (x + 0) (upd z 68 (z 68 + 1))).1, zs w (upd (zUnits d (x + 0) (upd z 68 (z 68 + 1))).2 67 ((zUnits d (x + 0) (upd z 68 (z 68 + 1))).2 67 + 1)))
      rw [Int32.add_zero]
      exact go
    | some k =>
      have hk := zNext_lt z 3 k e
      rw [e] at go
      have go : ∀ x', F_X7_tick_L98 fu n x' (nI (u + 1)) (zs w (zWork z k).2) = some ((zUnits d x' (zWork z k).2).1, zs w (upd (zUnits d x' (zWork z k).2).2 67 ((zUnits d x' (zWork z k).2).2 67 + 1))) := go
      rw [if_pos (show 0 ≤ enc (some k) from nI_pos' (by omega)), show enc (some k) = nI k from rfl, m_work h hk.1 hk.2 hf, ob_s, nI_1]
      show _ = some ((zUnits d (x + (zWork z k).1) (zWork z k).2).1, zs w (upd (zUnits d (x + (zWork z k).1) (zWork z k).2).2 67 ((zUnits d (x + (zWork z k).1) (zWork z k).2).2 67 + 1)))
      rcases zWork_1 z k with e1 | e1
      · rw [e1, if_neg (by decide), bd_s, bd_s]
        exact go _
      · rw [e1, if_pos rfl, bd_s, bd_s]
        exact go _
theorem zLate_t (z : Nat → Int32) (k p n : Nat) : zLate z k p (n + 1) = if z (78 + 10 * (z (28 + 8 * k + p)).toNatClampNeg) = 0 then (if z 67 - z (84 + 10 * (z (28 + 8 * k + p)).toNatClampNeg) < z 1 then zLate z k (p + 1) n else zLate (zAdd (zRefuse (zLeave z k p) (z (28 + 8 * k + p)).toNatClampNeg (kd z (z (28 + 8 * k + p)).toNatClampNeg) 5) k (z (79 + 10 * (z (28 + 8 * k + p)).toNatClampNeg))) k p n) else zLate z k (p + 1) n := by rw [zLate]
theorem m_lates {fu M c : Nat} {w : Mem} {z : Nat → Int32} {B : Nat} (h : Inv z M c B 99) (hB : B + 50400 < 2 ^ 30) (hf : 40 < fu) : ∀ (d n j : Nat), j + d = 3 → d < n → F_X7_tick_L78 fu n (nI j) (zs w (zLates j z)) = some ((zUnits (z 0).toNatClampNeg 0 (zLates 3 z)).1, zs w (upd (zUnits (z 0).toNatClampNeg 0 (zLates 3 z)).2 67 ((zUnits (z 0).toNatClampNeg 0 (zLates 3 z)).2 67 + 1))) := by
  have lo : ∀ j, j ≤ 3 → zLates j z 0 = z 0 := by
    have one : ∀ (k : Nat) (hk : k < 3) (d p : Nat) (y : Nat → Int32), zLate y k p d 0 = y 0 := by
      intro k hk d
      induction d with
      | zero => intro p y; rw [zLate_0]
      | succ d ih =>
        intro p y
        rw [zLate_t]
        by_cases c1 : y (78 + 10 * (y (28 + 8 * k + p)).toNatClampNeg) = 0
        · rw [if_pos c1]
          by_cases c2 : y 67 - y (84 + 10 * (y (28 + 8 * k + p)).toNatClampNeg) < y 1
          · rw [if_pos c2]; exact ih _ _
          · rw [if_neg c2, ih, zAdd_o (by omega), zRefuse_o (by omega) (by omega) (by omega) (by omega), zLeave_lo hk (by omega)]
        · rw [if_neg c1]; exact ih _ _
    intro j
    induction j with
    | zero => intro _; rw [zLates]
    | succ j ih =>
      intro hj
      rw [zLates, one j (by omega), ih (by omega)]
  intro d
  induction d with
  | zero =>
    intro n j hj hn
    obtain ⟨n, rfl⟩ : ∃ i, n = i + 1 := ⟨n - 1, by omega⟩
    obtain rfl : j = 3 := by omega
    obtain ⟨c1, c2, c3⟩ := Inv_cap h
    rw [F_X7_tick_L78, if_pos (by decide)]
    exact m_units (C := (z 0).toNatClampNeg) (by omega) _ fu 0 B 0 _ (Inv_lates 3 z M c B (by omega) h) (by rw [lo 3 (by omega)]; exact c1) c3 (by omega) (by omega) (by omega)
  | succ d ih =>
    intro n j hj hn
    obtain ⟨n, rfl⟩ : ∃ i, n = i + 1 := ⟨n - 1, by omega⟩
    have h3 : ¬ (3 : Int32) ≤ nI j := by rw [show (3 : Int32) = nI 3 from rfl]; exact nI_ge (by omega) (by omega)
    have go := ih n (j + 1) (by omega) (by omega)
    have hj1 := Inv_lates j z M c B (by omega) h
    have hL8 := IQ_L hj1.2.2.1 j (by omega)
    have one := (m_late (fu := fu) (w := w) (k := j) (by omega) (by omega) (ln (zLates j z) j) fu 0 _ hj1 (by omega) (by omega)).1
    rw [zLates] at go
    rw [F_X7_tick_L78, if_neg h3]
    unfold F_X7_refuseLate
    rw [show (0 : Int32) = nI 0 from rfl, one, ov_s, bd_s, nI_1]
    exact go
theorem m_due {fu M c B : Nat} {w : Mem} (hB : B + 50400 < 2 ^ 30) (hf : 40 < fu) : ∀ (d n r : Nat) (z : Nat → Int32), Inv z M c B 99 → r + d = M → d < n → F_X7_tick_L26 fu n (nI r) (zs w z) = F_X7_tick_L78 fu fu 0 (zs w (zDue r d z)) := by
  intro d
  induction d with
  | zero =>
    intro n r z h hr hn
    obtain ⟨n, rfl⟩ : ∃ i, n = i + 1 := ⟨n - 1, by omega⟩
    have hM := h.1.2.1
    rw [F_X7_tick_L26, gl_69, tl_69, zs_at, h.1.1, if_pos (nI_le (by omega) (by omega)), zDue]
  | succ d ih =>
    intro n r z h hr hn
    obtain ⟨n, rfl⟩ : ∃ i, n = i + 1 := ⟨n - 1, by omega⟩
    have hM := h.1.2.1
    have hr2 : r < 32 := by omega
    have go := ih n (r + 1) _ (Inv_due1 h (show r < M by omega) (by omega)) (by omega) (by omega)
    rw [F_X7_tick_L26, gl_69, tl_69, zs_at, h.1.1, if_neg (nI_ge (by omega) (by omega)), of_3 hr2, ob_s, zDue]
    by_cases c1 : z (78 + 10 * r) = 3
    · rw [if_pos c1] at go ⊢
      rw [if_pos c1, of_8 hr2, ob_s, gl_67, tl_67, zs_at]
      by_cases c2 : z 67 < z (83 + 10 * r)
      · rw [if_pos c2] at go ⊢
        rw [if_pos c2, bd_s, nI_1]
        exact go
      · rw [if_neg c2] at go ⊢
        obtain ⟨k1, k2, s1, s2⟩ := Inv_kd h (show r < M by omega)
        rw [if_neg c2, m_offer (Inv_weak h (show r < M by omega) (by rw [c1]; decide)) (by omega) k1 s1 k2 s2 (by omega), ob_s, bd_s, nI_1]
        exact go
    · rw [if_neg c1] at go ⊢
      rw [if_neg c1, bd_s, nI_1]
      exact go
theorem m_gain {fu : Nat} {w : Mem} {z : Nat → Int32} : ∀ (d n j : Nat), j + d = 3 → d < n → F_X7_tick_L2 fu n (nI j) (zs w (zGain j z)) = F_X7_tick_L26 fu fu 0 (zs w (zGain 3 z)) := by
  intro d
  induction d with
  | zero =>
    intro n j hj hn
    obtain ⟨n, rfl⟩ : ∃ i, n = i + 1 := ⟨n - 1, by omega⟩
    obtain rfl : j = 3 := by omega
    rw [F_X7_tick_L2, if_pos (by decide)]
  | succ d ih =>
    intro n j hj hn
    obtain ⟨n, rfl⟩ : ∃ i, n = i + 1 := ⟨n - 1, by omega⟩
    have h3 : ¬ (3 : Int32) ≤ nI j := by rw [show (3 : Int32) = nI 3 from rfl]; exact nI_ge (by omega) (by omega)
    have go := ih n (j + 1) (by omega) (by omega)
    rw [zGain] at go
    rw [F_X7_tick_L2, if_neg h3, ofc_1 (by omega), ob_s, m_add (by omega), ov_s, bd_s, nI_1]
    exact go
theorem zGain_lo {z : Nat → Int32} {i : Nat} (hi : i < 16) : ∀ j, zGain j z i = z i
  | 0 => by rw [zGain]
  | j + 1 => by rw [zGain, zAdd_o (by omega), zGain_lo hi j]
theorem zCatch_lo {z : Nat → Int32} {k i : Nat} (hi : i < 16) : zCatch z k i = z i := zCatch_o (by omega)
theorem zJoin_lo {z : Nat → Int32} {r k i : Nat} (hi : i < 16) : zJoin z r k i = z i := by
  unfold zJoin
  rw [upd_n _ _ (by omega), upd_n _ _ (by omega), upd_n _ _ (by omega), upd_n _ _ (by omega), upd_n _ _ (by omega)]
theorem zOffer_lo {z : Nat → Int32} {r k s i : Nat} (hi : i < 16) : (zOffer z r k s).2 i = z i := by
  unfold zOffer
  show (if zWhy (upd (upd z (81 + 10 * r) (z (81 + 10 * r) + 1)) (79 + 10 * r) (zCost z s)) k (zCost z s) ≤ 0 then zAdmit (upd (upd z (81 + 10 * r) (z (81 + 10 * r) + 1)) (79 + 10 * r) (zCost z s)) r k else zRefuse (upd (upd z (81 + 10 * r) (z (81 + 10 * r) + 1)) (79 + 10 * r) (zCost z s)) r k (zWhy (upd (upd z (81 + 10 * r) (z (81 + 10 * r) + 1)) (79 + 10 * r) (zCost z s)) k (zCost z s)).toNatClampNeg) i = z i
  have e : upd (upd z (81 + 10 * r) (z (81 + 10 * r) + 1)) (79 + 10 * r) (zCost z s) i = z i := by rw [upd_n _ _ (by omega), upd_n _ _ (by omega)]
  rw [← e]
  generalize upd (upd z (81 + 10 * r) (z (81 + 10 * r) + 1)) (79 + 10 * r) (zCost z s) = y
  by_cases c : zWhy y k (zCost z s) ≤ 0
  · rw [if_pos c]
    unfold zAdmit
    rw [zJoin_lo hi, zCatch_lo hi, upd_n _ _ (by omega)]
  · rw [if_neg c, zRefuse_o (by omega) (by omega) (by omega) (by omega)]
theorem zDue_lo {i : Nat} (hi : i < 16) : ∀ (n r : Nat) (z : Nat → Int32), zDue r n z i = z i
  | 0, r, z => by rw [zDue]
  | n + 1, r, z => by
    rw [zDue, zDue_lo hi n]
    by_cases c1 : z (78 + 10 * r) = 3
    · rw [if_pos c1]
      by_cases c2 : z 67 < z (83 + 10 * r)
      · rw [if_pos c2]
      · rw [if_neg c2]; exact zOffer_lo hi
    · rw [if_neg c1]
theorem m_tick {fu M c B : Nat} {w : Mem} {z : Nat → Int32} (h : Inv z M c B 99) (hB : B + 50400 < 2 ^ 30) (hf : 40 < fu) : F_X7_tick fu (zs w z) = some ((zTick z M).1, zs w (zTick z M).2) := by
  have hM := h.1.2.1
  have g1 := m_gain (fu := fu) (w := w) (z := z) 3 fu 0 rfl (by omega)
  have i1 := Inv_gain 3 z M c B 99 (by omega) h
  have g2 := m_due (w := w) (fu := fu) hB hf M fu 0 _ i1 (by omega) (by omega)
  have i2 := Inv_due M 0 _ M c B (by omega) i1 (by omega)
  have g3 := m_lates (w := w) i2 hB hf 3 fu 0 rfl (by omega)
  rw [zGain] at g1
  rw [zLates] at g3
  unfold F_X7_tick
  refine (g1.trans (g2.trans (g3.trans ?_)))
  rw [zDue_lo (by omega), zGain_lo (by omega)]
  rfl
/-- how far the passes may be when the clock is at c -/
def pB (c : Nat) : Nat := 50400 * c
theorem pB_s (c : Nat) : pB (c + 1) = pB c + 50400 := Nat.mul_succ 50400 c
theorem pB_lt {c : Nat} (h : c ≤ 2000) : pB c + 50400 < 2 ^ 30 := by
  have h1 : pB c ≤ 50400 * 2000 := Nat.mul_le_mul_left 50400 h
  have h2 : 50400 * 2000 + 50400 < 2 ^ 30 := by decide
  generalize pB c = x at h1 ⊢
  generalize 2 ^ 30 = y at h2 ⊢
  exact Nat.lt_of_le_of_lt (Nat.add_le_add_right h1 50400) h2
theorem Inv_tickB {z : Nat → Int32} {M c : Nat} (h : Inv z M c (pB c) 99) (hc : c + 1 ≤ 2000) : Inv (zTick z M).2 M (c + 1) (pB (c + 1)) 99 := by
  rw [pB_s]
  exact Inv_tick h hc (pB_lt (by omega))
theorem m_pass {fu M : Nat} {w : Mem} {t : Nat} (ht : t ≤ 99) (hf : 120 < fu) : ∀ (d n j c : Nat) (x : Int32) (z : Nat → Int32), Inv z M c (pB c) 99 → c + d ≤ 2000 → j + d = t → d < n → F_X7_doAdvance_L4 fu (nI t) n x (nI j) (zs w z) = some ((zPass d x z M).1, zs w (zPass d x z M).2) ∧ Inv (zPass d x z M).2 M (c + d) (pB (c + d)) 99 := by
  intro d
  induction d with
  | zero =>
    intro n j c x z h hc hj hn
    obtain ⟨n, rfl⟩ : ∃ i, n = i + 1 := ⟨n - 1, by omega⟩
    rw [F_X7_doAdvance_L4, if_pos (nI_le (by omega) (by omega)), zPass]
    exact ⟨rfl, h⟩
  | succ d ih =>
    intro n j c x z h hc hj hn
    obtain ⟨n, rfl⟩ : ∃ i, n = i + 1 := ⟨n - 1, by omega⟩
    have h1 := Inv_tickB h (by omega)
    obtain ⟨go1, go2⟩ := ih n (j + 1) (c + 1) (x + (zTick z M).1) _ h1 (by omega) (by omega) (by omega)
    rw [F_X7_doAdvance_L4, if_neg (nI_ge (by omega) (by omega)), m_tick h (pB_lt (by omega)) (by omega), ob_s, bd_s, bd_s, nI_1, zPass]
    refine ⟨go1, ?_⟩
    rw [show c + (d + 1) = c + 1 + d by omega]
    exact go2
/-- a new request's numbers -/
def zNew (z : Nat → Int32) (M k s c : Nat) : Nat → Int32 := upd (upd (upd (upd (upd (upd (upd z 69 (nI (M + 1))) (75 + 10 * M) (nI k)) (76 + 10 * M) (nI s)) (77 + 10 * M) (nI c)) (80 + 10 * M) 0) (81 + 10 * M) 0) (82 + 10 * M) 0
theorem zNew_o {z : Nat → Int32} {M k s c i : Nat} (h0 : i ≠ 69) (h1 : i < 75 ∨ i = 78 + 10 * M ∨ i = 79 + 10 * M ∨ i = 83 + 10 * M ∨ i = 84 + 10 * M ∨ ∃ r g, r ≠ M ∧ g < 10 ∧ i = 75 + g + 10 * r) : zNew z M k s c i = z i := by
  unfold zNew
  rw [upd_n, upd_n, upd_n, upd_n, upd_n, upd_n, upd_n _ _ h0] <;> rcases h1 with h1 | h1 | h1 | h1 | h1 | ⟨r, g, h1, h2, h3⟩ <;> omega
theorem Inv_new {z : Nat → Int32} {M c B k s cost : Nat} (h : Inv z M c B 99) (hM : M < 32) (hk : k < 3) (hs : s < 5) (hc1 : 1 ≤ cost) (hc2 : cost ≤ 60) : Inv (zNew z M k s cost) (M + 1) c B M ∧ zNew z M k s cost (75 + 10 * M) = nI k ∧ zNew z M k s cost (76 + 10 * M) = nI s := by
  obtain ⟨a1, a2, a3, a4, a5, a6⟩ := h
  have lo : ∀ i, i < 75 → i ≠ 69 → zNew z M k s cost i = z i := fun i hi h => zNew_o h (Or.inl hi)
  have e69 : zNew z M k s cost 69 = nI (M + 1) := by
    unfold zNew
    rw [upd_n _ _ (by omega), upd_n _ _ (by omega), upd_n _ _ (by omega), upd_n _ _ (by omega), upd_n _ _ (by omega), upd_n _ _ (by omega), upd_s]
  have e75 : zNew z M k s cost (75 + 10 * M) = nI k := by
    unfold zNew
    rw [upd_n _ _ (by omega), upd_n _ _ (by omega), upd_n _ _ (by omega), upd_n _ _ (by omega), upd_n _ _ (by omega), upd_s]
  have e76 : zNew z M k s cost (76 + 10 * M) = nI s := by
    unfold zNew
    rw [upd_n _ _ (by omega), upd_n _ _ (by omega), upd_n _ _ (by omega), upd_n _ _ (by omega), upd_s]
  have e77 : zNew z M k s cost (77 + 10 * M) = nI cost := by
    unfold zNew
    rw [upd_n _ _ (by omega), upd_n _ _ (by omega), upd_n _ _ (by omega), upd_s]
  have oth : ∀ r g, r ≠ M → g < 10 → zNew z M k s cost (75 + g + 10 * r) = z (75 + g + 10 * r) := fun r g h1 h2 => zNew_o (by omega) (Or.inr (Or.inr (Or.inr (Or.inr (Or.inr ⟨r, g, h1, h2, rfl⟩)))))
  refine ⟨⟨⟨e69, by omega, by rw [lo _ (by omega) (by omega)]; exact a1.2.2.1, a1.2.2.2⟩, IS_c (fun i hi => lo _ (by omega) (by omega)) (fun s hs => lo _ (by omega) (by omega)) a2, ?_, ID_c (fun i _ hi => lo _ (by omega) (by omega)) (IQ_L a3) a4, ?_, IP_c (fun i hi => lo _ (by omega) (by omega)) a6⟩, e75, e76⟩
  · intro k' hk'
    obtain ⟨x1, x2, x3⟩ := a3 k' hk'
    rw [ln_c (lo _ (by omega) (by omega)), lo _ (by omega) (by omega)]
    refine ⟨x1, x2, fun p hp => ?_⟩
    obtain ⟨q, c1, c2, c3, c4⟩ := x3 p hp
    refine ⟨q, by omega, by omega, by rw [lo _ (by omega) (by omega)]; exact c3, ?_⟩
    rw [show 78 + 10 * q = 75 + 3 + 10 * q by omega, oth q 3 (by omega) (by omega)]
    exact c4
  · intro r hr
    by_cases e : r = M
    · subst e
      rw [e75, e76, e77]
      exact ⟨⟨k, by omega, by omega, rfl⟩, ⟨s, by omega, by omega, rfl⟩, ⟨cost, hc1, hc2, rfl⟩, fun h => absurd rfl h⟩
    · have m0 := oth r 0 e (by omega)
      have m1 := oth r 1 e (by omega)
      have m2 := oth r 2 e (by omega)
      have m3 := oth r 3 e (by omega)
      have m4 := oth r 4 e (by omega)
      have m8 := oth r 8 e (by omega)
      obtain ⟨x1, x2, x3, x4⟩ := a5 r (by omega)
      rw [m0, m1, m2, m3, m4, m8]
      exact ⟨x1, x2, x3, fun _ => x4 (by omega)⟩
theorem m_doOffer {fu M c B k s cost : Nat} {w : Mem} {z : Nat → Int32} (h : Inv z M c B 99) (hM : M < 32) (hk : k < 3) (hs : s < 5) (hc1 : 1 ≤ cost) (hc2 : cost ≤ 60) (hf : 9 < fu) : F_X7_doOffer fu (nI k) (nI s) (nI cost) (zs w z) = some ((zOffer (zNew z M k s cost) M k s).1, zs w (zOffer (zNew z M k s cost) M k s).2) := by
  obtain ⟨i1, i2, i3⟩ := Inv_new (k := k) (s := s) h hM hk hs hc1 hc2
  have go := m_offer (w := w) i1 (Nat.lt_succ_self M) hk hs i2 i3 hf
  unfold F_X7_doOffer
  rw [gl_69, gl_69, tl_69, zs_at, h.1.1, bd_s, gl_69, bd_s, mput_zs, nI_1, put_0 hM, ov_s, put_1 hM, ov_s, put_2 hM, ov_s, put_5 hM, ov_s, put_6 hM, ov_s, put_7 hM, ov_s]
  unfold zNew at go ⊢
  rw [go, ob_s]
