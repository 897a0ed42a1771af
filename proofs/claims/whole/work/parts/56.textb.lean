/-! ===== the text: the class's automaton ===== -/
def eaN (s x : Nat) : Nat := if x = 59 then 0 else if s = 4 then (if 48 ≤ x ∧ x ≤ 57 then 6 else 7) else if s = 5 then (if x = 48 then 6 else 7) else 7
def ea (s x : Nat) : Nat :=
  if s = 0 then (if x = 43 then 3 else if 48 ≤ x ∧ x ≤ 50 then 1 else 7)
  else if s = 1 then (if 97 ≤ x ∧ x ≤ 101 then 2 else 7)
  else if s = 2 then (if 49 ≤ x ∧ x ≤ 53 then 4 else if x = 54 then 5 else if 55 ≤ x ∧ x ≤ 57 then 6 else 7)
  else if s = 3 then (if 49 ≤ x ∧ x ≤ 57 then 4 else 7)
  else eaN s x
theorem bt_n {fu x a b : Nat} {m : Mem} (hx : x < 2 ^ 31) (ha : a < 2 ^ 31) (hb : b < 2 ^ 31) : F_X6_isBetween fu (nI a) (nI x) (nI b) m = some (if a ≤ x ∧ x ≤ b then 1 else 0, m) := by rw [bt_r, inr_b hx ha hb]
theorem sw_b {fu x a b : Nat} {m : Mem} {p q : Int32} (hx : x < 2 ^ 31) (ha : a < 2 ^ 31) (hb : b < 2 ^ 31) : (ob (F_X6_isBetween fu (nI a) (nI x) (nI b) m) fun r m' => if r = 0 then some (q, m') else some (p, m')) = some (if a ≤ x ∧ x ≤ b then p else q, m) := by
  rw [bt_n hx ha hb, ob_s]
  by_cases c : a ≤ x ∧ x ≤ b
  · rw [if_pos c, if_pos c, if_neg (show ¬ (1 : Int32) = 0 by decide)]
  · rw [if_neg c, if_neg c, if_pos (show (0 : Int32) = 0 from rfl)]
theorem iN {c : Prop} [Decidable c] {a b : Nat} : (if c then nI a else nI b) = nI (if c then a else b) := by
  by_cases h : c
  · rw [if_pos h, if_pos h]
  · rw [if_neg h, if_neg h]
theorem nI_if {x k : Nat} {β : Type} {p q : β} (hx : x < 2 ^ 31) (hk : k < 2 ^ 31) : (if nI x = nI k then p else q) = if x = k then p else q := by
  by_cases h : x = k
  · rw [if_pos h, if_pos (by rw [h])]
  · rw [if_neg h, if_neg (fun e => h ((nI_eq hx hk).mp e))]
theorem s_eaN {fu s x : Nat} {m : Mem} (hs : s = 4 ∨ s = 5 ∨ s = 6) (hx : x < 2 ^ 31) : F_X5_expectedAfterNumber fu (nI s) (nI x) m = some (nI (eaN s x), m) := by
  unfold F_X5_expectedAfterNumber eaN
  by_cases c : x = 59
  · rw [if_pos (show nI x = 59 by rw [c]; rfl), if_pos c]; rfl
  · rw [if_neg (show ¬ nI x = 59 from fun e => c ((nI_eq (b := 59) hx (by decide)).mp e)), if_neg c]
    have l27 : ∀ s : Nat, s = 4 ∨ s = 5 ∨ s = 6 → F_X5_expectedAfterNumber_L27 fu (nI s) (nI x) m = some (nI (if s = 5 then (if x = 48 then 6 else 7) else 7), m) := by
      intro s hs
      unfold F_X5_expectedAfterNumber_L27
      by_cases d : s = 5
      · rw [if_pos (show nI s = 5 by rw [d]; rfl), if_pos d]
        by_cases e : x = 48
        · rw [if_pos (show nI x = 48 by rw [e]; rfl), if_pos e]; rfl
        · rw [if_neg (show ¬ nI x = 48 from fun q => e ((nI_eq (b := 48) hx (by decide)).mp q)), if_neg e]; rfl
      · rw [if_neg (show ¬ nI s = 5 from fun q => d ((nI_eq (b := 5) (by omega) (by decide)).mp q)), if_neg d]; rfl
    by_cases d : s = 4
    · rw [if_pos (show nI s = 4 by rw [d]; rfl), if_pos d, show (48 : Int32) = nI 48 from rfl, show (57 : Int32) = nI 57 from rfl, bt_n hx (by decide) (by decide), ob_s]
      by_cases e : 48 ≤ x ∧ x ≤ 57
      · rw [if_pos e, if_pos e, if_neg (show ¬ (1 : Int32) = 0 by decide)]; rfl
      · rw [if_neg e, if_neg e, if_pos (show (0 : Int32) = 0 from rfl), l27 s hs, if_neg (by omega)]
    · rw [if_neg (show ¬ nI s = 4 from fun q => d ((nI_eq (b := 4) (by omega) (by decide)).mp q)), if_neg d, l27 s hs]
theorem s_ea2 {fu x : Nat} {m : Mem} (hx : x < 2 ^ 31) : F_X5_expectedAfterFirstOfCost fu (nI x) m = some (nI (ea 2 x), m) := by
  unfold F_X5_expectedAfterFirstOfCost ea
  rw [if_neg (show ¬ 2 = 0 by omega), if_neg (show ¬ 2 = 1 by omega), if_pos (show 2 = 2 from rfl), show (49 : Int32) = nI 49 from rfl, show (53 : Int32) = nI 53 from rfl, bt_n hx (by decide) (by decide), ob_s]
  by_cases c : 49 ≤ x ∧ x ≤ 53
  · rw [if_pos c, if_pos c, if_neg (show ¬ (1 : Int32) = 0 by decide)]; rfl
  · rw [if_neg c, if_neg c, if_pos (show (0 : Int32) = 0 from rfl)]
    by_cases d : x = 54
    · rw [if_pos (show nI x = 54 by rw [d]; rfl), if_pos d]; rfl
    · rw [if_neg (show ¬ nI x = 54 from fun q => d ((nI_eq (b := 54) hx (by decide)).mp q)), if_neg d, show (55 : Int32) = nI 55 from rfl, show (57 : Int32) = nI 57 from rfl, show (6 : Int32) = nI 6 from rfl, show (7 : Int32) = nI 7 from rfl, sw_b hx (by decide) (by decide), iN]
theorem s_ea {fu s x : Nat} {m : Mem} (hs : s < 7) (hx : x < 2 ^ 31) : F_X5_expectedAfter fu (nI s) (nI x) m = some (nI (ea s x), m) := by
  unfold F_X5_expectedAfter
  rcases (show s = 0 ∨ s = 1 ∨ s = 2 ∨ s = 3 ∨ (s = 4 ∨ s = 5 ∨ s = 6) by omega) with rfl | rfl | rfl | rfl | h
  · rw [if_pos (show nI 0 = 0 from rfl)]
    unfold ea
    rw [if_pos (show 0 = 0 from rfl)]
    by_cases c : x = 43
    · rw [if_pos (show nI x = 43 by rw [c]; rfl), if_pos c]; rfl
    · rw [if_neg (show ¬ nI x = 43 from fun q => c ((nI_eq (b := 43) hx (by decide)).mp q)), if_neg c, show (48 : Int32) = nI 48 from rfl, show (50 : Int32) = nI 50 from rfl, show (1 : Int32) = nI 1 from rfl, show (7 : Int32) = nI 7 from rfl, sw_b hx (by decide) (by decide), iN]
  · rw [if_neg (show ¬ nI 1 = 0 by decide), if_pos (show nI 1 = 1 from rfl)]
    unfold ea
    rw [if_neg (show ¬ 1 = 0 by omega), if_pos (show 1 = 1 from rfl), show (97 : Int32) = nI 97 from rfl, show (101 : Int32) = nI 101 from rfl, show (2 : Int32) = nI 2 from rfl, show (7 : Int32) = nI 7 from rfl, sw_b hx (by decide) (by decide), iN]
  · rw [if_neg (show ¬ nI 2 = 0 by decide), if_neg (show ¬ nI 2 = 1 by decide), if_pos (show nI 2 = 2 from rfl), s_ea2 hx, ob_s]
  · rw [if_neg (show ¬ nI 3 = 0 by decide), if_neg (show ¬ nI 3 = 1 by decide), if_neg (show ¬ nI 3 = 2 by decide), if_pos (show nI 3 = 3 from rfl)]
    unfold ea
    rw [if_neg (show ¬ 3 = 0 by omega), if_neg (show ¬ 3 = 1 by omega), if_neg (show ¬ 3 = 2 by omega), if_pos (show 3 = 3 from rfl), show (49 : Int32) = nI 49 from rfl, show (57 : Int32) = nI 57 from rfl, show (4 : Int32) = nI 4 from rfl, show (7 : Int32) = nI 7 from rfl, sw_b hx (by decide) (by decide), iN]
  · have n0 : ∀ k : Nat, k < 4 → ¬ nI s = nI k := fun k hk q => by
      have := (nI_eq (by omega) (by omega)).mp q
      omega
    rw [if_neg (show ¬ nI s = 0 from n0 0 (by omega)), if_neg (show ¬ nI s = 1 from n0 1 (by omega)), if_neg (show ¬ nI s = 2 from n0 2 (by omega)), if_neg (show ¬ nI s = 3 from n0 3 (by omega)), s_eaN h hx, ob_s]
    unfold ea
    rw [if_neg (by omega), if_neg (by omega), if_neg (by omega), if_neg (by omega)]
theorem ea_le (s x : Nat) : ea s x ≤ 7 := by
  unfold ea eaN
  split
  · split
    · omega
    · split <;> omega
  · split
    · split <;> omega
    · split
      · split
        · omega
        · split
          · omega
          · split <;> omega
      · split
        · split <;> omega
        · split
          · omega
          · split
            · split <;> omega
            · split
              · split <;> omega
              · omega
theorem fa_end {fu L n s : Nat} {C : Nat → Nat} {m w : Mem} (h : TX L C m w) (hs : s < 7) : F_X5_firstFault_L4 fu (n + 1) (nI s) (nI L) m = some (if s = 4 ∨ s = 5 ∨ s = 6 then -100005 else nI L, m) := by
  have hL := h.1
  rw [F_X5_firstFault_L4, h.2.1, if_pos (nI_le (Nat.le_refl _) (by omega))]
  by_cases c4 : s = 4
  · rw [if_pos (show nI s = 4 by rw [c4]; rfl), if_pos (Or.inl c4)]
  · rw [if_neg (show ¬ nI s = 4 from fun q => c4 ((nI_eq (b := 4) (by omega) (by decide)).mp q))]
    by_cases c5 : s = 5
    · rw [if_pos (show nI s = 5 by rw [c5]; rfl), if_pos (Or.inr (Or.inl c5))]
    · rw [if_neg (show ¬ nI s = 5 from fun q => c5 ((nI_eq (b := 5) (by omega) (by decide)).mp q))]
      by_cases c6 : s = 6
      · rw [if_pos (show nI s = 6 by rw [c6]; rfl), if_pos (Or.inr (Or.inr c6))]
      · rw [if_neg (show ¬ nI s = 6 from fun q => c6 ((nI_eq (b := 6) (by omega) (by decide)).mp q)), if_neg (by omega)]
theorem s_at {fu L a : Nat} {C : Nat → Nat} {m w : Mem} (h : TX L C m w) (ha : a < L) : F_X3_at fu (356 + 1) 80 (nI a) m = some (nI (cT L C a), m) := by
  have hL := h.1
  rw [at_v (show a < 80 by omega) (by decide), show m (356 + 1 + 1) a = nI (C a) from (h.2.2.2 a ha).2.2.1]
  unfold cT
  rw [if_pos ha]
theorem fa_run {fu L n s a : Nat} {C : Nat → Nat} {m w : Mem} (h : TX L C m w) (hs : s < 7) (ha : a < L) : F_X5_firstFault_L4 fu (n + 1) (nI s) (nI a) m = if ea s (cT L C a) = 7 then some (nI a, m) else F_X5_firstFault_L4 fu n (nI (ea s (cT L C a))) (nI (a + 1)) m := by
  have hL := h.1
  obtain ⟨c1, -, -⟩ := cT_le h a
  have e7 := ea_le s (cT L C a)
  rw [F_X5_firstFault_L4, h.2.1, if_neg (nI_ge ha (by omega)), s_at h ha, ob_s, s_ea hs (by omega), ob_s]
  by_cases c : ea s (cT L C a) = 7
  · rw [if_pos c, if_pos (show nI (ea s (cT L C a)) = 7 by rw [c]; rfl)]
  · rw [if_neg c, if_neg (show ¬ nI (ea s (cT L C a)) = 7 from fun q => c ((nI_eq (b := 7) (by omega) (by decide)).mp q)), bd_s, nI_1]
/-- at the place a in the state s: the place is a fault when the state doesn't allow it -/
theorem fa_bad {fu L n s a : Nat} {C : Nat → Nat} {m w : Mem} (h : TX L C m w) (hs : s < 4) (ha : a ≤ L) (hb : a < L → ea s (cT L C a) = 7) : F_X5_firstFault_L4 fu (n + 1) (nI s) (nI a) m = some (nI a, m) := by
  rcases Nat.lt_or_ge a L with q | q
  · rw [fa_run h (by omega) q, if_pos (hb q)]
  · obtain rfl : a = L := by omega
    rw [fa_end h (by omega), if_neg (by omega)]
theorem num_walk {fu L s p mx n : Nat} {C : Nat → Nat} {m w : Mem} (h : TX L C m w) (hs : (s = 2 ∧ mx = 60) ∨ (s = 3 ∧ mx = 99)) (hp : p ≤ L) (hn : 3 < n) : (¬ nF (cT L C) p ∧ F_X5_firstFault_L4 fu n (nI s) (nI p) m = some (nI p, m)) ∨ (nF (cT L C) p ∧ nE (cT L C) p mx ≤ L ∧ ∃ s' n', (s' = 4 ∨ s' = 5 ∨ s' = 6) ∧ n ≤ n' + 2 ∧ F_X5_firstFault_L4 fu n (nI s) (nI p) m = F_X5_firstFault_L4 fu n' (nI s') (nI (nE (cT L C) p mx)) m ∧ (nE (cT L C) p mx < L → eaN s' (cT L C (nE (cT L C) p mx)) = if cT L C (nE (cT L C) p mx) = 59 then 0 else 7)) := by
  obtain ⟨n, rfl⟩ : ∃ i, n = i + 1 + 1 := ⟨n - 2, by omega⟩
  obtain ⟨c1, c2, c3⟩ := cT_le h p
  obtain ⟨d1, d2, d3⟩ := cT_le h (p + 1)
  by_cases e : nF (cT L C) p
  · have e' : 49 ≤ cT L C p ∧ cT L C p ≤ 57 := e
    have pL : p < L := by
      rcases Nat.lt_or_ge p L with q | q
      · exact q
      · have := c3 q; omega
    obtain ⟨s', hs', e1⟩ : ∃ s', (s' = 4 ∨ s' = 5 ∨ s' = 6) ∧ ea s (cT L C p) = s' ∧ (s' = 4 → 10 * (cT L C p - 48) + 9 ≤ mx) ∧ (s' = 5 → cT L C p = 54 ∧ mx = 60) ∧ (s' = 6 → 60 < 10 * (cT L C p - 48) ∧ mx = 60) := by
      rcases hs with ⟨rfl, rfl⟩ | ⟨rfl, rfl⟩
      · unfold ea
        rw [if_neg (show ¬ 2 = 0 by omega), if_neg (show ¬ 2 = 1 by omega), if_pos (show 2 = 2 from rfl)]
        by_cases q : 49 ≤ cT L C p ∧ cT L C p ≤ 53
        · exact ⟨4, by omega, by rw [if_pos q], by omega, by omega, by omega⟩
        · by_cases q2 : cT L C p = 54
          · exact ⟨5, by omega, by rw [if_neg q, if_pos q2], by omega, by omega, by omega⟩
          · exact ⟨6, by omega, by rw [if_neg q, if_neg q2, if_pos (by omega)], by omega, by omega, by omega⟩
      · unfold ea
        rw [if_neg (show ¬ 3 = 0 by omega), if_neg (show ¬ 3 = 1 by omega), if_neg (show ¬ 3 = 2 by omega), if_pos (show 3 = 3 from rfl)]
        exact ⟨4, by omega, by rw [if_pos e'], by omega, by omega, by omega⟩
    obtain ⟨e1, x4, x5, x6⟩ := e1
    have st : F_X5_firstFault_L4 fu (n + 1 + 1) (nI s) (nI p) m = F_X5_firstFault_L4 fu (n + 1) (nI s') (nI (p + 1)) m := by rw [fa_run h (by omega) pL, e1, if_neg (by omega)]
    refine Or.inr ⟨e, ?_⟩
    rw [st]
    unfold nE
    by_cases e2 : 48 ≤ cT L C (p + 1) ∧ cT L C (p + 1) ≤ 57 ∧ 10 * (cT L C p - 48) + (cT L C (p + 1) - 48) ≤ mx
    · rw [if_pos e2]
      have pL1 : p + 1 < L := by
        rcases Nat.lt_or_ge (p + 1) L with q | q
        · exact q
        · have := d3 q; omega
      refine ⟨by omega, 6, n, by omega, by omega, ?_, fun _ => ?_⟩
      · have e3 : ea s' (cT L C (p + 1)) = 6 := by
          unfold ea eaN
          rw [if_neg (by omega), if_neg (by omega), if_neg (by omega), if_neg (by omega), if_neg (by omega)]
          by_cases q4 : s' = 4
          · rw [if_pos q4, if_pos (by omega)]
          · rw [if_neg q4, if_pos (by omega), if_pos (by omega)]
        rw [fa_run h (by omega) pL1, e3, if_neg (by omega)]
      · unfold eaN
        rw [if_neg (show ¬ 6 = 4 by omega), if_neg (show ¬ 6 = 5 by omega)]
    · rw [if_neg e2]
      refine ⟨by omega, s', n + 1, hs', by omega, rfl, fun q => ?_⟩
      unfold eaN
      by_cases q9 : cT L C (p + 1) = 59
      · rw [if_pos q9, if_pos q9]
      · rw [if_neg q9, if_neg q9]
        by_cases q4 : s' = 4
        · rw [if_pos q4, if_neg (by omega)]
        · rw [if_neg q4]
          by_cases q5 : s' = 5
          · rw [if_pos q5, if_neg (by omega)]
          · rw [if_neg q5]
  · refine Or.inl ⟨e, fa_bad h (by omega) hp (fun q => ?_)⟩
    have e' : ¬ (49 ≤ cT L C p ∧ cT L C p ≤ 57) := e
    unfold ea
    rcases hs with ⟨rfl, rfl⟩ | ⟨rfl, rfl⟩
    · rw [if_neg (show ¬ 2 = 0 by omega), if_neg (show ¬ 2 = 1 by omega), if_pos (show 2 = 2 from rfl), if_neg (by omega), if_neg (by omega), if_neg (by omega)]
    · rw [if_neg (show ¬ 3 = 0 by omega), if_neg (show ¬ 3 = 1 by omega), if_neg (show ¬ 3 = 2 by omega), if_pos (show 3 = 3 from rfl), if_neg (by omega)]
theorem st_walk {fu L a n : Nat} {C : Nat → Nat} {m w : Mem} (h : TX L C m w) (ha : a ≤ L) (hn : 5 < n) : (∃ f, f ≤ L ∧ sF (cT L C) a = some f ∧ F_X5_firstFault_L4 fu n 0 (nI a) m = some (nI f, m)) ∨ (sF (cT L C) a = none ∧ sE (cT L C) a ≤ L ∧ a < sE (cT L C) a ∧ ∃ s' n', (s' = 4 ∨ s' = 5 ∨ s' = 6) ∧ n ≤ n' + 4 ∧ F_X5_firstFault_L4 fu n 0 (nI a) m = F_X5_firstFault_L4 fu n' (nI s') (nI (sE (cT L C) a)) m ∧ (sE (cT L C) a < L → eaN s' (cT L C (sE (cT L C) a)) = if cT L C (sE (cT L C) a) = 59 then 0 else 7)) := by
  obtain ⟨n, rfl⟩ : ∃ i, n = i + 1 + 1 := ⟨n - 2, by omega⟩
  obtain ⟨c1, c2, c3⟩ := cT_le h a
  obtain ⟨d1, d2, d3⟩ := cT_le h (a + 1)
  have ge : ∀ p mx, p < nE (cT L C) p mx := fun p mx => by unfold nE; split <;> omega
  have e0 : ea 0 (cT L C a) = if cT L C a = 43 then 3 else if 48 ≤ cT L C a ∧ cT L C a ≤ 50 then 1 else 7 := by
    unfold ea
    rw [if_pos (show 0 = 0 from rfl)]
  have z0 : (0 : Int32) = nI 0 := rfl
  unfold sF sE sP sM
  rw [z0]
  by_cases e : cT L C a = 43
  · rw [if_pos e, if_pos e, if_pos e]
    rw [if_pos e] at e0
    have aL : a < L := by
      rcases Nat.lt_or_ge a L with q | q
      · exact q
      · have := c3 q; omega
    have st : F_X5_firstFault_L4 fu (n + 1 + 1) (nI 0) (nI a) m = F_X5_firstFault_L4 fu (n + 1) (nI 3) (nI (a + 1)) m := by rw [fa_run h (by omega) aL, e0, if_neg (by omega)]
    rw [st]
    rcases num_walk (fu := fu) (n := n + 1) (s := 3) (mx := 99) h (Or.inr ⟨rfl, rfl⟩) (show a + 1 ≤ L by omega) (by omega) with ⟨q1, q2⟩ | ⟨q1, q2, s', n', q3, q4, q5, q6⟩
    · rw [if_neg (show ¬ (49 ≤ cT L C (a + 1) ∧ cT L C (a + 1) ≤ 57) from q1)]
      exact Or.inl ⟨a + 1, by omega, rfl, q2⟩
    · rw [if_pos (show 49 ≤ cT L C (a + 1) ∧ cT L C (a + 1) ≤ 57 from q1)]
      exact Or.inr ⟨rfl, q2, by have := ge (a + 1) 99; omega, s', n', q3, by omega, q5, q6⟩
  · rw [if_neg e, if_neg e, if_neg e]
    rw [if_neg e] at e0
    by_cases e1 : 48 ≤ cT L C a ∧ cT L C a ≤ 50
    · rw [if_pos e1]
      rw [if_pos e1] at e0
      have aL : a < L := by
        rcases Nat.lt_or_ge a L with q | q
        · exact q
        · have := c3 q; omega
      have st : F_X5_firstFault_L4 fu (n + 1 + 1) (nI 0) (nI a) m = F_X5_firstFault_L4 fu (n + 1) (nI 1) (nI (a + 1)) m := by rw [fa_run h (by omega) aL, e0, if_neg (by omega)]
      rw [st]
      have e1' : ea 1 (cT L C (a + 1)) = if 97 ≤ cT L C (a + 1) ∧ cT L C (a + 1) ≤ 101 then 2 else 7 := by
        unfold ea
        rw [if_neg (show ¬ 1 = 0 by omega), if_pos (show 1 = 1 from rfl)]
      by_cases e2 : 97 ≤ cT L C (a + 1) ∧ cT L C (a + 1) ≤ 101
      · rw [if_pos e2]
        rw [if_pos e2] at e1'
        have aL1 : a + 1 < L := by
          rcases Nat.lt_or_ge (a + 1) L with q | q
          · exact q
          · have := d3 q; omega
        have st2 : F_X5_firstFault_L4 fu (n + 1) (nI 1) (nI (a + 1)) m = F_X5_firstFault_L4 fu n (nI 2) (nI (a + 2)) m := by rw [fa_run h (by omega) aL1, e1', if_neg (by omega)]
        rw [st2]
        rcases num_walk (fu := fu) (n := n) (s := 2) (mx := 60) h (Or.inl ⟨rfl, rfl⟩) (show a + 2 ≤ L by omega) (by omega) with ⟨q1, q2⟩ | ⟨q1, q2, s', n', q3, q4, q5, q6⟩
        · rw [if_neg (show ¬ (49 ≤ cT L C (a + 2) ∧ cT L C (a + 2) ≤ 57) from q1)]
          exact Or.inl ⟨a + 2, by omega, rfl, q2⟩
        · rw [if_pos (show 49 ≤ cT L C (a + 2) ∧ cT L C (a + 2) ≤ 57 from q1)]
          exact Or.inr ⟨rfl, q2, by have := ge (a + 2) 60; omega, s', n', q3, by omega, q5, q6⟩
      · rw [if_neg e2]
        rw [if_neg e2] at e1'
        exact Or.inl ⟨a + 1, by omega, rfl, fa_bad h (by omega) (by omega) (fun _ => e1')⟩
    · rw [if_neg e1]
      rw [if_neg e1] at e0
      exact Or.inl ⟨a, ha, rfl, fa_bad h (by omega) ha (fun _ => e0)⟩
def OkN (c : Nat → Nat) (L : Nat) : Nat → Nat → Prop
  | 0, _ => False
  | d + 1, a => sF c a = none ∧ (sE c a = L ∨ (sE c a < L ∧ c (sE c a) = 59 ∧ OkN c L d (sE c a + 1)))
theorem f_all {fu L : Nat} {C : Nat → Nat} {m : Mem} (hf : 100 < fu) : ∀ (d a n n' : Nat) (w : Mem), TX L C m w → a ≤ L → L < a + d → 5 * d + 10 < n → d < n' → ∃ r w', F_X5_firstFault_L4 fu n 0 (nI a) m = some (r, m) ∧ F_X7_findFault_L2 fu n' (nI a) w = some (r, w') ∧ W3 w w' ∧ ((r = -100005 ∧ OkN (cT L C) L d a) ∨ ∃ f, f ≤ 80 ∧ r = nI f) := by
  intro d
  induction d with
  | zero => intro a n n' w h ha hd; omega
  | succ d ih =>
    intro a n n' w h ha hd hn hn'
    have hL := h.1
    obtain ⟨n', rfl⟩ : ∃ i, n' = i + 1 := ⟨n' - 1, by omega⟩
    obtain ⟨r, w', k1, k2, k3⟩ := m_step (fu := fu) h (show a ≤ 80 by omega) (by omega)
    rw [F_X7_findFault_L2, k1, ob_s]
    rcases st_walk (fu := fu) (n := n) h ha (by omega) with ⟨f, q1, q2, q3⟩ | ⟨q1, q2, q3, s', n2, q4, q5, q6, q7⟩
    · rcases k3 with ⟨f', x1, x2⟩ | ⟨x1, -⟩
      · rw [q2] at x1
        injection x1 with x1
        subst x1
        rw [x2, if_neg (ng_n (by omega)), bd_s, ng_b (by omega), q3]
        exact ⟨nI f, w', rfl, rfl, k2, Or.inr ⟨f, by omega, rfl⟩⟩
      · rw [q2] at x1; exact absurd x1 (by simp)
    · rcases k3 with ⟨f', x1, x2⟩ | ⟨x1, x2, -⟩
      · rw [q1] at x1; exact absurd x1 (by simp)
      · have h' := TX_w h k2
        rw [x2, if_pos (nI_pos' (by omega)), h'.2.2.1, nI_if (by omega) (by omega), q6]
        obtain ⟨n2, rfl⟩ : ∃ i, n2 = i + 1 := ⟨n2 - 1, by omega⟩
        by_cases c : sE (cT L C) a = L
        · rw [if_pos c, c, fa_end h (by omega), if_pos q4]
          exact ⟨-100005, w', rfl, rfl, k2, Or.inl ⟨rfl, q1, Or.inl c⟩⟩
        · have cl : sE (cT L C) a < L := by omega
          have e5 := q7 cl
          obtain ⟨c1, c2, -⟩ := cT_le h (sE (cT L C) a)
          have ees : ea s' (cT L C (sE (cT L C) a)) = eaN s' (cT L C (sE (cT L C) a)) := by
            unfold ea
            rw [if_neg (by omega), if_neg (by omega), if_neg (by omega), if_neg (by omega)]
          have em : w' 363 (sE (cT L C) a) = nI (cT L C (sE (cT L C) a)) := by rw [(h'.2.2.2 _ cl).2.2.2, (c2 cl).2]
          rw [if_neg c, gd_in _ (by omega) (by omega), tn (sE (cT L C) a) (by omega), em, show (59 : Int32) = nI 59 from rfl, nI_if (by omega) (by omega), fa_run h (by omega) cl, ees, e5]
          by_cases c9 : cT L C (sE (cT L C) a) = 59
          · rw [if_pos c9, if_pos c9, if_neg (show ¬ 0 = 7 by omega), bd_s, nI_1]
            obtain ⟨r2, w2, y1, y2, y3, y4⟩ := ih (sE (cT L C) a + 1) n2 n' w' h' (by omega) (by omega) (by omega) (by omega)
            refine ⟨r2, w2, y1, y2, W3_tr k2 y3, ?_⟩
            rcases y4 with ⟨z1, z2⟩ | z
            · exact Or.inl ⟨z1, q1, Or.inr ⟨cl, c9, z2⟩⟩
            · exact Or.inr z
          · rw [if_neg c9, if_neg c9, if_pos (show 7 = 7 from rfl)]
            exact ⟨_, w', rfl, rfl, k2, Or.inr ⟨_, by omega, rfl⟩⟩
theorem f_both {fu L : Nat} {C : Nat → Nat} {m w : Mem} (h : TX L C m w) (hf : 1200 < fu) : ∃ r w', F_X5_firstFault fu m = some (r, m) ∧ F_X7_findFault fu w = some (r, w') ∧ W3 w w' ∧ ((r = -100005 ∧ OkN (cT L C) L (L + 1) 0) ∨ ∃ f, f ≤ 80 ∧ r = nI f) := by
  have hL := h.1
  exact f_all (fu := fu) (by omega) (L + 1) 0 fu fu w h (by omega) (by omega) (by omega) (by omega)
theorem GR_w3 {m w w' : Mem} (g : GR m w) (e : W3 w w') : GR m w' := GR_tx g (TR_c g.2.2.2 rfl rfl (e.2 5 (by omega) (by omega) (by omega)) (e.1 363 (by omega))) (fun _ _ => rfl) (e.1 360 (by omega)) (e.1 362 (by omega)) (e.2 3 (by omega) (by omega) (by omega))
theorem ok_fault (fu : Nat) (hf : 1200 < fu) : CallOK (F_X6_fault fu) (F_X7_fault fu) := fun m w g => by
  obtain ⟨L, C, h⟩ := TX_of g.2.2.2
  obtain ⟨r, w', k1, k2, k3, -⟩ := f_both h hf
  unfold F_X6_fault F_X7_fault
  rw [k1, k2, ob_s, ob_s]
  exact ⟨r, m, w', rfl, rfl, GR_w3 g k3, fun _ _ => rfl, fun a ha => k3.1 a (by omega)⟩
