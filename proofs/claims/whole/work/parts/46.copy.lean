/-! ===== copying a server: a part S of the block at o is overwritten out of the block at b ===== -/
def Cp (o b : Nat) (S : Nat → Nat → Bool) (m m' : Mem) : Prop := (∀ t s, S t s = true → m' (o + t) s = m (b + t) s) ∧ ∀ a s, (∀ t, S t s = true → a ≠ o + t) → m' a s = m a s
def ap (o b : Nat) : Prop := ∀ t t', t < 59 → t' < 59 → o + t ≠ b + t'
theorem Cp_tr {o b : Nat} {S1 S2 : Nat → Nat → Bool} {m m1 m2 : Mem} (ha : ap o b) (l1 : ∀ t s, S1 t s = true → t < 59) (l2 : ∀ t s, S2 t s = true → t < 59) (h1 : Cp o b S1 m m1) (h2 : Cp o b S2 m1 m2) : Cp o b (fun t s => S1 t s || S2 t s) m m2 := by
  refine ⟨fun t s h => ?_, fun a s h => ?_⟩
  · cases e2 : S2 t s with
    | true =>
      rw [h2.1 t s e2]
      exact h1.2 _ s (fun t' e1 => (ha t' t (l1 t' s e1) (l2 t s e2)).symm)
    | false =>
      have e1 : S1 t s = true := by
        have h : (S1 t s || S2 t s) = true := h
        rw [e2, Bool.or_false] at h
        exact h
      rw [h2.2 (o + t) s (fun t' e e3 => by
        have : t = t' := by omega
        subst this
        rw [e2] at e
        cases e)]
      exact h1.1 t s e1
  · rw [h2.2 a s (fun t e => h t (show (S1 t s || S2 t s) = true by rw [e, Bool.or_true])), h1.2 a s (fun t e => h t (show (S1 t s || S2 t s) = true by rw [e, Bool.true_or]))]
def S1p (t s : Nat) (t' s' : Nat) : Bool := decide (t' = t) && decide (s' = s)
def Srow (t n : Nat) (t' s' : Nat) : Bool := decide (t' = t) && decide (s' < n)
theorem Cp_put {o b t s : Nat} {m : Mem} : Cp o b (S1p t s) m (mput m (o + t) s (m (b + t) s)) := by
  refine ⟨fun t' s' h => ?_, fun a s' h => ?_⟩
  · unfold S1p at h
    rw [Bool.and_eq_true, decide_eq_true_eq, decide_eq_true_eq] at h
    obtain ⟨rfl, rfl⟩ := h
    exact mput_at _ _ _ _
  · refine mput_ne _ _ ?_
    by_cases e : a = o + t
    · refine Or.inr (fun e2 => h t ?_ e)
      unfold S1p
      rw [decide_eq_true rfl, decide_eq_true e2]
      rfl
    · exact Or.inl e
theorem c_row {fu o b n : Nat} (hn : n < 2 ^ 31) (hne : o + 1 ≠ b + 1) (m0 : Mem) : ∀ d k j, j + d = n → d < k → ∀ m : Mem, (∀ i, i < j → m (o + 1) i = m0 (b + 1) i) → (∀ a i, (a ≠ o + 1 ∨ j ≤ i) → m a i = m0 a i) → ∃ m', F_X3_copyFrom_L2 fu o n b n k (nI j) m = some m' ∧ (∀ i, i < n → m' (o + 1) i = m0 (b + 1) i) ∧ ∀ a i, (a ≠ o + 1 ∨ n ≤ i) → m' a i = m0 a i := by
  intro d
  induction d with
  | zero =>
    intro k j hj hk m h1 h2
    obtain ⟨k, rfl⟩ : ∃ i, k = i + 1 := ⟨k - 1, by omega⟩
    rw [F_X3_copyFrom_L2, if_pos (nI_le (by omega) (by omega))]
    exact ⟨m, rfl, fun i hi => h1 i (by omega), fun a i hi => h2 a i (by omega)⟩
  | succ d ih =>
    intro k j hj hk m h1 h2
    obtain ⟨k, rfl⟩ : ∃ i, k = i + 1 := ⟨k - 1, by omega⟩
    rw [F_X3_copyFrom_L2, if_neg (nI_ge (by omega) (by omega)), if_neg (nI_ge (by omega) (by omega)), inb_nI (by omega) (by omega), gd_t, gd_t, bd_s, bd_s, nI_1, tn j (by omega)]
    refine ih k (j + 1) (by omega) (by omega) _ (fun i hi => ?_) (fun a i hi => ?_)
    · by_cases e : i = j
      · subst e
        rw [mput_at]
        exact h2 _ _ (Or.inl (Ne.symm hne))
      · rw [mput_ne _ _ (by omega)]
        exact h1 i (by omega)
    · rw [mput_ne _ _ (by omega)]
      exact h2 a i (by omega)
theorem Cp_row {fu o b t n : Nat} (hn : n < 2 ^ 31) (ha : ap o b) (ht : t + 1 < 59) (hf : n < fu) (m : Mem) : ∃ m', F_X3_copyFrom fu (o + t) n (b + t) n m = some m' ∧ Cp o b (Srow (t + 1) n) m m' := by
  obtain ⟨m', e, h1, h2⟩ := c_row (fu := fu) (o := o + t) (b := b + t) hn (ha (t + 1) (t + 1) ht ht) m n fu 0 (by omega) hf m (fun i hi => absurd hi (Nat.not_lt_zero i)) (fun _ _ _ => rfl)
  refine ⟨m', e, fun t' s h => ?_, fun a s h => ?_⟩
  · unfold Srow at h
    rw [Bool.and_eq_true, decide_eq_true_eq, decide_eq_true_eq] at h
    obtain ⟨rfl, h⟩ := h
    exact h1 s h
  · refine h2 a s ?_
    by_cases e : a = o + t + 1
    · refine Or.inr (Nat.not_lt.mp (fun e2 => h (t + 1) ?_ e))
      unfold Srow
      rw [decide_eq_true rfl, decide_eq_true e2]
      rfl
    · exact Or.inl e
def Slane (t : Nat) (t' s' : Nat) : Bool := ((((((Srow (t + 1 + 1) 4 t' s' || Srow (t + 3 + 1) 6 t' s') || Srow (t + 5 + 1) 8 t' s') || S1p t 3 t' s') || S1p t 4 t' s') || S1p t 5 t' s') || S1p t 6 t' s')
theorem Srow_lt {t n : Nat} (h : t < 59) : ∀ t' s, Srow t n t' s = true → t' < 59 := fun t' s e => by
  unfold Srow at e
  rw [Bool.and_eq_true, decide_eq_true_eq] at e
  omega
theorem S1p_lt {t n : Nat} (h : t < 59) : ∀ t' s, S1p t n t' s = true → t' < 59 := fun t' s e => by
  unfold S1p at e
  rw [Bool.and_eq_true, decide_eq_true_eq] at e
  omega
theorem or_lt {S1 S2 : Nat → Nat → Bool} (l1 : ∀ t s, S1 t s = true → t < 59) (l2 : ∀ t s, S2 t s = true → t < 59) : ∀ t s, (S1 t s || S2 t s) = true → t < 59 := fun t s h => by
  rcases Bool.or_eq_true _ _ ▸ h with h | h
  · exact l1 t s h
  · exact l2 t s h
theorem Slane_lt {t : Nat} (h : t + 6 < 59) : ∀ t' s, Slane t t' s = true → t' < 59 := or_lt (or_lt (or_lt (or_lt (or_lt (or_lt (Srow_lt (by omega)) (Srow_lt (by omega))) (Srow_lt (by omega))) (S1p_lt (by omega))) (S1p_lt (by omega))) (S1p_lt (by omega))) (S1p_lt (by omega))
theorem Cp_lane {fu o b t : Nat} (ha : ap o b) (ht : t + 6 < 59) (hf : 9 < fu) (m : Mem) : ∃ m', F_X1_copyFrom fu (o + t) (b + t) m = some m' ∧ Cp o b (Slane t) m m' := by
  obtain ⟨m1, e1, c1⟩ := Cp_row (fu := fu) (n := 4) (t := t + 1) (by decide) ha (by omega) (by omega) m
  obtain ⟨m2, e2, c2⟩ := Cp_row (fu := fu) (n := 6) (t := t + 3) (by decide) ha (by omega) (by omega) m1
  obtain ⟨m3, e3, c3⟩ := Cp_row (fu := fu) (n := 8) (t := t + 5) (by decide) ha (by omega) (by omega) m2
  unfold F_X1_copyFrom
  have e1 : F_X3_copyFrom fu (o + t + 1) 4 (b + t + 1) 4 m = some m1 := e1
  have e2 : F_X3_copyFrom fu (o + t + 3) 6 (b + t + 3) 6 m1 = some m2 := e2
  have e3 : F_X3_copyFrom fu (o + t + 5) 8 (b + t + 5) 8 m2 = some m3 := e3
  rw [e1, ov_s, e2, ov_s, e3, ov_s, bd_s, bd_s, bd_s, bd_s]
  have l1 := Srow_lt (t := t + 1 + 1) (n := 4) (by omega)
  have l2 := Srow_lt (t := t + 3 + 1) (n := 6) (by omega)
  have l3 := Srow_lt (t := t + 5 + 1) (n := 8) (by omega)
  have p := fun s => S1p_lt (t := t) (n := s) (by omega)
  exact ⟨_, rfl, Cp_tr ha (or_lt (or_lt (or_lt (or_lt (or_lt l1 l2) l3) (p 3)) (p 4)) (p 5)) (p 6) (Cp_tr ha (or_lt (or_lt (or_lt (or_lt l1 l2) l3) (p 3)) (p 4)) (p 5) (Cp_tr ha (or_lt (or_lt (or_lt l1 l2) l3) (p 3)) (p 4) (Cp_tr ha (or_lt (or_lt l1 l2) l3) (p 3) (Cp_tr ha (or_lt l1 l2) l3 (Cp_tr ha l1 l2 c1 c2) c3) Cp_put) Cp_put) Cp_put) Cp_put⟩
def Sreq (r : Nat) (t s : Nat) : Bool := decide (t = 27 + r) && (decide (1 ≤ s) && decide (s ≤ 10))
theorem Sreq_lt {r : Nat} (h : r < 32) : ∀ t s, Sreq r t s = true → t < 59 := fun t' s e => by
  unfold Sreq at e
  rw [Bool.and_eq_true, decide_eq_true_eq] at e
  omega
theorem Cp_req {fu o b r : Nat} (ha : ap o b) (hr : r < 32) (m : Mem) : ∃ m', F_X2_copyFrom fu (o + (27 + r)) (b + (27 + r)) m = some m' ∧ Cp o b (Sreq r) m m' := by
  unfold F_X2_copyFrom
  simp only [bd_s]
  have p := fun s => S1p_lt (t := 27 + r) (n := s) (by omega)
  have c := Cp_tr ha (or_lt (or_lt (or_lt (or_lt (or_lt (or_lt (or_lt (or_lt (p 1) (p 2)) (p 3)) (p 4)) (p 5)) (p 6)) (p 7)) (p 8)) (p 9)) (p 10) (Cp_tr ha (or_lt (or_lt (or_lt (or_lt (or_lt (or_lt (or_lt (p 1) (p 2)) (p 3)) (p 4)) (p 5)) (p 6)) (p 7)) (p 8)) (p 9) (Cp_tr ha (or_lt (or_lt (or_lt (or_lt (or_lt (or_lt (p 1) (p 2)) (p 3)) (p 4)) (p 5)) (p 6)) (p 7)) (p 8) (Cp_tr ha (or_lt (or_lt (or_lt (or_lt (or_lt (p 1) (p 2)) (p 3)) (p 4)) (p 5)) (p 6)) (p 7) (Cp_tr ha (or_lt (or_lt (or_lt (or_lt (p 1) (p 2)) (p 3)) (p 4)) (p 5)) (p 6) (Cp_tr ha (or_lt (or_lt (or_lt (p 1) (p 2)) (p 3)) (p 4)) (p 5) (Cp_tr ha (or_lt (or_lt (p 1) (p 2)) (p 3)) (p 4) (Cp_tr ha (or_lt (p 1) (p 2)) (p 3) (Cp_tr ha (p 1) (p 2) (Cp_put (m := m)) Cp_put) Cp_put) Cp_put) Cp_put) Cp_put) Cp_put) Cp_put) Cp_put) Cp_put
  refine ⟨_, rfl, ?_⟩
  have e : (fun t s => (((((((((S1p (27 + r) 1 t s || S1p (27 + r) 2 t s) || S1p (27 + r) 3 t s) || S1p (27 + r) 4 t s) || S1p (27 + r) 5 t s) || S1p (27 + r) 6 t s) || S1p (27 + r) 7 t s) || S1p (27 + r) 8 t s) || S1p (27 + r) 9 t s) || S1p (27 + r) 10 t s)) = Sreq r := by
    funext t s
    unfold S1p Sreq
    by_cases e : t = 27 + r
    · rw [decide_eq_true e]
      simp only [Bool.true_and]
      by_cases h1 : 1 ≤ s ∧ s ≤ 10
      · rw [decide_eq_true h1.1, decide_eq_true h1.2]
        rcases (show s = 1 ∨ s = 2 ∨ s = 3 ∨ s = 4 ∨ s = 5 ∨ s = 6 ∨ s = 7 ∨ s = 8 ∨ s = 9 ∨ s = 10 by omega) with rfl | rfl | rfl | rfl | rfl | rfl | rfl | rfl | rfl | rfl <;> rfl
      · rw [decide_eq_false (show ¬ s = 1 by omega), decide_eq_false (show ¬ s = 2 by omega), decide_eq_false (show ¬ s = 3 by omega), decide_eq_false (show ¬ s = 4 by omega), decide_eq_false (show ¬ s = 5 by omega), decide_eq_false (show ¬ s = 6 by omega), decide_eq_false (show ¬ s = 7 by omega), decide_eq_false (show ¬ s = 8 by omega), decide_eq_false (show ¬ s = 9 by omega), decide_eq_false (show ¬ s = 10 by omega)]
        by_cases h2 : 1 ≤ s
        · rw [decide_eq_false (show ¬ s ≤ 10 by omega), Bool.and_false]; rfl
        · rw [decide_eq_false h2]; rfl
    · rw [decide_eq_false e]
      simp only [Bool.false_and, Bool.or_false]
  rw [e] at c
  exact c
