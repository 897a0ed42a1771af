def Srng (r M t s : Nat) : Bool := decide (27 + r ≤ t ∧ t < 27 + M ∧ 1 ≤ s ∧ s ≤ 10)
theorem Srng_lt {r M : Nat} (hM : M ≤ 32) : ∀ t s, Srng r M t s = true → t < 59 := fun t s e => by
  have := of_decide_eq_true e
  omega
theorem Cp_cg {o b : Nat} {S S' : Nat → Nat → Bool} {m m' : Mem} (h : Cp o b S m m') (e : ∀ t s, S t s = S' t s) : Cp o b S' m m' := by
  have : S = S' := by funext t s; exact e t s
  rw [← this]
  exact h
theorem Cp_reqs {fu o b M : Nat} (ha : ap o b) (hM : M ≤ 32) : ∀ d n r, r + d = M → d < n → ∀ m : Mem, m o 6 = nI M → m b 6 = nI M → ∃ m', F_X4_copyFrom_L97 fu o b n (nI r) m = some m' ∧ Cp o b (Srng r M) m m' := by
  intro d
  induction d with
  | zero =>
    intro n r hr hn m h1 h2
    obtain ⟨n, rfl⟩ : ∃ i, n = i + 1 := ⟨n - 1, by omega⟩
    rw [F_X4_copyFrom_L97, h1, if_pos (nI_le (by omega) (by omega))]
    refine ⟨m, rfl, fun t s h => ?_, fun _ _ _ => rfl⟩
    have := of_decide_eq_true h
    omega
  | succ d ih =>
    intro n r hr hn m h1 h2
    obtain ⟨n, rfl⟩ : ∃ i, n = i + 1 := ⟨n - 1, by omega⟩
    have hr1 : r < M := by omega
    obtain ⟨m1, e1, c1⟩ := Cp_req (fu := fu) ha (show r < 32 by omega) m
    have g1 : m1 o 6 = m o 6 := c1.2 o 6 (fun t h => by
      unfold Sreq at h
      rw [Bool.and_eq_true, decide_eq_true_eq] at h
      omega)
    have g2 : m1 b 6 = m b 6 := c1.2 b 6 (fun t h => by
      have h59 := Sreq_lt (show r < 32 by omega) t 6 h
      exact (ha t 0 h59 (by omega)).symm)
    obtain ⟨m2, e2, c2⟩ := ih n (r + 1) (by omega) (by omega) m1 (g1.trans h1) (g2.trans h2)
    rw [F_X4_copyFrom_L97, h1, if_neg (nI_ge hr1 (by omega)), fd_v hr1 hM h1, oq_s, fd_v hr1 hM h2, oq_s, Nat.add_assoc, Nat.add_assoc, e1, ov_s, bd_s, nI_1]
    refine ⟨m2, e2, Cp_cg (Cp_tr ha (Sreq_lt (by omega)) (Srng_lt hM) c1 c2) (fun t s => ?_)⟩
    unfold Sreq Srng
    by_cases e : t = 27 + r
    · rw [decide_eq_true e, decide_eq_false (show ¬ (27 + (r + 1) ≤ t ∧ t < 27 + M ∧ 1 ≤ s ∧ s ≤ 10) by omega), Bool.or_false, Bool.true_and]
      by_cases h1 : 1 ≤ s ∧ s ≤ 10
      · rw [decide_eq_true h1.1, decide_eq_true h1.2, decide_eq_true (show 27 + r ≤ t ∧ t < 27 + M ∧ 1 ≤ s ∧ s ≤ 10 by omega)]; rfl
      · rw [decide_eq_false (show ¬ (27 + r ≤ t ∧ t < 27 + M ∧ 1 ≤ s ∧ s ≤ 10) by omega)]
        by_cases h2 : 1 ≤ s
        · rw [decide_eq_false (show ¬ s ≤ 10 by omega), Bool.and_false]
        · rw [decide_eq_false h2, Bool.false_and]
    · rw [decide_eq_false e, Bool.false_and, Bool.false_or]
      by_cases h1 : 27 + (r + 1) ≤ t ∧ t < 27 + M ∧ 1 ≤ s ∧ s ≤ 10
      · rw [decide_eq_true h1, decide_eq_true (by omega)]
      · rw [decide_eq_false h1, decide_eq_false (by omega)]
def Sall (t s : Nat) : Bool := (((((((((Srow (1 + 1) 4 t s || Srow (3 + 1) 5 t s) || Slane 5 t s) || Slane 12 t s) || Slane 19 t s) || S1p 0 6 t s) || S1p 0 7 t s) || S1p 0 8 t s) || S1p 0 9 t s) || S1p 0 10 t s)
theorem Sall_lo : ∀ i, i < 75 → Sall (lo i) (lt i) = true := by decide +kernel
theorem Sall_7 : Sall 0 7 = true ∧ Sall 0 8 = true ∧ Sall 0 6 = true := by decide +kernel
theorem Cp_srv {fu o b M : Nat} (ha : ap o b) (hM : M ≤ 32) (hf : 80 < fu) (m : Mem) (hm : m b 6 = nI M) : ∃ m', F_X4_copyFrom fu o b m = some m' ∧ Cp o b (fun t s => Sall t s || Srng 0 M t s) m m' := by
  obtain ⟨m1, e1, c1⟩ := Cp_row (fu := fu) (n := 4) (t := 1) (by decide) ha (by omega) (by omega) m
  obtain ⟨m2, e2, c2⟩ := Cp_row (fu := fu) (n := 5) (t := 3) (by decide) ha (by omega) (by omega) m1
  obtain ⟨m3, e3, c3⟩ := Cp_lane (fu := fu) (t := 5) ha (by omega) (by omega) m2
  obtain ⟨m4, e4, c4⟩ := Cp_lane (fu := fu) (t := 12) ha (by omega) (by omega) m3
  obtain ⟨m5, e5, c5⟩ := Cp_lane (fu := fu) (t := 19) ha (by omega) (by omega) m4
  have l1 := Srow_lt (t := 1 + 1) (n := 4) (by omega)
  have l2 := Srow_lt (t := 3 + 1) (n := 5) (by omega)
  have l3 := Slane_lt (t := 5) (by omega)
  have l4 := Slane_lt (t := 12) (by omega)
  have l5 := Slane_lt (t := 19) (by omega)
  have p := fun s => S1p_lt (t := 0) (n := s) (by omega)
  have a2 := or_lt l1 l2
  have a3 := or_lt a2 l3
  have a4 := or_lt a3 l4
  have a5 := or_lt a4 l5
  have a6 := or_lt a5 (p 6)
  have a7 := or_lt a6 (p 7)
  have a8 := or_lt a7 (p 8)
  have a9 := or_lt a8 (p 9)
  have a10 := or_lt a9 (p 10)
  have c : Cp o b Sall m _ := Cp_tr ha a9 (p 10) (Cp_tr ha a8 (p 9) (Cp_tr ha a7 (p 8) (Cp_tr ha a6 (p 7) (Cp_tr ha a5 (p 6) (Cp_tr ha a4 l5 (Cp_tr ha a3 l4 (Cp_tr ha a2 l3 (Cp_tr ha l1 l2 c1 c2) c3) c4) c5) Cp_put) Cp_put) Cp_put) Cp_put) Cp_put
  have hb6 := c.2 b 6 (fun t h => (ha t 0 (a10 t 6 h) (by omega)).symm)
  have ho6 := c.1 0 6 Sall_7.2.2
  unfold F_X4_copyFrom
  rw [e1, ov_s, e2, ov_s, e3, ov_s, e4, ov_s, e5, ov_s, bd_s, bd_s, bd_s, bd_s, bd_s]
  simp only [Nat.add_zero] at c hb6 ho6
  obtain ⟨m7, e7, c7⟩ := Cp_reqs (fu := fu) ha hM M fu 0 (by omega) (by omega) _ (ho6.trans hm) (hb6.trans hm)
  exact ⟨m7, e7, Cp_tr ha a10 (Srng_lt hM) c c7⟩
/-- a server is copied -/
theorem s_copy {fu o b M c B : Nat} {m : Mem} {z : Nat → Int32} (h : Rel b m z M 99) (hi : Inv z M c B 99) (hn : RN o m) (ha : ap o b) (hf : 80 < fu) : ∃ m', F_X4_copyFrom fu o b m = some m' ∧ Rel o m' z M 99 ∧ Fr o m m' := by
  have hM := hi.1.2.1
  obtain ⟨m', e, c1, c2⟩ := Cp_srv (fu := fu) ha hM hf m (by rw [v_cnt h]; exact hi.1.1)
  obtain ⟨h1, h2, h3, h4, h5⟩ := h
  have rq : ∀ r s, r < M → 1 ≤ s → s ≤ 10 → m' (o + 27 + r) s = m (b + 27 + r) s := fun r s hr s1 s2 => by
    rw [Nat.add_assoc, Nat.add_assoc]
    refine c1 (27 + r) s ?_
    show (Sall (27 + r) s || Srng 0 M (27 + r) s) = true
    rw [show Srng 0 M (27 + r) s = true from decide_eq_true (by omega), Bool.or_true]
  have sl : ∀ t s, Sall t s = true → m' (o + t) s = m (b + t) s := fun t s h => c1 t s (by show (Sall t s || Srng 0 M t s) = true; rw [h, Bool.true_or])
  refine ⟨m', e, ⟨fun i hi => ?_, fun r hr g hg _ => ?_, fun r hr e => ?_, ⟨?_, ?_⟩, fun r hr => ?_⟩, fun a ha' => ?_⟩
  · rw [sl _ _ (Sall_lo i hi)]; exact h1 i hi
  · rw [rq r (g + 1) hr (by omega) (by omega)]; exact h2 r hr g hg (by omega)
  · rw [rq r 10 hr (by omega) (by omega), rq r 9 hr (by omega) (by omega)]; exact h3 r hr e
  · have := sl 0 7 Sall_7.1
    exact this.trans h4.1
  · have := sl 0 8 Sall_7.2.1
    exact this.trans h4.2
  · rw [c2 (o + 27 + r) 0 (fun t h e => ?_)]
    · exact hn r hr
    · have h : (Sall t 0 || Srng 0 M t 0) = true := h
      have ht : t = 27 + r := by omega
      subst ht
      rw [show Srng 0 M (27 + r) 0 = false from decide_eq_false (by omega), Bool.or_false] at h
      unfold Sall Slane Srow S1p at h
      rw [decide_eq_false (show ¬ 27 + r = 1 + 1 by omega), decide_eq_false (show ¬ 27 + r = 3 + 1 by omega), decide_eq_false (show ¬ 27 + r = 5 + 1 + 1 by omega), decide_eq_false (show ¬ 27 + r = 5 + 3 + 1 by omega), decide_eq_false (show ¬ 27 + r = 5 + 5 + 1 by omega), decide_eq_false (show ¬ 27 + r = 5 by omega), decide_eq_false (show ¬ 27 + r = 12 + 1 + 1 by omega), decide_eq_false (show ¬ 27 + r = 12 + 3 + 1 by omega), decide_eq_false (show ¬ 27 + r = 12 + 5 + 1 by omega), decide_eq_false (show ¬ 27 + r = 12 by omega), decide_eq_false (show ¬ 27 + r = 19 + 1 + 1 by omega), decide_eq_false (show ¬ 27 + r = 19 + 3 + 1 by omega), decide_eq_false (show ¬ 27 + r = 19 + 5 + 1 by omega), decide_eq_false (show ¬ 27 + r = 19 by omega), decide_eq_false (show ¬ 27 + r = 0 by omega)] at h
      simp at h
  · funext s
    refine c2 a s (fun t h e => ?_)
    have h : (Sall t s || Srng 0 M t s) = true := h
    have : t < 59 := by
      rcases Bool.or_eq_true _ _ ▸ h with h | h
      · exact or_lt (or_lt (or_lt (or_lt (or_lt (or_lt (or_lt (or_lt (or_lt (Srow_lt (by omega)) (Srow_lt (by omega))) (Slane_lt (by omega))) (Slane_lt (by omega))) (Slane_lt (by omega))) (S1p_lt (by omega))) (S1p_lt (by omega))) (S1p_lt (by omega))) (S1p_lt (by omega))) (S1p_lt (by omega)) t s h
      · exact Srng_lt hM t s h
    omega
/-! ===== copying the reference's arrays ===== -/
def mrow (w : Mem) (a : Nat) (f : Nat → Int32) : Mem := fun c => if c = a then f else w c
theorem mrow_at (w : Mem) (a : Nat) (f : Nat → Int32) : mrow w a f a = f := if_pos rfl
theorem mrow_ne (w : Mem) {a c : Nat} (f : Nat → Int32) (h : c ≠ a) : mrow w a f c = w c := if_neg h
theorem mput_row (w : Mem) (a i : Nat) (f : Nat → Int32) (v : Int32) : mput (mrow w a f) a i v = mrow w a (upd f i v) := by
  funext c
  by_cases h : c = a
  · subst h; rw [mput_same, mrow_at, mrow_at]
  · rw [mput_other _ _ _ h, mrow_ne _ _ h, mrow_ne _ _ h]
theorem mrow_self (w : Mem) (a : Nat) : mrow w a (w a) = w := by
  funext c
  by_cases h : c = a
  · subst h; exact mrow_at _ _ _
  · exact mrow_ne _ _ h
/-- the first places up to j out of g, the others as in f -/
def cut (g f : Nat → Int32) (j : Nat) : Nat → Int32 := fun i => if i < j then g i else f i
theorem cut_0 (g f : Nat → Int32) : cut g f 0 = f := by
  funext i
  exact if_neg (Nat.not_lt_zero i)
theorem cut_s (g f : Nat → Int32) (j : Nat) : upd (cut g f j) j (g j) = cut g f (j + 1) := by
  funext i
  unfold cut
  by_cases h : i = j
  · subst h; rw [upd_s, if_pos (by omega)]
  · rw [upd_n _ _ h]
    by_cases h2 : i < j
    · rw [if_pos h2, if_pos (by omega)]
    · rw [if_neg h2, if_neg (by omega)]
theorem m_aside {fu : Nat} {w : Mem} : ∀ d n j, j + d = 395 → d < n → F_X7_putAside_L2 fu n (nI j) (mrow w 361 (cut (w 360) (w 361) j)) = some (mrow w 361 (cut (w 360) (w 361) 395)) := by
  intro d
  induction d with
  | zero =>
    intro n j hj hn
    obtain ⟨n, rfl⟩ : ∃ i, n = i + 1 := ⟨n - 1, by omega⟩
    obtain rfl : j = 395 := by omega
    rw [F_X7_putAside_L2, if_pos (by decide)]
  | succ d ih =>
    intro n j hj hn
    obtain ⟨n, rfl⟩ : ∃ i, n = i + 1 := ⟨n - 1, by omega⟩
    rw [F_X7_putAside_L2, if_neg (show ¬ (395 : Int32) ≤ nI j by rw [show (395 : Int32) = nI 395 from rfl]; exact nI_ge (by omega) (by omega)), gd_in _ (by omega) (by omega), gd_in _ (by omega) (by omega), bd_s, bd_s, nI_1, tn j (by omega), mput_row, mrow_ne _ _ (show 360 ≠ 361 by omega), cut_s]
    exact ih n (j + 1) (by omega) (by omega)
theorem m_putAside {fu : Nat} {w : Mem} (hf : 400 < fu) : F_X7_putAside fu w = some (mrow w 361 (cut (w 360) (w 361) 395)) := by
  have h := m_aside (fu := fu) (w := w) 395 fu 0 (by omega) (by omega)
  rw [cut_0, mrow_self] at h
  exact h
theorem m_back0 {fu : Nat} {w : Mem} : ∀ d n j, j + d = 395 → d < n → F_X7_putBack_L2 fu n (nI j) (mrow w 360 (cut (w 361) (w 360) j)) = some (mrow w 360 (cut (w 361) (w 360) 395)) := by
  intro d
  induction d with
  | zero =>
    intro n j hj hn
    obtain ⟨n, rfl⟩ : ∃ i, n = i + 1 := ⟨n - 1, by omega⟩
    obtain rfl : j = 395 := by omega
    rw [F_X7_putBack_L2, if_pos (by decide)]
  | succ d ih =>
    intro n j hj hn
    obtain ⟨n, rfl⟩ : ∃ i, n = i + 1 := ⟨n - 1, by omega⟩
    rw [F_X7_putBack_L2, if_neg (show ¬ (395 : Int32) ≤ nI j by rw [show (395 : Int32) = nI 395 from rfl]; exact nI_ge (by omega) (by omega)), gd_in _ (by omega) (by omega), gd_in _ (by omega) (by omega), bd_s, bd_s, nI_1, tn j (by omega), mput_row, mrow_ne _ _ (show 361 ≠ 360 by omega), cut_s]
    exact ih n (j + 1) (by omega) (by omega)
theorem m_putBack {fu : Nat} {w : Mem} (hf : 400 < fu) : F_X7_putBack fu w = some (mrow w 360 (cut (w 361) (w 360) 395)) := by
  have h := m_back0 (fu := fu) (w := w) 395 fu 0 (by omega) (by omega)
  rw [cut_0, mrow_self] at h
  exact h
