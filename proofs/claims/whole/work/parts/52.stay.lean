/-! ===== a rejected request stays rejected ===== -/
def Sq (q : Nat) (z z' : Nat → Int32) : Prop := ∀ r, r ≠ q → z' (78 + 10 * r) = z (78 + 10 * r)
def S4 (z z' : Nat → Int32) : Prop := ∀ r, z (78 + 10 * r) = 4 → z' (78 + 10 * r) = 4
theorem S4_rf {z : Nat → Int32} : S4 z z := fun _ h => h
theorem S4_tr {z z' y : Nat → Int32} (h : S4 z z') (h2 : S4 z' y) : S4 z y := fun r e => h2 r (h r e)
theorem S4_q {q : Nat} {z z' : Nat → Int32} (h : Sq q z z') (n : ¬ z (78 + 10 * q) = 4) : S4 z z' := fun r e => by
  by_cases c : r = q
  · subst c; exact absurd e n
  · rw [h r c]; exact e
theorem Sq_rf {q : Nat} {z : Nat → Int32} : Sq q z z := fun _ _ => rfl
theorem Sq_tr {q : Nat} {z z' y : Nat → Int32} (h : Sq q z z') (h2 : Sq q z' y) : Sq q z y := fun r e => (h2 r e).trans (h r e)
theorem Sq_up {q i : Nat} {z : Nat → Int32} {v : Int32} (h : ∀ r, r ≠ q → 78 + 10 * r ≠ i) : Sq q z (upd z i v) := fun r hr => upd_n _ _ (h r hr)
theorem Sq_add {q k : Nat} {z : Nat → Int32} {a : Int32} (hk : k < 3) : Sq q z (zAdd z k a) := Sq_up (fun r _ => by omega)
theorem Sq_refuse {q k j : Nat} {z : Nat → Int32} (hk : k < 3) (hj : j ≤ 5) : Sq q z (zRefuse z q k j) := by
  unfold zRefuse
  have h1 : Sq q z (upd (upd z (51 + 5 * k + j) (z (51 + 5 * k + j) + 1)) (82 + 10 * q) (nI j)) := Sq_tr (Sq_up (fun r _ => by omega)) (Sq_up (fun r _ => by omega))
  dsimp only
  split
  · exact Sq_tr (Sq_tr h1 (Sq_up (fun r _ => by omega))) (Sq_up (fun r _ => by omega))
  · exact Sq_tr (Sq_tr h1 (Sq_up (fun r _ => by omega))) (Sq_up (fun r _ => by omega))
theorem Sq_catch {q k : Nat} {z : Nat → Int32} (hk : k < 3) : Sq q z (zCatch z k) := fun r _ => zCatch_o (by omega)
theorem Sq_join {q k : Nat} {z : Nat → Int32} (hk : k < 3) (hL : ln z k < 8) : Sq q z (zJoin z q k) := by
  unfold zJoin
  exact Sq_tr (Sq_tr (Sq_tr (Sq_tr (Sq_up (fun r _ => by omega)) (Sq_up (fun r _ => by omega))) (Sq_up (fun r _ => by omega))) (Sq_up (fun r _ => by omega))) (Sq_up (fun r _ => by omega))
theorem Sq_admit {q k : Nat} {z : Nat → Int32} (hk : k < 3) (hL : ln z k < 8) : Sq q z (zAdmit z q k) := by
  unfold zAdmit
  refine Sq_tr (Sq_tr (Sq_up (fun r _ => by omega)) (Sq_catch hk)) (Sq_join hk ?_)
  rw [ln_c (zCatch_o (by omega)), ln_c (upd_n _ _ (by omega))]
  exact hL
theorem Sq_leave {q k p : Nat} {z : Nat → Int32} (hk : k < 3) (hL : ln z k ≤ 8) (hp : p < ln z k) : Sq q z (zLeave z k p) := fun r _ => zLeave_o hk hL hp (by omega)
theorem Sq_step {q k : Nat} {z : Nat → Int32} (hk : k < 3) : Sq q z (zStep z q k) := fun r hr => zStep_o (by omega) (by omega) (by omega) (by omega)
theorem Sq_done {q k s : Nat} {z : Nat → Int32} (hk : k < 3) (hs : s < 5) (hL : ln z k ≤ 8) (hp : 0 < ln z k) : Sq q z (zDone z q k s) := by
  unfold zDone
  have h1 : Sq q z (upd (upd (zLeave z k 0) (78 + 10 * q) 2) (83 + 10 * q) (z 67)) := Sq_tr (Sq_tr (Sq_leave hk hL hp) (Sq_up (fun r _ => by omega))) (Sq_up (fun r _ => by omega))
  have h2 := Sq_tr h1 (Sq_up (v := z (70 + s) + (16 * z (77 + 10 * q) - z (70 + s)) / 4) (i := 70 + s) (fun r _ => by omega))
  dsimp only
  split
  · exact Sq_tr h2 (Sq_up (fun r _ => by omega))
  · exact Sq_tr h2 (Sq_add hk)
theorem S4_up {i : Nat} {z : Nat → Int32} {v : Int32} (h : ∀ r, 78 + 10 * r ≠ i) : S4 z (upd z i v) := fun r e => by rw [upd_n _ _ (h r)]; exact e
theorem S4_offer {z : Nat → Int32} {M c B k s r : Nat} (h : Inv z M c B 99) (hr : r < M) (hk : k < 3) (hs : s < 5) (hn : ¬ z (78 + 10 * r) = 4) : S4 z (zOffer z r k s).2 := by
  have h8 : ln z k ≤ 8 := IQ_L h.2.2.1 k hk
  have hz := (h.2.2.1 k hk).1
  refine S4_q (q := r) ?_ hn
  unfold zOffer
  have h1 : Sq r z (upd (upd z (81 + 10 * r) (z (81 + 10 * r) + 1)) (79 + 10 * r) (zCost z s)) := Sq_tr (Sq_up (fun r _ => by omega)) (Sq_up (fun r _ => by omega))
  have e25 : upd (upd z (81 + 10 * r) (z (81 + 10 * r) + 1)) (79 + 10 * r) (zCost z s) (25 + k) = z (25 + k) := by rw [upd_n _ _ (by omega), upd_n _ _ (by omega)]
  have eL := ln_c e25
  show Sq r z (if zWhy (upd (upd z (81 + 10 * r) (z (81 + 10 * r) + 1)) (79 + 10 * r) (zCost z s)) k (zCost z s) ≤ 0 then zAdmit (upd (upd z (81 + 10 * r) (z (81 + 10 * r) + 1)) (79 + 10 * r) (zCost z s)) r k else zRefuse (upd (upd z (81 + 10 * r) (z (81 + 10 * r) + 1)) (79 + 10 * r) (zCost z s)) r k (zWhy (upd (upd z (81 + 10 * r) (z (81 + 10 * r) + 1)) (79 + 10 * r) (zCost z s)) k (zCost z s)).toNatClampNeg)
  generalize upd (upd z (81 + 10 * r) (z (81 + 10 * r) + 1)) (79 + 10 * r) (zCost z s) = y at *
  refine Sq_tr h1 ?_
  have ref : ∀ j, 1 ≤ j → j ≤ 4 → zWhy y k (zCost z s) = nI j → Sq r y (if zWhy y k (zCost z s) ≤ 0 then zAdmit y r k else zRefuse y r k (zWhy y k (zCost z s)).toNatClampNeg) := by
    intro j j1 j2 e
    rw [e, if_neg (nle0 j1 (by omega)), tn j (by omega)]
    exact Sq_refuse hk (by omega)
  rcases zWhy_in y k (zCost z s) with ⟨e, e8⟩ | e | e | e | e
  · rw [e, if_pos (by decide)]
    refine Sq_admit hk ?_
    rcases Nat.lt_or_ge (ln y k) 8 with q | q
    · exact q
    · exfalso
      apply e8
      rw [e25, hz, show ln z k = 8 by omega]
      rfl
  · exact ref 1 (by omega) (by omega) e
  · exact ref 2 (by omega) (by omega) e
  · exact ref 3 (by omega) (by omega) e
  · exact ref 4 (by omega) (by omega) e
theorem S4_late {k M c B : Nat} (hk : k < 3) : ∀ (d p : Nat) (z : Nat → Int32), Inv z M c B 99 → p + d = ln z k → S4 z (zLate z k p d) ∧ Inv (zLate z k p d) M c B 99 := by
  intro d
  induction d with
  | zero =>
    intro p z h hp
    rw [zLate_0]
    exact ⟨S4_rf, h⟩
  | succ d ih =>
    intro p z h hp
    obtain ⟨x1, x2, x3⟩ := h.2.2.1 k hk
    have hM := h.1.2.1
    obtain ⟨q, q1, -, q3, -⟩ := x3 p (by omega)
    rw [zLate_s z k p d q q3 (by omega)]
    have stay := ih (p + 1) z h (by omega)
    by_cases c1 : z (78 + 10 * q) = 0
    · rw [if_pos c1]
      by_cases c2 : z 67 - z (84 + 10 * q) < z 1
      · rw [if_pos c2]; exact stay
      · rw [if_neg c2]
        obtain ⟨i1, i2⟩ := Inv_late1 h hk (by omega) q3 q1
        obtain ⟨s1, s2⟩ := ih p _ i1 (by omega)
        refine ⟨S4_tr (S4_q (q := q) (Sq_tr (Sq_tr (Sq_leave hk x2 (by omega)) (Sq_refuse (Inv_kd h q1).1 (by omega))) (Sq_add hk)) (by rw [c1]; decide)) s1, s2⟩
    · rw [if_neg c1]; exact stay
theorem S4_lates {M c B : Nat} {z : Nat → Int32} (h : Inv z M c B 99) : ∀ n, n ≤ 3 → S4 z (zLates n z) ∧ Inv (zLates n z) M c B 99
  | 0, _ => ⟨S4_rf, h⟩
  | n + 1, hn => by
    obtain ⟨a, b⟩ := S4_lates h n (by omega)
    obtain ⟨a2, b2⟩ := S4_late (k := n) (by omega) (ln (zLates n z) n) 0 _ b (by omega)
    rw [zLates]
    exact ⟨S4_tr a a2, b2⟩
theorem S4_due {M c B : Nat} (hB : B < 2 ^ 31) : ∀ (n r : Nat) (z : Nat → Int32), r + n = M → Inv z M c B 99 → S4 z (zDue r n z)
  | 0, r, z, _, h => by rw [zDue]; exact S4_rf
  | n + 1, r, z, hr, h => by
    rw [zDue]
    refine S4_tr ?_ (S4_due hB n (r + 1) _ (by omega) (Inv_due1 h (by omega) hB))
    by_cases c1 : z (78 + 10 * r) = 3
    · rw [if_pos c1]
      by_cases c2 : z 67 < z (83 + 10 * r)
      · rw [if_pos c2]; exact S4_rf
      · rw [if_neg c2]
        obtain ⟨k1, k2, s1, s2⟩ := Inv_kd h (show r < M by omega)
        exact S4_offer h (by omega) k1 s1 (by rw [c1]; decide)
    · rw [if_neg c1]; exact S4_rf
theorem S4_gain {z : Nat → Int32} : ∀ n, n ≤ 3 → S4 z (zGain n z)
  | 0, _ => by rw [zGain]; exact S4_rf
  | n + 1, hn => by rw [zGain]; exact S4_tr (S4_gain n (by omega)) (S4_up (fun r => by omega))
theorem S4_work {z : Nat → Int32} {M c B k : Nat} (h : Inv z M c B 99) (hk : k < 3) (hL : ¬ z (25 + k) ≤ 0) : S4 z (zWork z k).2 := by
  obtain ⟨hL0, q, q1, q2, q3, q4⟩ := Inv_first h hk hL
  have hM := h.1.2.1
  obtain ⟨-, -, s1, s2⟩ := Inv_kd h q1
  refine S4_q (q := q) ?_ (by rcases q4 with e | e <;> rw [e] <;> decide)
  unfold zWork
  rw [q3]
  show Sq q z (if z (77 + 10 * q) ≤ z (80 + 10 * q) + 1 then ((1 : Int32), zDone (zStep z q k) q k (sd z q)) else (0, zStep z q k)).2
  have eL : ln (zStep z q k) k = ln z k := ln_c (zStep_o (by omega) (by omega) (by omega) (by omega))
  split
  · exact Sq_tr (Sq_step hk) (Sq_done hk s1 (by rw [eL]; exact IQ_L h.2.2.1 k hk) (by rw [eL]; exact hL0))
  · exact Sq_step hk
theorem S4_unit {z : Nat → Int32} {M c B : Nat} (h : Inv z M c B 99) : S4 z (zUnit z).2 := by
  unfold zUnit
  cases e : zNext z 3 with
  | none => exact S4_up (fun r => by omega)
  | some k =>
    have := zNext_lt z 3 k e
    exact S4_work h this.1 this.2
theorem S4_units : ∀ (n : Nat) (d : Int32) (z : Nat → Int32) (M c B : Nat), Inv z M c B 99 → B + 2520 * n < 2 ^ 30 → S4 z (zUnits n d z).2
  | 0, d, z, M, c, B, h, _ => by rw [zUnits]; exact S4_rf
  | n + 1, d, z, M, c, B, h, hB => by
    rw [zUnits]
    exact S4_tr (S4_unit h) (S4_units n _ _ M c (B + 2520) (Inv_unit h (by omega)) (by omega))
theorem S4_tick {z : Nat → Int32} {M c : Nat} (h : Inv z M c (pB c) 99) (hc : c + 1 ≤ 2000) : S4 z (zTick z M).2 := by
  have hB := pB_lt (c := c) (by omega)
  have h1 := Inv_gain 3 z M c (pB c) 99 (by omega) h
  have h2 := Inv_due M 0 _ M c (pB c) (by omega) h1 (by omega)
  have h3 := S4_lates h2 3 (by omega)
  have hC := rng_lt h.2.1.1 (by decide)
  unfold zTick zTick0
  exact S4_tr (S4_tr (S4_tr (S4_tr (S4_gain 3 (by omega)) (S4_due (by omega) M 0 _ (by omega) h1)) h3.1) (S4_units _ _ _ M c (pB c) h3.2 (by omega))) (S4_up (fun r => by omega))
def rj (z : Nat → Int32) (M : Nat) : Nat := fb_ct (rJc z 99) M
def opn (z : Nat → Int32) (M : Nat) : Nat := fb_ct (oPn z 99) M
theorem rJ_n {z : Nat → Int32} {r : Nat} (h : r < 99) : rJc z 99 r = decide (z (78 + 10 * r) = 4) := by
  unfold rJc
  rw [decide_eq_false (show ¬ r = 99 by omega), Bool.not_false, Bool.true_and]
theorem oP_n {z : Nat → Int32} {r : Nat} (h : r < 99) : oPn z 99 r = (!(decide (z (78 + 10 * r) = 2)) && !(decide (z (78 + 10 * r) = 4))) := by
  unfold oPn
  rw [decide_eq_false (show ¬ r = 99 by omega), Bool.false_or]
theorem rj_mono {z z' : Nat → Int32} {M : Nat} (hM : M ≤ 32) (h : S4 z z') : rj z M ≤ rj z' M := by
  refine fb_ct_sub (fun k hk e => ?_)
  rw [rJ_n (by omega)] at e ⊢
  exact decide_eq_true (h k (of_decide_eq_true e))
def cs (z : Nat → Int32) (s : Int32) (M : Nat) : Nat := fb_ct (fun r => decide (z (78 + 10 * r) = s)) M
theorem cs_4 {z : Nat → Int32} {M : Nat} (hM : M ≤ 32) : cs z 4 M = rj z M := fb_ct_cong (fun k hk => (rJ_n (by omega)).symm)
theorem cs_s {z : Nat → Int32} {s : Int32} {n : Nat} : cs z s (n + 1) = cs z s n + (if z (78 + 10 * n) = s then 1 else 0) := by
  unfold cs
  rw [fb_ct_succ]
  by_cases c : z (78 + 10 * n) = s
  · rw [if_pos c, if_pos (decide_eq_true c)]
  · rw [if_neg c, if_neg (fun e => c (of_decide_eq_true e))]
theorem opn_s {z : Nat → Int32} {n : Nat} (h : n < 99) : opn z (n + 1) = opn z n + (if z (78 + 10 * n) = 2 then 0 else if z (78 + 10 * n) = 4 then 0 else 1) := by
  unfold opn
  rw [fb_ct_succ, oP_n h]
  by_cases c : z (78 + 10 * n) = 2
  · rw [if_pos c, decide_eq_true c]; rfl
  · rw [if_neg c, decide_eq_false c]
    by_cases d : z (78 + 10 * n) = 4
    · rw [if_pos d, decide_eq_true d]; rfl
    · rw [if_neg d, decide_eq_false d]; rfl
theorem cs_sum (z : Nat → Int32) : ∀ M, M ≤ 32 → cs z 2 M + cs z 4 M + opn z M = M
  | 0, _ => rfl
  | n + 1, h => by
    have ih := cs_sum z n (by omega)
    rw [cs_s, cs_s, opn_s (by omega)]
    by_cases c : z (78 + 10 * n) = 2
    · rw [if_pos c, if_pos c, if_neg (by rw [c]; decide)]; omega
    · rw [if_neg c, if_neg c]
      by_cases d : z (78 + 10 * n) = 4
      · rw [if_pos d, if_pos d]; omega
      · rw [if_neg d, if_neg d]; omega
theorem cs_le (z : Nat → Int32) (s : Int32) (M : Nat) : cs z s M ≤ M := fb_ct_le _ M
theorem m_ins {fu M : Nat} {s : Int32} {w : Mem} {z : Nat → Int32} (hz : z 69 = nI M) (hM : M ≤ 32) : ∀ d n j, j + d = M → d < n → F_X7_inState_L4 fu s n (nI (cs z s j)) (nI j) (zs w z) = some (nI (cs z s M), zs w z) := by
  intro d
  induction d with
  | zero =>
    intro n j hj hn
    obtain ⟨n, rfl⟩ : ∃ i, n = i + 1 := ⟨n - 1, by omega⟩
    rw [F_X7_inState_L4, gl_69, tl_69, zs_at, hz, if_pos (nI_le (by omega) (by omega)), show j = M by omega]
  | succ d ih =>
    intro n j hj hn
    obtain ⟨n, rfl⟩ : ∃ i, n = i + 1 := ⟨n - 1, by omega⟩
    have nx := ih n (j + 1) (by omega) (by omega)
    rw [cs_s] at nx
    rw [F_X7_inState_L4, gl_69, tl_69, zs_at, hz, if_neg (nI_ge (by omega) (by omega)), of_3 (by omega), ob_s]
    by_cases c : z (78 + 10 * j) = s
    · rw [if_pos c] at nx ⊢
      rw [bd_s, bd_s, nI_1, nI_1]
      exact nx
    · rw [if_neg c] at nx ⊢
      rw [bd_s, bd_s, nI_1, Int32.add_zero]
      exact nx
theorem m_inState {fu M : Nat} {s : Int32} {w : Mem} {z : Nat → Int32} (hz : z 69 = nI M) (hM : M ≤ 32) (hf : 40 < fu) : F_X7_inState fu s (zs w z) = some (nI (cs z s M), zs w z) := m_ins hz hM M fu 0 (by omega) (by omega)
theorem m_isOver {fu M : Nat} {w : Mem} {z : Nat → Int32} (hz : z 69 = nI M) (hM : M ≤ 32) (hf : 40 < fu) : F_X7_isOver fu (zs w z) = some (if opn z M = 0 then 1 else 0, zs w z) := by
  have e := cs_sum z M hM
  unfold F_X7_isOver
  rw [m_inState hz hM hf, ob_s, m_inState hz hM hf, ob_s, bd_s, nI_add, gl_69, tl_69, zs_at, hz]
  by_cases c : opn z M = 0
  · rw [if_pos c, if_pos (by rw [show cs z 2 M + cs z 4 M = M by omega])]
  · rw [if_neg c, if_neg (fun e' => by
      have := (nI_eq (by omega) (by omega)).mp e'
      omega)]
