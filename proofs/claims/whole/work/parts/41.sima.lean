/-! ===== the class's methods do with the server what is done with the array ===== -/
def Sim (b : Nat) (m0 : Mem) (x : Option Mem) (z : Nat → Int32) (M r0 : Nat) : Prop := ∃ m', x = some m' ∧ Rel b m' z M r0 ∧ Fr b m0 m'
theorem mx1 (v : Int32) : (if 1 < v then v else 1) = (if 1 ≤ v then v else 1) := by
  by_cases h : 1 < v
  · rw [if_pos h, if_pos (Int32.le_of_lt h)]
  · rw [if_neg h]
    by_cases h2 : 1 ≤ v
    · rw [if_pos h2]
      exact Int32.le_antisymm h2 (Int32.not_lt.mp h)
    · rw [if_neg h2]
theorem s_cost {fu b s M r0 : Nat} {m : Mem} {z : Nat → Int32} (h : Rel b m z M r0) (hs : s < 5) : F_X4_expectedCost fu b (nI s) m = some (zCost z s, m) := by
  unfold F_X4_expectedCost zCost
  rw [at_v hs (by omega), ob_s, bd_s, bd_s, v_est h hs, mx1]
theorem v_bst {b : Nat} {m : Mem} {z : Nat → Int32} {M r0 k : Nat} (h : Rel b m z M r0) (hk : k < 3) : m (b + (5 + 7 * k) + 1 + 1) 2 = z (6 + 4 * k) := by
  have e := v_cls h hk (show 2 < 4 by decide)
  rw [show 4 + 4 * k + 2 = 6 + 4 * k by omega] at e
  exact e
theorem v_shr {b : Nat} {m : Mem} {z : Nat → Int32} {M r0 k : Nat} (h : Rel b m z M r0) (hk : k < 3) : m (b + (5 + 7 * k) + 1 + 1) 0 = z (4 + 4 * k) := v_cls (i := 0) h hk (by decide)
theorem v_rte {b : Nat} {m : Mem} {z : Nat → Int32} {M r0 k : Nat} (h : Rel b m z M r0) (hk : k < 3) : m (b + (5 + 7 * k) + 1 + 1) 1 = z (5 + 4 * k) := by
  have e := v_cls h hk (show 1 < 4 by decide)
  rw [show 4 + 4 * k + 1 = 5 + 4 * k by omega] at e
  exact e
theorem v_lim {b : Nat} {m : Mem} {z : Nat → Int32} {M r0 k : Nat} (h : Rel b m z M r0) (hk : k < 3) : m (b + (5 + 7 * k) + 1 + 1) 3 = z (7 + 4 * k) := by
  have e := v_cls h hk (show 3 < 4 by decide)
  rw [show 4 + 4 * k + 3 = 7 + 4 * k by omega] at e
  exact e
theorem s_gain {fu b k M r0 : Nat} {a : Int32} {m : Mem} {z : Nat → Int32} (h : Rel b m z M r0) (hk : k < 3) (hb : rng (z (6 + 4 * k)) 1 99) (ha : rng a 0 100) : Sim b m (F_X1_gain fu (b + (5 + 7 * k)) a m) (zAdd z k a) M r0 := by
  unfold F_X1_gain zAdd
  rw [at_2 (by decide) (by omega), ob_s, v_bst h hk, v_tok h hk]
  by_cases c1 : z (6 + 4 * k) ≤ z (16 + k)
  · rw [if_pos c1]
    refine ⟨m, rfl, ?_, Fr_rf⟩
    have e : (if z (16 + k) ≤ z (6 + 4 * k) then (if z (6 + 4 * k) ≤ z (16 + k) + a then z (6 + 4 * k) else z (16 + k) + a) else z (16 + k)) = z (16 + k) := by
      by_cases c2 : z (16 + k) ≤ z (6 + 4 * k)
      · have c3 : z (16 + k) = z (6 + 4 * k) := Int32.le_antisymm c2 c1
        rw [if_pos c2, c3, if_pos]
        obtain ⟨x, x1, x2, x3⟩ := hb
        obtain ⟨y, y1, y2, y3⟩ := ha
        rw [x3, y3, nI_add]
        exact nI_le (by omega) (by omega)
      · rw [if_neg c2]
    rw [e, upd_self]
    exact h
  · rw [if_neg c1, bd_s, bd_s, bd_s]
    have c2 : z (16 + k) ≤ z (6 + 4 * k) := Int32.le_of_lt (Int32.not_le.mp c1)
    rw [if_pos c2]
    have e : (if z (6 + 4 * k) < z (16 + k) + a then z (6 + 4 * k) else z (16 + k) + a) = (if z (6 + 4 * k) ≤ z (16 + k) + a then z (6 + 4 * k) else z (16 + k) + a) := by
      by_cases c3 : z (6 + 4 * k) < z (16 + k) + a
      · rw [if_pos c3, if_pos (Int32.le_of_lt c3)]
      · rw [if_neg c3]
        by_cases c4 : z (6 + 4 * k) ≤ z (16 + k) + a
        · rw [if_pos c4]; exact Int32.le_antisymm (Int32.not_lt.mp c3) c4
        · rw [if_neg c4]
    rw [e]
    exact ⟨_, rfl, wr_tok _ h hk, Fr_put (by omega) (by omega)⟩
theorem s_back {fu b k M r0 : Nat} {m : Mem} {z : Nat → Int32} (h : Rel b m z M r0) (hk : k < 3) (hM : M ≤ 32) (hm : z 69 = nI M) (hl : z (25 + k) = nI (ln z k)) (hL : ln z k ≤ 8) (hq : ∀ p, p < ln z k → ∃ q, q < M ∧ q ≠ r0 ∧ z (28 + 8 * k + p) = nI q) : ∀ (d n p : Nat) (x : Int32), p + d = ln z k → d < n → F_X4_backlogOf_L4 fu b (b + (5 + 7 * k)) n x (nI p) m = some (zBack z k p d x, m) := by
  intro d
  induction d with
  | zero =>
    intro n p x hp hn
    obtain ⟨n, rfl⟩ : ∃ j, n = j + 1 := ⟨n - 1, by omega⟩
    rw [F_X4_backlogOf_L4, v_len h hk, hl, if_pos (nI_le (by omega) (by omega)), zBack]
  | succ d ih =>
    intro n p x hp hn
    obtain ⟨n, rfl⟩ : ∃ j, n = j + 1 := ⟨n - 1, by omega⟩
    obtain ⟨q, q1, q2, q3⟩ := hq p (by omega)
    rw [F_X4_backlogOf_L4, v_len h hk, hl, if_neg (nI_ge (by omega) (by omega)), at_v (show p < 8 by omega) (by omega), ob_s, v_que h hk (show p < 8 by omega), q3, fd_v q1 hM (by rw [v_cnt h]; exact hm), oq_s, bd_s, bd_s, bd_s, bd_s, v_prc h q1 q2, v_unt h q1, mx1, nI_1, zBack, q3, tn q (by omega)]
    exact ih n (p + 1) _ (by omega) (by omega)
theorem s_why {fu b k M c B r0 : Nat} {p : Int32} {m : Mem} {z : Nat → Int32} (h : Rel b m z M r0) (hi : Inv z M c B r0) (hk : k < 3) (hf : 9 < fu) : F_X4_firstRefusal fu b (b + (5 + 7 * k)) p m = some (zWhy z k p, m) := by
  obtain ⟨x1, x2, x3⟩ := hi.2.2.1 k hk
  have hM := hi.1.2.1
  obtain ⟨d, d1, d2, d3⟩ := IS_div hi.2.1 hk
  have hq : ∀ p, p < ln z k → ∃ q, q < M ∧ q ≠ r0 ∧ z (28 + 8 * k + p) = nI q := fun p hp => by
    obtain ⟨q, a1, a2, a3, -⟩ := x3 p hp
    exact ⟨q, a1, a2, a3⟩
  have hb : F_X4_backlogOf fu b (b + (5 + 7 * k)) m = some (zBack z k 0 (ln z k) 0, m) := s_back h hk hM hi.1.1 x1 x2 hq (ln z k) fu 0 0 (by omega) (by omega)
  have e0 : m (b + 5 + 1 + 1) 0 = z 4 := v_shr (k := 0) h (by decide)
  have e1 : m (b + 12 + 1 + 1) 0 = z 8 := v_shr (k := 1) h (by decide)
  have e2 : m (b + 19 + 1 + 1) 0 = z 12 := v_shr (k := 2) h (by decide)
  unfold F_X4_firstRefusal zWhy
  rw [at_3 (by decide) (by omega), ob_s, v_lim h hk]
  by_cases c1 : p ≤ z (7 + 4 * k)
  · rw [if_pos c1, if_pos c1, v_len h hk]
    by_cases c2 : z (25 + k) = 8
    · rw [if_pos c2, c2, if_neg (by decide)]
    · have c3 : z (25 + k) < 8 := by
        rw [x1, show (8 : Int32) = nI 8 from rfl]
        refine nI_lt ?_ (by omega)
        rcases Nat.lt_or_ge (ln z k) 8 with q | q
        · exact q
        · exfalso
          apply c2
          rw [x1, show ln z k = 8 by omega]
          rfl
      rw [if_neg c2, if_pos c3, at_0 (by decide) (by omega), ob_s, at_0 (by decide) (by omega), ob_s, bd_s, at_0 (by decide) (by omega), ob_s, bd_s, at_0 (by decide) (by omega), ob_s, at_0 (by decide) (by omega), ob_s, bd_s, hb, ob_s, bd_s, bd_s, e0, e1, e2, v_shr h hk, v_set (i := 0) h (by decide)]
      unfold F_X6_quotient
      rw [d3, if_pos (show 1 ≤ nI d by rw [show (1 : Int32) = nI 1 from rfl]; exact nI_le d1 (by omega)), nz_of (nI_n0 d1 d2), gd_t, bd_s, ob_s, at_1 (by decide) (by omega), ob_s, v_set (i := 1) h (by decide)]
      by_cases c4 : (zBack z k 0 (ln z k) 0 + p) * (z 4 + z 8 + z 12) / nI d ≤ z 1
      · rw [if_pos c4, if_pos c4, v_tok h hk]
        by_cases c5 : p ≤ z (16 + k)
        · rw [if_pos c5, if_pos c5]
        · rw [if_neg c5, if_neg c5]
      · rw [if_neg c4, if_neg c4]
  · rw [if_neg c1, if_neg c1]
theorem s_refuse {fu b r k j M : Nat} {m : Mem} {z : Nat → Int32} (h : Rel b m z M r) (hr : r < M) (hM : M ≤ 32) (hk : k < 3) (hj : 1 ≤ j) (hj2 : j ≤ 5) (hkz : z (75 + 10 * r) = nI k) (hp : m (b + 27 + r) 5 = z (79 + 10 * r)) : Sim b m (F_X4_refuse fu b (b + 27 + r) (nI j) m) (zRefuse z r k j) M 99 := by
  obtain ⟨i, rfl⟩ : ∃ i, j = i + 1 := ⟨j - 1, by omega⟩
  unfold F_X4_refuse zRefuse
  rw [v_knd h hr, hkz, ln_v hk, oq_s, at_v (show i + 1 < 6 by omega) (by omega), ob_s, bd_s, pt_v (show i + 1 < 6 by omega) (by omega), ov_s, v_ref h hk (show i < 5 by omega)]
  have h1 := wr_ref (z (52 + 5 * k + i) + 1) h hk (show i < 5 by omega)
  have h2 := wr_rea (nI (i + 1)) r h1
  have f2 : Fr b m (mput (mput m (b + (5 + 7 * k) + 3 + 1) (i + 1) (z (52 + 5 * k + i) + 1)) (b + 27 + r) 8 (nI (i + 1))) := Fr_tr (Fr_put (by omega) (by omega)) (Fr_put (by omega) (by omega))
  have p2 : mput (mput m (b + (5 + 7 * k) + 3 + 1) (i + 1) (z (52 + 5 * k + i) + 1)) (b + 27 + r) 8 (nI (i + 1)) (b + 27 + r) 5 = upd (upd z (52 + 5 * k + i) (z (52 + 5 * k + i) + 1)) (82 + 10 * r) (nI (i + 1)) (79 + 10 * r) := by
    rw [mput_ne _ _ (by omega), mput_ne _ _ (by omega), upd_n _ _ (by omega), upd_n _ _ (by omega)]
    exact hp
  rw [bd_s, at_3 (by decide) (by omega), ob_s]
  rw [show 51 + 5 * k + (i + 1) = 52 + 5 * k + i by omega]
  have e3 : upd (upd z (52 + 5 * k + i) (z (52 + 5 * k + i) + 1)) (82 + 10 * r) (nI (i + 1)) 3 = z 3 := by rw [upd_n _ _ (by omega), upd_n _ _ (by omega)]
  have e81 : upd (upd z (52 + 5 * k + i) (z (52 + 5 * k + i) + 1)) (82 + 10 * r) (nI (i + 1)) (81 + 10 * r) = z (81 + 10 * r) := by rw [upd_n _ _ (by omega), upd_n _ _ (by omega)]
  have e67 : upd (upd z (52 + 5 * k + i) (z (52 + 5 * k + i) + 1)) (82 + 10 * r) (nI (i + 1)) 67 = z 67 := by rw [upd_n _ _ (by omega), upd_n _ _ (by omega)]
  have e2 : upd (upd z (52 + 5 * k + i) (z (52 + 5 * k + i) + 1)) (82 + 10 * r) (nI (i + 1)) 2 = z 2 := by rw [upd_n _ _ (by omega), upd_n _ _ (by omega)]
  generalize hy : upd (upd z (52 + 5 * k + i) (z (52 + 5 * k + i) + 1)) (82 + 10 * r) (nI (i + 1)) = y at *
  generalize hm2 : mput (mput m (b + (5 + 7 * k) + 3 + 1) (i + 1) (z (52 + 5 * k + i) + 1)) (b + 27 + r) 8 (nI (i + 1)) = m2 at *
  rw [v_set (i := 3) h2 (by decide), v_ofr h2 hr, e3, e81]
  show Sim b m _ (if z 3 < z (81 + 10 * r) then upd (upd y (78 + 10 * r) 4) (83 + 10 * r) (-100005) else upd (upd y (78 + 10 * r) 3) (83 + 10 * r) (z 67 + (z 2 <<< ((z (81 + 10 * r) - 1) &&& 31)))) M 99
  by_cases c : z 3 < z (81 + 10 * r)
  · rw [if_pos c, if_pos c, bd_s, bd_s, bd_s, bd_s, bd_s]
    have h3 := Rel_xz (-100005) (Rel_xz 4 (Rel_xc (s := 4) 4 h2 (by omega)) (i := 78 + 10 * r) (by omega)) (i := 83 + 10 * r) (by omega)
    have h4 := Rel_rej h3 hr hM (mput_at _ _ _ _) (by rw [upd_n _ _ (by omega), upd_s]) (by rw [mput_ne _ _ (by omega), upd_n _ _ (by omega), upd_n _ _ (by omega)]; exact p2)
    rw [mput_ne _ _ (show b ≠ b ∨ 8 ≠ 7 by omega)]
    exact ⟨_, rfl, h4, Fr_tr f2 (Fr_tr (Fr_put (by omega) (by omega)) (Fr_tr (Fr_put (by omega) (by omega)) (Fr_put (by omega) (by omega))))⟩
  · rw [if_neg c, if_neg c, bd_s, at_2 (by decide) (by omega), ob_s, bd_s, bd_s, bd_s, bd_s]
    have h3 := Rel_xc (s := 4) 3 h2 (by omega)
    rw [v_set (i := 2) h3 (by decide), v_ofr h3 hr, v_clk h3, e2, e81, e67]
    have h4 := Rel_xz (z 67 + (z 2 <<< ((z (81 + 10 * r) - 1) &&& 31))) (Rel_xz 3 (Rel_xc (s := 10) (z 67 + (z 2 <<< ((z (81 + 10 * r) - 1) &&& 31))) h3 (by omega)) (i := 78 + 10 * r) (by omega)) (i := 83 + 10 * r) (by omega)
    have es : upd (upd y (78 + 10 * r) 3) (83 + 10 * r) (z 67 + (z 2 <<< ((z (81 + 10 * r) - 1) &&& 31))) (78 + 10 * r) = 3 := by rw [upd_n _ _ (by omega), upd_s]
    refine ⟨_, rfl, Rel_cl h4 hr hM ?_ ?_ ?_ ?_ ?_, Fr_tr f2 (Fr_tr (Fr_put (by omega) (by omega)) (Fr_put (by omega) (by omega)))⟩
    · rw [es, mput_ne _ _ (by omega), mput_at]
    · rw [mput_ne _ _ (by omega), mput_ne _ _ (by omega), upd_n _ _ (by omega), upd_n _ _ (by omega)]; exact p2
    · intro _
      rw [mput_at, upd_s]
    · intro e
      rw [es] at e
      exfalso; revert e; decide
    · rw [es]; decide
