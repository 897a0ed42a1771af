def zArg (z : Nat → Int32) (k : Nat) : Nat → Option Nat
  | 0 => none
  | j + 1 => if j = k then zArg z k j else if z (25 + j) ≤ 0 then zArg z k j else match zArg z k j with
    | none => some j
    | some a => if z (19 + a) ≤ z (19 + j) then some a else some j
def zVal (z : Nat → Int32) (x : Option Nat) : Int32 := match x with
  | none => -100005
  | some a => z (19 + a)
theorem zArg_lt (z : Nat → Int32) (k : Nat) : ∀ j a, zArg z k j = some a → a < j
  | 0, a, h => by rw [zArg] at h; cases h
  | j + 1, a, h => by
    rw [zArg] at h
    by_cases c : j = k
    · rw [if_pos c] at h
      have := zArg_lt z k j a h
      omega
    · rw [if_neg c] at h
      by_cases c2 : z (25 + j) ≤ 0
      · rw [if_pos c2] at h
        have := zArg_lt z k j a h
        omega
      · rw [if_neg c2] at h
        cases e : zArg z k j with
        | none => rw [e] at h; cases h; omega
        | some x =>
          rw [e] at h
          have i := zArg_lt z k j x e
          by_cases c3 : z (19 + x) ≤ z (19 + j)
          · simp only [if_pos c3] at h; cases h; omega
          · simp only [if_neg c3] at h; cases h; omega
theorem zArg_val (z : Nat → Int32) (k : Nat) (hp : ∀ i, i < 3 → 0 ≤ z (19 + i)) : ∀ j, j ≤ 3 → zLst z k j = zVal z (zArg z k j)
  | 0, _ => rfl
  | j + 1, hj => by
    have ih := zArg_val z k hp j (by omega)
    rw [zLst, zArg]
    by_cases c : j = k
    · rw [if_pos c, if_pos c]; exact ih
    · rw [if_neg c, if_neg c]
      by_cases c2 : z (25 + j) ≤ 0
      · rw [if_pos c2, if_pos c2]; exact ih
      · rw [if_neg c2, if_neg c2, ih]
        cases e : zArg z k j with
        | none =>
          rw [if_pos (show zVal z none < 0 from (by decide : (-100005 : Int32) < 0))]
          rfl
        | some x =>
          have hx := zArg_lt z k j x e
          rw [if_neg (show ¬ zVal z (some x) < 0 from Int32.not_lt.mpr (hp x (by omega)))]
          show (if z (19 + x) ≤ z (19 + j) then z (19 + x) else z (19 + j)) = zVal z (if z (19 + x) ≤ z (19 + j) then some x else some j)
          by_cases c3 : z (19 + x) ≤ z (19 + j)
          · rw [if_pos c3, if_pos c3]; rfl
          · rw [if_neg c3, if_neg c3]; rfl
def lcode (b : Nat) (x : Option Nat) : Option Nat := x.map (fun i => b + (5 + 7 * i))
theorem IP_ge {z : Nat → Int32} {B : Nat} (h : IP z B) (hB : B < 2 ^ 31) : ∀ i, i < 3 → 0 ≤ z (19 + i) := fun i hi => by
  obtain ⟨n, -, h2, h3⟩ := h i hi
  rw [h3]
  exact nI_pos' (by omega)
theorem s_catch {fu b k M r0 : Nat} {m : Mem} {z : Nat → Int32} (h : Rel b m z M r0) (hk : k < 3) : ∀ d n j, j + d = 3 → d < n → F_X4_catchUp_L4 fu b (nI k) n (lcode b (zArg z k j)) (nI j) m = (match zArg z k 3 with | none => some m | some a => some (mput m (b + (5 + 7 * k)) 5 (if z (19 + k) < z (19 + a) then z (19 + a) else z (19 + k)))) := by
  intro d
  induction d with
  | zero =>
    intro n j hj hn
    obtain ⟨n, rfl⟩ : ∃ i, n = i + 1 := ⟨n - 1, by omega⟩
    obtain rfl : j = 3 := by omega
    rw [F_X4_catchUp_L4]
    cases e : zArg z k 3 with
    | none =>
      rw [show lcode b none = none from rfl, cq_n, if_pos (by decide)]
    | some a =>
      have ha := zArg_lt z k 3 a e
      rw [show lcode b (some a) = some (b + (5 + 7 * a)) from rfl, cq_s, if_pos (by decide), ln_v hk, oq_s, ln_v hk, oq_s, bd_s, bd_s, v_pass h hk, v_pass h ha]
  | succ d ih =>
    intro n j hj hn
    obtain ⟨n, rfl⟩ : ∃ i, n = i + 1 := ⟨n - 1, by omega⟩
    have h3 : ¬ (3 : Int32) ≤ nI j := by rw [show (3 : Int32) = nI 3 from rfl]; exact nI_ge (by omega) (by omega)
    have go := ih n (j + 1) (by omega) (by omega)
    have hj3 : j < 3 := by omega
    rw [F_X4_catchUp_L4]
    by_cases c : j = k
    · have e1 : zArg z k (j + 1) = zArg z k j := by rw [zArg, if_pos c]
      rw [e1] at go
      cases e : zArg z k j with
      | none =>
        rw [e] at go
        rw [show lcode b none = none from rfl, cq_n, if_neg h3, ln_v hj3, oq_s, if_pos (by rw [c]), bd_s, nI_1]
        exact go
      | some a =>
        rw [e] at go
        rw [show lcode b (some a) = some (b + (5 + 7 * a)) from rfl, cq_s, if_neg h3, ln_v hj3, oq_s, if_pos (by rw [c]), bd_s, nI_1]
        exact go
    · have c' : ¬ nI j = nI k := fun e => c ((nI_eq (by omega) (by omega)).mp e)
      by_cases c2 : z (25 + j) ≤ 0
      · have e1 : zArg z k (j + 1) = zArg z k j := by rw [zArg, if_neg c, if_pos c2]
        rw [e1] at go
        cases e : zArg z k j with
        | none =>
          rw [e] at go
          rw [show lcode b none = none from rfl, cq_n, if_neg h3, ln_v hj3, oq_s, if_neg c', v_len h hj3, if_pos c2, bd_s, nI_1]
          exact go
        | some a =>
          rw [e] at go
          rw [show lcode b (some a) = some (b + (5 + 7 * a)) from rfl, cq_s, if_neg h3, ln_v hj3, oq_s, if_neg c', v_len h hj3, if_pos c2, bd_s, nI_1]
          exact go
      · cases e : zArg z k j with
        | none =>
          have e1 : zArg z k (j + 1) = some j := by rw [zArg, if_neg c, if_neg c2, e]
          rw [e1] at go
          rw [show lcode b none = none from rfl, cq_n, if_neg h3, ln_v hj3, oq_s, if_neg c', v_len h hj3, if_neg c2, bd_s, nI_1]
          exact go
        | some a =>
          have ha := zArg_lt z k j a e
          have ha3 : a < 3 := by omega
          rw [show lcode b (some a) = some (b + (5 + 7 * a)) from rfl, cq_s, if_neg h3, ln_v hj3, oq_s, if_neg c', v_len h hj3, if_neg c2, v_pass h ha3, v_pass h hj3]
          by_cases c3 : z (19 + a) ≤ z (19 + j)
          · have e1 : zArg z k (j + 1) = some a := by rw [zArg, if_neg c, if_neg c2, e]; exact if_pos c3
            rw [e1] at go
            rw [if_pos c3, bd_s, nI_1]
            exact go
          · have e1 : zArg z k (j + 1) = some j := by rw [zArg, if_neg c, if_neg c2, e]; exact if_neg c3
            rw [e1] at go
            rw [if_neg c3, bd_s, nI_1]
            exact go
theorem s_catchUp {fu b k M r0 B : Nat} {m : Mem} {z : Nat → Int32} (h : Rel b m z M r0) (hk : k < 3) (hp : IP z B) (hB : B < 2 ^ 31) (h0 : z (25 + k) = 0) (hf : 9 < fu) : Sim b m (F_X4_catchUp fu b (nI k) m) (zCatch z k) M r0 := by
  have hp' := IP_ge hp hB
  have e := s_catch (fu := fu) h hk 3 fu 0 rfl (by omega)
  rw [show lcode b (zArg z k 0) = none by rw [zArg]; rfl] at e
  unfold F_X4_catchUp zCatch
  rw [show (0 : Int32) = nI 0 from rfl, e, if_pos (show z (25 + k) = nI 0 from h0), zArg_val z k hp' 3 (by omega)]
  cases e2 : zArg z k 3 with
  | none =>
    refine ⟨m, rfl, ?_, Fr_rf⟩
    rw [if_pos (Int32.le_trans (show zVal z none ≤ 0 from (by decide : (-100005 : Int32) ≤ 0)) (hp' k hk))]
    exact h
  | some a =>
    refine ⟨_, rfl, ?_, Fr_put (by omega) (by omega)⟩
    show Rel b (mput m (b + (5 + 7 * k)) 5 (if z (19 + k) < z (19 + a) then z (19 + a) else z (19 + k))) (if z (19 + a) ≤ z (19 + k) then z else upd z (19 + k) (z (19 + a))) M r0
    have w := fun v => wr_pass v h hk
    by_cases c : z (19 + a) ≤ z (19 + k)
    · rw [if_pos c, if_neg (Int32.not_lt.mpr c)]
      have := w (z (19 + k))
      rw [upd_self] at this
      exact this
    · rw [if_neg c, if_pos (Int32.not_le.mp c)]
      exact w _
theorem upd_cm (z : Nat → Int32) {i j : Nat} (v x : Int32) (h : i ≠ j) : upd (upd z i v) j x = upd (upd z j x) i v := by
  funext l
  by_cases e1 : l = i
  · subst e1; rw [upd_n _ _ h, upd_s, upd_s]
  · by_cases e2 : l = j
    · subst e2; rw [upd_s, upd_n _ _ e1, upd_s]
    · rw [upd_n _ _ e2, upd_n _ _ e1, upd_n _ _ e1, upd_n _ _ e2]
theorem zLst_c {z z' : Nat → Int32} {k : Nat} (h : ∀ i, i < 3 → z' (25 + i) = z (25 + i) ∧ z' (19 + i) = z (19 + i)) : ∀ j, j ≤ 3 → zLst z' k j = zLst z k j
  | 0, _ => by rw [zLst, zLst]
  | j + 1, hj => by
    have ih := zLst_c (k := k) h j (by omega)
    obtain ⟨a, b⟩ := h j (by omega)
    rw [zLst, zLst, ih, a, b]
theorem zCatch_cm {z : Nat → Int32} {k i : Nat} (v : Int32) (hi : 16 ≤ i ∧ i < 19) (hk : k < 3) : zCatch (upd z i v) k = upd (zCatch z k) i v := by
  have e : zLst (upd z i v) k 3 = zLst z k 3 := zLst_c (fun j hj => ⟨upd_n _ _ (by omega), upd_n _ _ (by omega)⟩) 3 (by omega)
  unfold zCatch
  rw [e, upd_n _ _ (show 25 + k ≠ i by omega), upd_n _ _ (show 19 + k ≠ i by omega)]
  by_cases c : z (25 + k) = 0
  · rw [if_pos c, if_pos c]
    by_cases c2 : zLst z k 3 ≤ z (19 + k)
    · rw [if_pos c2, if_pos c2]
    · rw [if_neg c2, if_neg c2, upd_cm _ _ _ (by omega)]
  · rw [if_neg c, if_neg c]
theorem s_join {fu b k r M r0 : Nat} {m : Mem} {z : Nat → Int32} (h : Rel b m z M r0) (hk : k < 3) (hl : z (25 + k) = nI (ln z k)) (hL : ln z k < 8) : Sim b m (F_X1_join fu (b + (5 + 7 * k)) (nI r) m) (upd (upd z (28 + 8 * k + ln z k) (nI r)) (25 + k) (z (25 + k) + 1)) M r0 := by
  unfold F_X1_join
  rw [v_len h hk, hl, if_neg (show ¬ (8 : Int32) ≤ nI (ln z k) by rw [show (8 : Int32) = nI 8 from rfl]; exact nI_ge hL (by omega)), pt_v hL (by omega), ov_s, bd_s, bd_s, mput_ne _ _ (show b + (5 + 7 * k) ≠ b + (5 + 7 * k) + 5 + 1 ∨ 3 ≠ ln z k by omega), v_len h hk, hl]
  exact ⟨_, rfl, wr_len _ (wr_que _ h hk hL) hk, Fr_tr (Fr_put (by omega) (by omega)) (Fr_put (by omega) (by omega))⟩
theorem s_admit {fu b k r M B : Nat} {m : Mem} {z : Nat → Int32} (h : Rel b m z M r) (hr : r < M) (hM : M ≤ 32) (hk : k < 3) (hkz : z (75 + 10 * r) = nI k) (hl : z (25 + k) = nI (ln z k)) (hL : ln z k < 8) (hip : IP z B) (hB : B < 2 ^ 31) (hp : m (b + 27 + r) 5 = z (79 + 10 * r)) (hf : 9 < fu) : Sim b m (F_X4_admit fu b (b + 27 + r) m) (zAdmit z r k) M 99 := by
  have tail : ∀ m1, Rel b m1 (zCatch z k) M r → Fr b m m1 → m1 (b + 27 + r) 5 = z (79 + 10 * r) → Sim b m (F_X4_admit_L24 fu b (b + 27 + r) (b + (5 + 7 * k)) m1) (zAdmit z r k) M 99 := by
    intro m1 h1 f1 p1
    have co : ∀ i, i ≠ 19 + k → zCatch z k i = z i := fun i hi => zCatch_o hi
    unfold F_X4_admit_L24 zAdmit
    rw [bd_s, bd_s, v_tok h1 hk, co _ (by omega), p1]
    have h2 := wr_tok (z (16 + k) - z (79 + 10 * r)) h1 hk
    rw [← zCatch_cm _ (show 16 ≤ 16 + k ∧ 16 + k < 19 by omega) hk] at h2
    have cu : ∀ i, i ≠ 19 + k → i ≠ 16 + k → zCatch (upd z (16 + k) (z (16 + k) - z (79 + 10 * r))) k i = z i := fun i h1 h2 => by rw [zCatch_o h1, upd_n _ _ h2]
    generalize zCatch (upd z (16 + k) (z (16 + k) - z (79 + 10 * r))) k = y at *
    have ly : ln y k = ln z k := ln_c (cu _ (by omega) (by omega))
    rw [mput_ne _ _ (show b + 27 + r ≠ b + (5 + 7 * k) ∨ 0 ≠ 4 by omega), h1.2.2.2.2 r (by omega)]
    obtain ⟨m3, e3, h3, f3⟩ := s_join (fu := fu) (r := r) h2 hk (by rw [cu _ (by omega) (by omega), ly]; exact hl) (by rw [ly]; exact hL)
    rw [e3, ov_s, bd_s, bd_s]
    unfold zJoin
    have p3 : m3 (b + 27 + r) 5 = y (79 + 10 * r) := by
      have j1 := f3
      rw [show m3 (b + 27 + r) 5 = mput m1 (b + (5 + 7 * k)) 4 (z (16 + k) - z (79 + 10 * r)) (b + 27 + r) 5 by
        unfold F_X1_join at e3
        rw [v_len h2 hk, cu _ (by omega) (by omega), hl, if_neg (show ¬ (8 : Int32) ≤ nI (ln z k) by rw [show (8 : Int32) = nI 8 from rfl]; exact nI_ge hL (by omega)), pt_v hL (by omega), ov_s, bd_s, bd_s] at e3
        cases e3
        rw [mput_ne _ _ (by omega), mput_ne _ _ (by omega)]]
      rw [mput_ne _ _ (by omega), p1, cu _ (by omega) (by omega)]
    generalize hy : upd (upd y (28 + 8 * k + ln y k) (nI r)) (25 + k) (y (25 + k) + 1) = y3 at *
    have y67 : y3 67 = y 67 := by rw [← hy, upd_n _ _ (by omega), upd_n _ _ (by omega)]
    have y79 : y3 (79 + 10 * r) = y (79 + 10 * r) := by rw [← hy, upd_n _ _ (by omega), upd_n _ _ (by omega)]
    have h4 := Rel_xc (s := 4) 0 h3 (by omega)
    rw [v_clk h4, y67]
    have h5 := Rel_xz (-100005) (Rel_xz (y 67) (Rel_xz 0 (Rel_xc (s := 9) (y 67) h4 (by omega)) (i := 78 + 10 * r) (by omega)) (i := 84 + 10 * r) (by omega)) (i := 83 + 10 * r) (by omega)
    have es : upd (upd (upd y3 (78 + 10 * r) 0) (84 + 10 * r) (y 67)) (83 + 10 * r) (-100005) (78 + 10 * r) = 0 := by rw [upd_n _ _ (by omega), upd_n _ _ (by omega), upd_s]
    refine ⟨_, rfl, Rel_cl h5 hr hM ?_ ?_ ?_ ?_ ?_, Fr_tr f1 (Fr_tr (Fr_put (by omega) (by omega)) (Fr_tr f3 (Fr_tr (Fr_put (by omega) (by omega)) (Fr_put (by omega) (by omega)))))⟩
    · rw [es, mput_ne _ _ (by omega), mput_at]
    · rw [mput_ne _ _ (by omega), mput_ne _ _ (by omega), upd_n _ _ (by omega), upd_n _ _ (by omega), upd_n _ _ (by omega), p3, y79]
    · intro e
      rw [es] at e
      exfalso; revert e; decide
    · intro _
      rw [mput_at, upd_n _ _ (by omega), upd_s]
    · rw [es]; decide
  unfold F_X4_admit
  rw [v_knd h hr, hkz, ln_v hk, oq_s, v_len h hk]
  by_cases c : z (25 + k) = 0
  · rw [if_pos c]
    obtain ⟨m1, e1, h1, f1⟩ := s_catchUp (fu := fu) h hk hip hB c hf
    have p1 : m1 (b + 27 + r) 5 = z (79 + 10 * r) := by
      have e2 := s_catch (fu := fu) h hk 3 fu 0 rfl (by omega)
      rw [show lcode b (zArg z k 0) = none by rw [zArg]; rfl] at e2
      unfold F_X4_catchUp at e1
      rw [show (0 : Int32) = nI 0 from rfl, e2] at e1
      cases e3 : zArg z k 3 with
      | none => rw [e3] at e1; cases e1; exact hp
      | some a => rw [e3] at e1; cases e1; rw [mput_ne _ _ (by omega)]; exact hp
    rw [v_knd h hr, hkz, e1, ov_s]
    exact tail m1 h1 f1 p1
  · rw [if_neg c]
    have e1 : zCatch z k = z := by unfold zCatch; rw [if_neg c]
    exact tail m (by rw [e1]; exact h) Fr_rf hp
