theorem m_shift {fu k L : Nat} {a2 : Int32} {w : Mem} (hk : k < 3) (hL : L ≤ 7) : ∀ (d n p : Nat) (z : Nat → Int32), z (25 + k) = nI L → p + d = L → d < n → F_X7_leaveQueue_L15 fu (nI k) a2 n (nI p) (zs w z) = some (zs w (zShift z k p d)) := by
  intro d
  induction d with
  | zero =>
    intro n p z hl hp hn
    obtain ⟨n, rfl⟩ : ∃ i, n = i + 1 := ⟨n - 1, by omega⟩
    rw [F_X7_leaveQueue_L15]
    simp only [bd_s, ia_25]
    rw [gd_in _ (by omega) (by omega), tn (25 + k) (by omega), zs_at, hl, if_pos (nI_le (by omega) (by omega)), zShift]
  | succ d ih =>
    intro n p z hl hp hn
    obtain ⟨n, rfl⟩ : ∃ i, n = i + 1 := ⟨n - 1, by omega⟩
    rw [F_X7_leaveQueue_L15]
    simp only [bd_s, ia_25, im_8, ia_28, nI_add, nI_1]
    rw [gd_in _ (by omega) (by omega), tn (25 + k) (by omega), zs_at, hl, if_neg (nI_ge (by omega) (by omega)), inq_v hk (show p + 1 < 8 by omega), ob_s, gd_in _ (by omega) (by omega), tn (28 + 8 * k + p) (by omega), mput_zs, zShift]
    exact ih n (p + 1) _ (by rw [upd_n _ _ (by omega)]; exact hl) (by omega) (by omega)
theorem m_leave {fu k p L : Nat} {w : Mem} {z : Nat → Int32} (hk : k < 3) (hL : L ≤ 7) (hl : z (25 + k) = nI (L + 1)) (hp : p ≤ L) (hf : 9 < fu) : F_X7_leaveQueue fu (nI k) (nI p) (zs w z) = some (zs w (zLeave z k p)) := by
  have e : ln z k = L + 1 := by unfold ln; rw [hl, tn _ (by omega)]
  unfold F_X7_leaveQueue zLeave
  simp only [bd_s, ia_25]
  rw [gd_in _ (by omega) (by omega), gd_in _ (by omega) (by omega), tn (25 + k) (by omega), zs_at, mput_zs, e, hl, nI_pred]
  exact m_shift hk hL (L + 1 - 1 - p) fu p _ (upd_s _ _ _) (by omega) (by omega)
theorem zRefuse_o {z : Nat → Int32} {r k j i : Nat} (h1 : i ≠ 51 + 5 * k + j) (h2 : i ≠ 82 + 10 * r) (h3 : i ≠ 78 + 10 * r) (h4 : i ≠ 83 + 10 * r) : zRefuse z r k j i = z i := by
  unfold zRefuse
  by_cases c : z 3 < z (81 + 10 * r)
  · rw [if_pos c, upd_n _ _ h4, upd_n _ _ h3, upd_n _ _ h2, upd_n _ _ h1]
  · rw [if_neg c, upd_n _ _ h4, upd_n _ _ h3, upd_n _ _ h2, upd_n _ _ h1]
theorem zAdd_o {z : Nat → Int32} {k i : Nat} {a : Int32} (h : i ≠ 16 + k) : zAdd z k a i = z i := upd_n _ _ h
theorem zLate_0 (z : Nat → Int32) (k p : Nat) : zLate z k p 0 = z := by rw [zLate]
/-- one step of the looking for those who waited too long -/
theorem zLate_s (z : Nat → Int32) (k p n q : Nat) (hq : z (28 + 8 * k + p) = nI q) (hq2 : q < 32) : zLate z k p (n + 1) = if z (78 + 10 * q) = 0 then (if z 67 - z (84 + 10 * q) < z 1 then zLate z k (p + 1) n else zLate (zAdd (zRefuse (zLeave z k p) q (kd z q) 5) k (z (79 + 10 * q))) k p n) else zLate z k (p + 1) n := by
  rw [zLate, hq, tn q (by omega)]
theorem Inv_kd {z : Nat → Int32} {M c B r0 r : Nat} (h : Inv z M c B r0) (hr : r < M) : kd z r < 3 ∧ z (75 + 10 * r) = nI (kd z r) ∧ sd z r < 5 ∧ z (76 + 10 * r) = nI (sd z r) := by
  obtain ⟨x1, x2, -, -⟩ := h.2.2.2.2.1 r hr
  obtain ⟨e1, -, e2⟩ := rng_lt x1 (by omega)
  obtain ⟨f1, -, f2⟩ := rng_lt x2 (by omega)
  exact ⟨by unfold kd; omega, e1, by unfold sd; omega, f1⟩
theorem Inv_late1 {z : Nat → Int32} {M c B k p q : Nat} (h : Inv z M c B 99) (hk : k < 3) (hp : p < ln z k) (hq : z (28 + 8 * k + p) = nI q) (hq2 : q < M) : Inv (zAdd (zRefuse (zLeave z k p) q (kd z q) 5) k (z (79 + 10 * q))) M c B 99 ∧ ln (zAdd (zRefuse (zLeave z k p) q (kd z q) 5) k (z (79 + 10 * q))) k = ln z k - 1 := by
  have hM := h.1.2.1
  obtain ⟨h1, e1⟩ := Inv_leave h hk hp hq hq2
  have hkd := (Inv_kd h hq2).1
  have hr : rng (zLeave z k p (79 + 10 * q)) 0 60 := by
    rw [zLeave_o hk (IQ_L h.2.2.1 k hk) hp (by omega)]
    exact ((h.2.2.2.2.1 q hq2).2.2.2 (by omega)).2.1
  have h2 := Inv_refuse (j := 5) h1 hq2 hkd (by omega) (by omega) hr
  refine ⟨Inv_add h2 hk, ?_⟩
  rw [ln_c (zAdd_o (by omega)), ln_c (zRefuse_o (by omega) (by omega) (by omega) (by omega)), e1]
theorem m_late {fu k M c B : Nat} {w : Mem} (hk : k < 3) (hf : 9 < fu) : ∀ (d n p : Nat) (z : Nat → Int32), Inv z M c B 99 → p + d = ln z k → d < n → F_X7_refuseLate_L2 fu (nI k) n (nI p) (zs w z) = some (zs w (zLate z k p d)) ∧ Inv (zLate z k p d) M c B 99 := by
  intro d
  induction d with
  | zero =>
    intro n p z h hp hn
    obtain ⟨n, rfl⟩ : ∃ i, n = i + 1 := ⟨n - 1, by omega⟩
    obtain ⟨x1, x2, x3⟩ := h.2.2.1 k hk
    rw [zLate_0, F_X7_refuseLate_L2]
    simp only [bd_s, ia_25]
    rw [gd_in _ (by omega) (by omega), tn (25 + k) (by omega), zs_at, x1, if_pos (nI_le (by omega) (by omega))]
    exact ⟨rfl, h⟩
  | succ d ih =>
    intro n p z h hp hn
    obtain ⟨n, rfl⟩ : ∃ i, n = i + 1 := ⟨n - 1, by omega⟩
    obtain ⟨x1, x2, x3⟩ := h.2.2.1 k hk
    have hM := h.1.2.1
    obtain ⟨q, q1, -, q3, -⟩ := x3 p (by omega)
    have q4 : q < 32 := by omega
    rw [zLate_s z k p d q q3 q4, F_X7_refuseLate_L2]
    simp only [bd_s, ia_25]
    rw [gd_in _ (by omega) (by omega), tn (25 + k) (by omega), zs_at, x1, if_neg (nI_ge (by omega) (by omega)), inq_v hk (by omega), ob_s, q3, of_3 q4, ob_s]
    have stay := ih n (p + 1) z h (by omega) (by omega)
    by_cases c1 : z (78 + 10 * q) = 0
    · rw [if_pos c1, if_pos c1, gl_67, of_9 q4, ob_s, tl_67, gl_1, zs_at, tl_1]
      by_cases c2 : z 67 - z (84 + 10 * q) < z 1
      · rw [if_pos c2, if_pos c2]
        unfold F_X7_refuseLate_L60
        rw [if_pos rfl, bd_s, nI_1]
        exact stay
      · rw [if_neg c2, if_neg c2]
        unfold F_X7_refuseLate_L60
        obtain ⟨L, hL⟩ : ∃ L, ln z k = L + 1 := ⟨ln z k - 1, by omega⟩
        obtain ⟨k1, k2, -, -⟩ := Inv_kd h q1
        have o79 : ∀ i, 52 ≤ i → zLeave z k p i = z i := fun i hi => zLeave_o hk x2 (by omega) (by omega)
        obtain ⟨i1, i2⟩ := Inv_late1 h hk (by omega) q3 q1
        rw [if_neg (by decide), m_leave hk (show L ≤ 7 by omega) (by rw [x1, hL]) (by omega) hf, ov_s, show (5 : Int32) = nI 5 from rfl, m_refuse q4 k1 (by omega) (by omega) (by rw [o79 _ (by omega)]; exact k2), ov_s, of_4 q4, ob_s, m_add hk, ov_s, zRefuse_o (by omega) (by omega) (by omega) (by omega), o79 _ (by omega)]
        exact ih n p _ i1 (by omega) (by omega)
    · rw [if_neg c1, if_neg c1]
      unfold F_X7_refuseLate_L60
      rw [if_pos rfl, bd_s, nI_1]
      exact stay
def enc (x : Option Nat) : Int32 := match x with
  | none => -100005
  | some k => nI k
theorem zNext_lt (z : Nat → Int32) : ∀ j b, zNext z j = some b → b < j ∧ ¬ z (25 + b) ≤ 0
  | 0, b, h => by rw [zNext] at h; cases h
  | j + 1, b, h => by
    rw [zNext] at h
    by_cases c : z (25 + j) ≤ 0
    · rw [if_pos c] at h
      have := zNext_lt z j b h
      exact ⟨by omega, this.2⟩
    · rw [if_neg c] at h
      cases e : zNext z j with
      | none =>
        rw [e] at h
        cases h
        exact ⟨by omega, c⟩
      | some a =>
        rw [e] at h
        have i := zNext_lt z j a e
        by_cases c2 : z (19 + a) ≤ z (19 + j)
        · simp only [if_pos c2] at h
          cases h
          exact ⟨by omega, i.2⟩
        · simp only [if_neg c2] at h
          cases h
          exact ⟨by omega, c⟩
theorem enc_some {b : Nat} (h : b < 3) : ¬ enc (some b) < 0 := nI_pos (by omega)
theorem m_next {fu : Nat} {w : Mem} {z : Nat → Int32} : ∀ (d n j : Nat), j + d = 3 → d < n → F_X7_nextClass_L5 fu n (enc (zNext z j)) (nI j) (zs w z) = some (enc (zNext z 3), zs w z) := by
  intro d
  induction d with
  | zero =>
    intro n j hj hn
    obtain ⟨n, rfl⟩ : ∃ i, n = i + 1 := ⟨n - 1, by omega⟩
    obtain rfl : j = 3 := by omega
    rw [F_X7_nextClass_L5, if_pos (by decide)]
  | succ d ih =>
    intro n j hj hn
    obtain ⟨n, rfl⟩ : ∃ i, n = i + 1 := ⟨n - 1, by omega⟩
    have h3 : ¬ (3 : Int32) ≤ nI j := by rw [show (3 : Int32) = nI 3 from rfl]; exact nI_ge (by omega) (by omega)
    have go := ih n (j + 1) (by omega) (by omega)
    rw [F_X7_nextClass_L5, if_neg h3]
    simp only [bd_s, ia_25, ia_19, nI_1]
    rw [gd_in _ (by omega) (by omega), tn (25 + j) (by omega), zs_at]
    by_cases c : z (25 + j) ≤ 0
    · have e1 : zNext z (j + 1) = zNext z j := by rw [zNext, if_pos c]
      rw [e1] at go
      rw [if_pos c]
      exact go
    · rw [if_neg c]
      cases e : zNext z j with
      | none =>
        have e1 : zNext z (j + 1) = some j := by rw [zNext, if_neg c, e]
        rw [e1] at go
        rw [if_pos (show enc none < 0 by decide)]
        exact go
      | some b =>
        have hb := zNext_lt z j b e
        rw [if_neg (enc_some (b := b) (by omega)), gd_in _ (by omega) (by omega)]
        show gd (inb (19 + nI b) 395) _ = _
        rw [ia_19, gd_in _ (by omega) (by omega), tn (19 + j) (by omega)]
        show (if z (19 + nI b).toNatClampNeg ≤ z (19 + j) then _ else _) = _
        rw [ia_19, tn (19 + b) (by omega)]
        by_cases c2 : z (19 + b) ≤ z (19 + j)
        · have e1 : zNext z (j + 1) = some b := by rw [zNext, if_neg c, e]; exact if_pos c2
          rw [e1] at go
          rw [if_pos c2]
          exact go
        · have e1 : zNext z (j + 1) = some j := by rw [zNext, if_neg c, e]; exact if_neg c2
          rw [e1] at go
          rw [if_neg c2]
          exact go
