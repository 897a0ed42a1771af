theorem m_joined {fu r k : Nat} {w : Mem} {z : Nat → Int32} (hr : r < 32) (hk : k < 3) (hl : z (25 + k) = nI (ln z k)) (hL : ln z k < 8) : F_X7_admit_L142 fu (nI r) (nI k) (zs w z) = some (zs w (zJoin z r k)) := by
  unfold F_X7_admit_L142 zJoin
  have t1 := tn (25 + k) (by omega)
  have t2 := tn (28 + 8 * k + ln z k) (by omega)
  simp only [bd_s, im_8, ia_28, ia_25, t1, zs_at]
  rw [gd_in _ (by omega) (by omega), hl, nI_add, t2, gd_in _ (by omega) (by omega), mput_zs]
  rw [gd_in _ (by omega) (by omega), zs_at, gd_in _ (by omega) (by omega), upd_n _ _ (show 25 + k ≠ 28 + 8 * k + ln z k by omega), hl, mput_zs]
  simp only [put_3 hr, put_9 hr, put_8 hr, ov_s, gl_67, tl_67, zs_at]
  rw [upd_n _ _ (show 67 ≠ 78 + 10 * r by omega), upd_n _ _ (show 67 ≠ 25 + k by omega), upd_n _ _ (show 67 ≠ 28 + 8 * k + ln z k by omega)]
theorem zLst_0 (z : Nat → Int32) (k j : Nat) : zLst z k (j + 1) = if j = k then zLst z k j else if z (25 + j) ≤ 0 then zLst z k j else if zLst z k j < 0 then z (19 + j) else if zLst z k j ≤ z (19 + j) then zLst z k j else z (19 + j) := by rw [zLst]
set_option maxRecDepth 20000 in
theorem m_least {fu r k : Nat} {w : Mem} {z : Nat → Int32} (hr : r < 32) (hk : k < 3) (hl : z (25 + k) = nI (ln z k)) (hL : ln z k < 8) : ∀ d n j, j + d = 3 → d < n → F_X7_admit_L31 fu (nI r) n (nI k) (zLst z k j) (nI j) (zs w z) = some (zs w (zJoin (zCatch z k) r k)) := by
  have c1 : ∀ i, i ≠ 19 + k → zCatch z k i = z i := fun i h => zCatch_o h
  have cl : ln (zCatch z k) k = ln z k := ln_c (c1 _ (by omega))
  have hj : F_X7_admit_L142 fu (nI r) (nI k) (zs w (zCatch z k)) = some (zs w (zJoin (zCatch z k) r k)) := m_joined hr hk (by rw [c1 _ (by omega), cl]; exact hl) (by rw [cl]; exact hL)
  intro d
  induction d with
  | zero =>
    intro n j hj3 hn
    obtain ⟨n, rfl⟩ : ∃ i, n = i + 1 := ⟨n - 1, by omega⟩
    obtain rfl : j = 3 := by omega
    rw [F_X7_admit_L31, if_pos (by decide)]
    simp only [bd_s, ia_25, ia_19]
    rw [gd_in _ (by omega) (by omega), tn (25 + k) (by omega), zs_at]
    unfold zCatch at hj ⊢
    by_cases h0 : z (25 + k) = 0
    · rw [if_pos h0, gd_in _ (by omega) (by omega), tn (19 + k) (by omega)]
      rw [if_pos h0] at hj ⊢
      by_cases h1 : zLst z k 3 ≤ z (19 + k)
      · rw [if_pos h1] at hj ⊢
        rw [if_pos h1]
        exact hj
      · rw [if_neg h1] at hj ⊢
        rw [if_neg h1, gd_in _ (by omega) (by omega), mput_zs]
        exact hj
    · rw [if_neg h0] at hj ⊢
      rw [if_neg h0]
      exact hj
  | succ d ih =>
    intro n j hj3 hn
    obtain ⟨n, rfl⟩ : ∃ i, n = i + 1 := ⟨n - 1, by omega⟩
    have h3 : ¬ (3 : Int32) ≤ nI j := by rw [show (3 : Int32) = nI 3 from rfl]; exact nI_ge (by omega) (by omega)
    have go := ih n (j + 1) (by omega) (by omega)
    rw [zLst_0] at go
    rw [F_X7_admit_L31, if_neg h3]
    unfold F_X7_admit_L61
    simp only [bd_s, ia_25, ia_19, nI_1, zs_at]
    by_cases e : j = k
    · rw [if_pos e] at go
      rw [if_pos (by rw [e]), if_pos trivial]
      exact go
    · rw [if_neg e] at go
      rw [if_neg (fun h => e ((nI_eq (by omega) (by omega)).mp h)), gd_in _ (by omega) (by omega), tn (25 + j) (by omega)]
      by_cases e2 : z (25 + j) ≤ 0
      · rw [if_pos e2] at go
        rw [if_pos e2, if_pos trivial]
        exact go
      · rw [if_neg e2] at go
        rw [if_neg e2, if_neg (by decide)]
        by_cases e3 : zLst z k j < 0
        · rw [if_pos e3] at go
          rw [if_pos e3, gd_in _ (by omega) (by omega), tn (19 + j) (by omega)]
          exact go
        · rw [if_neg e3] at go
          rw [if_neg e3, gd_in _ (by omega) (by omega), tn (19 + j) (by omega)]
          by_cases e4 : zLst z k j ≤ z (19 + j)
          · rw [if_pos e4] at go
            rw [if_pos e4]
            exact go
          · rw [if_neg e4] at go
            rw [if_neg e4, gd_in _ (by omega) (by omega)]
            exact go
theorem m_admit {fu r k : Nat} {w : Mem} {z : Nat → Int32} (hr : r < 32) (hk : k < 3) (hkz : z (75 + 10 * r) = nI k) (hl : z (25 + k) = nI (ln z k)) (hL : ln z k < 8) (hf : 9 < fu) : F_X7_admit fu (nI r) (zs w z) = some (zs w (zAdmit z r k)) := by
  unfold F_X7_admit zAdmit
  simp only [of_0 hr, ob_s, hkz, bd_s, ia_16, of_4 hr]
  rw [gd_in _ (by omega) (by omega), tn (16 + k) (by omega), gd_in _ (by omega) (by omega), zs_at, mput_zs]
  have e := ln_c (z := z) (z' := upd z (16 + k) (z (16 + k) - z (79 + 10 * r))) (k := k) (upd_n _ _ (by omega))
  exact m_least (k := k) hr hk (by rw [upd_n _ _ (by omega), e]; exact hl) (by rw [e]; exact hL) 3 fu 0 rfl (by omega)
theorem zWhy_in (z : Nat → Int32) (k : Nat) (p : Int32) : (zWhy z k p = 0 ∧ ¬ z (25 + k) = 8) ∨ zWhy z k p = nI 1 ∨ zWhy z k p = nI 2 ∨ zWhy z k p = nI 3 ∨ zWhy z k p = nI 4 := by
  unfold zWhy
  by_cases h1 : p ≤ z (7 + 4 * k)
  · rw [if_pos h1]
    by_cases h2 : z (25 + k) = 8
    · rw [if_pos h2]; exact Or.inr (Or.inr (Or.inl rfl))
    · rw [if_neg h2]
      by_cases h3 : (zBack z k 0 (ln z k) 0 + p) * (z 4 + z 8 + z 12) / (z (4 + 4 * k) * z 0) ≤ z 1
      · rw [if_pos h3]
        by_cases h4 : p ≤ z (16 + k)
        · rw [if_pos h4]; exact Or.inl ⟨rfl, h2⟩
        · rw [if_neg h4]; exact Or.inr (Or.inr (Or.inr (Or.inr rfl)))
      · rw [if_neg h3]; exact Or.inr (Or.inr (Or.inr (Or.inl rfl)))
  · rw [if_neg h1]; exact Or.inr (Or.inl rfl)
theorem zCost_in {z : Nat → Int32} {s : Nat} (h : rng (z (70 + s)) 0 960) : rng (zCost z s) 1 60 := by
  obtain ⟨n, -, h2, h3⟩ := h
  unfold zCost
  rw [h3, show (16 : Int32) = nI 16 from rfl, pk_div (by omega) (by omega) (by omega)]
  split
  · rename_i h
    refine ⟨n / 16, ?_, by omega, rfl⟩
    rw [show (1 : Int32) = nI 1 from rfl, nI_leI (by omega) (by omega)] at h
    exact h
  · exact ⟨1, by omega, by omega, rfl⟩
theorem zCost_c {z z' : Nat → Int32} {s : Nat} (h : z' (70 + s) = z (70 + s)) : zCost z' s = zCost z s := by unfold zCost; rw [h]
theorem IS_div {z : Nat → Int32} {k : Nat} (h : IS z) (hk : k < 3) : ∃ d, 1 ≤ d ∧ d ≤ 180 ∧ z (4 + 4 * k) * z 0 = nI d := by
  obtain ⟨a, a1, a2, a3⟩ := h.1
  obtain ⟨b, b1, b2, b3⟩ := (h.2.2.2.2.1 k hk).1
  rw [a3, b3, pk_mul]
  refine ⟨b * a, Nat.mul_pos b1 a1, Nat.le_trans (Nat.mul_le_mul b2 a2) (by omega), rfl⟩
theorem nI_n0 {d : Nat} (h1 : 1 ≤ d) (h2 : d ≤ 180) : ¬ nI d = 0 := nI_ne0 h1 (by omega)
theorem Inv_price {z : Nat → Int32} {M c B r : Nat} {v : Int32} (h : Inv z M c B r) : Inv (upd z (79 + 10 * r) v) M c B r := by
  obtain ⟨a1, a2, a3, a4, a5, a6⟩ := h
  refine ⟨IC_c (upd_n _ _ (by omega)) (upd_n _ _ (by omega)) a1, IS_c (fun i hi => upd_n _ _ (by omega)) (fun s hs => upd_n _ _ (by omega)) a2, IQ_c (fun i _ hi => upd_n _ _ (by omega)) (fun r hr _ e => by rw [upd_n _ _ (by omega)]; exact e) a3, ID_c (fun i _ hi => upd_n _ _ (by omega)) (IQ_L a3) a4, fun r' hr' => ?_, IP_c (fun i hi => upd_n _ _ (by omega)) a6⟩
  obtain ⟨x1, x2, x3, x4⟩ := a5 r' hr'
  rw [upd_n _ _ (show 75 + 10 * r' ≠ 79 + 10 * r by omega), upd_n _ _ (show 76 + 10 * r' ≠ 79 + 10 * r by omega), upd_n _ _ (show 77 + 10 * r' ≠ 79 + 10 * r by omega), upd_n _ _ (show 78 + 10 * r' ≠ 79 + 10 * r by omega), upd_n _ _ (show 83 + 10 * r' ≠ 79 + 10 * r by omega)]
  refine ⟨x1, x2, x3, fun e => ?_⟩
  rw [upd_n _ _ (show 79 + 10 * r' ≠ 79 + 10 * r by omega)]
  exact x4 e
/-- offering: the invariant, and the reference's own method -/
theorem Inv_offer0 {z : Nat → Int32} {M c B r k s : Nat} (h : Inv z M c B r) (hr : r < M) (hk : k < 3) (hs : s < 5) : Inv (upd (upd z (81 + 10 * r) (z (81 + 10 * r) + 1)) (79 + 10 * r) (zCost z s)) M c B r ∧ rng (zCost z s) 1 60 :=
  ⟨Inv_price (Inv_up h (Or.inr (Or.inr (Or.inr (Or.inr ⟨r, by omega⟩))))), zCost_in (h.2.1.2.2.2.2.2 s hs)⟩
theorem nle0 {j : Nat} (h : 1 ≤ j) (h2 : j ≤ 5) : ¬ nI j ≤ 0 := nI_nle h (by omega)
theorem Inv_offer {z : Nat → Int32} {M c B r k s : Nat} (h : Inv z M c B r) (hr : r < M) (hk : k < 3) (hs : s < 5) (hB : B < 2 ^ 31) : Inv (zOffer z r k s).2 M c B 99 := by
  obtain ⟨h1, hc⟩ := Inv_offer0 h hr hk hs
  have hp : rng (upd (upd z (81 + 10 * r) (z (81 + 10 * r) + 1)) (79 + 10 * r) (zCost z s) (79 + 10 * r)) 0 60 := by
    rw [upd_s]
    obtain ⟨n, a, b, d⟩ := hc
    exact ⟨n, by omega, b, d⟩
  have e25 : upd (upd z (81 + 10 * r) (z (81 + 10 * r) + 1)) (79 + 10 * r) (zCost z s) (25 + k) = z (25 + k) := by rw [upd_n _ _ (by omega), upd_n _ _ (by omega)]
  unfold zOffer
  show Inv (if zWhy (upd (upd z (81 + 10 * r) (z (81 + 10 * r) + 1)) (79 + 10 * r) (zCost z s)) k (zCost z s) ≤ 0 then zAdmit (upd (upd z (81 + 10 * r) (z (81 + 10 * r) + 1)) (79 + 10 * r) (zCost z s)) r k else zRefuse (upd (upd z (81 + 10 * r) (z (81 + 10 * r) + 1)) (79 + 10 * r) (zCost z s)) r k (zWhy (upd (upd z (81 + 10 * r) (z (81 + 10 * r) + 1)) (79 + 10 * r) (zCost z s)) k (zCost z s)).toNatClampNeg) M c B 99
  generalize upd (upd z (81 + 10 * r) (z (81 + 10 * r) + 1)) (79 + 10 * r) (zCost z s) = y at *
  have ref : ∀ j, 1 ≤ j → j ≤ 4 → zWhy y k (zCost z s) = nI j → Inv (if zWhy y k (zCost z s) ≤ 0 then zAdmit y r k else zRefuse y r k (zWhy y k (zCost z s)).toNatClampNeg) M c B 99 := by
    intro j j1 j2 e
    rw [e, if_neg (nle0 j1 (by omega)), tn j (by omega)]
    exact Inv_refuse h1 hr hk j1 (by omega) hp
  rcases zWhy_in y k (zCost z s) with ⟨e, e8⟩ | e | e | e | e
  · rw [e, if_pos (by decide)]
    refine Inv_admit h1 hk hr ?_ hp hB
    have hL := (h1.2.2.1 k hk)
    rcases Nat.lt_or_ge (ln y k) 8 with q | q
    · exact q
    · exfalso
      apply e8
      rw [hL.1, show ln y k = 8 by omega]
      rfl
  · exact ref 1 (by omega) (by omega) e
  · exact ref 2 (by omega) (by omega) e
  · exact ref 3 (by omega) (by omega) e
  · exact ref 4 (by omega) (by omega) e
theorem m_offer {fu r k s M c B : Nat} {w : Mem} {z : Nat → Int32} (h : Inv z M c B r) (hr : r < M) (hk : k < 3) (hs : s < 5) (hkz : z (75 + 10 * r) = nI k) (hsz : z (76 + 10 * r) = nI s) (hf : 9 < fu) : F_X7_offerNow fu (nI r) (zs w z) = some ((zOffer z r k s).1, zs w (zOffer z r k s).2) := by
  have hM := h.1.2.1
  have hr2 : r < 32 := by omega
  obtain ⟨h1, hc⟩ := Inv_offer0 (k := k) h hr hk hs
  have ek : upd (upd z (81 + 10 * r) (z (81 + 10 * r) + 1)) (79 + 10 * r) (zCost z s) (75 + 10 * r) = nI k := by rw [upd_n _ _ (by omega), upd_n _ _ (by omega), hkz]
  unfold F_X7_offerNow
  simp only [of_6 hr2, ob_s, bd_s, put_6 hr2, ov_s, of_1 hr2]
  rw [upd_n _ _ (show 76 + 10 * r ≠ 81 + 10 * r by omega), hsz, m_cost hs, ob_s, zCost_c (z := z) (upd_n _ _ (show 70 + s ≠ 81 + 10 * r by omega)), put_4 hr2, ov_s, of_0 hr2, ob_s, of_4 hr2, ob_s, ek, upd_s]
  unfold zOffer
  show ob (F_X7_whyRefused fu (nI k) (zCost z s) (zs w (upd (upd z (81 + 10 * r) (z (81 + 10 * r) + 1)) (79 + 10 * r) (zCost z s)))) _ = some (zWhy (upd (upd z (81 + 10 * r) (z (81 + 10 * r) + 1)) (79 + 10 * r) (zCost z s)) k (zCost z s), zs w (if zWhy (upd (upd z (81 + 10 * r) (z (81 + 10 * r) + 1)) (79 + 10 * r) (zCost z s)) k (zCost z s) ≤ 0 then zAdmit (upd (upd z (81 + 10 * r) (z (81 + 10 * r) + 1)) (79 + 10 * r) (zCost z s)) r k else zRefuse (upd (upd z (81 + 10 * r) (z (81 + 10 * r) + 1)) (79 + 10 * r) (zCost z s)) r k (zWhy (upd (upd z (81 + 10 * r) (z (81 + 10 * r) + 1)) (79 + 10 * r) (zCost z s)) k (zCost z s)).toNatClampNeg))
  generalize upd (upd z (81 + 10 * r) (z (81 + 10 * r) + 1)) (79 + 10 * r) (zCost z s) = y at *
  have hQ := h1.2.2.1 k hk
  obtain ⟨d, d1, d2, d3⟩ := IS_div h1.2.1 hk
  rw [m_why hk hQ.2.1 hQ.1 (IQ_q h1.2.2.1 hM hk) (by rw [d3]; exact nI_n0 d1 d2) hf, ob_s]
  have ref : ∀ j, 1 ≤ j → j ≤ 4 → zWhy y k (zCost z s) = nI j → (if zWhy y k (zCost z s) ≤ 0 then ov (F_X7_admit fu (nI r) (zs w y)) fun m35 => some (zWhy y k (zCost z s), m35) else ov (F_X7_refuse fu (nI r) (zWhy y k (zCost z s)) (zs w y)) fun m36 => some (zWhy y k (zCost z s), m36)) = some (zWhy y k (zCost z s), zs w (if zWhy y k (zCost z s) ≤ 0 then zAdmit y r k else zRefuse y r k (zWhy y k (zCost z s)).toNatClampNeg)) := by
    intro j j1 j2 e
    rw [e, if_neg (nle0 j1 (by omega)), if_neg (nle0 j1 (by omega)), tn j (by omega), m_refuse hr2 hk j1 (by omega) ek, ov_s]
  rcases zWhy_in y k (zCost z s) with ⟨e, e8⟩ | e | e | e | e
  · rw [e, if_pos (by decide), if_pos (by decide), m_admit hr2 hk ek hQ.1 ?_ hf, ov_s]
    rcases Nat.lt_or_ge (ln y k) 8 with q | q
    · exact q
    · exfalso
      apply e8
      rw [hQ.1, show ln y k = 8 by omega]
      rfl
  · exact ref 1 (by omega) (by omega) e
  · exact ref 2 (by omega) (by omega) e
  · exact ref 3 (by omega) (by omega) e
  · exact ref 4 (by omega) (by omega) e
