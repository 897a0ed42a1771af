theorem gd_in {β : Type} {i n : Nat} (x : Option β) (h : i < n) (hn : n < 2 ^ 31) : gd (inb (nI i) n) x = x := by rw [inb_nI h hn, gd_t]
theorem gl_0 {β : Type} (x : Option β) : gd (inb 0 395) x = x := gd_in (i := 0) x (by decide) (by decide)
theorem tl_0 : (0 : Int32).toNatClampNeg = 0 := tn 0 (by decide)
theorem gl_1 {β : Type} (x : Option β) : gd (inb 1 395) x = x := gd_in (i := 1) x (by decide) (by decide)
theorem tl_1 : (1 : Int32).toNatClampNeg = 1 := tn 1 (by decide)
theorem gl_2 {β : Type} (x : Option β) : gd (inb 2 395) x = x := gd_in (i := 2) x (by decide) (by decide)
theorem tl_2 : (2 : Int32).toNatClampNeg = 2 := tn 2 (by decide)
theorem gl_3 {β : Type} (x : Option β) : gd (inb 3 395) x = x := gd_in (i := 3) x (by decide) (by decide)
theorem tl_3 : (3 : Int32).toNatClampNeg = 3 := tn 3 (by decide)
theorem gl_67 {β : Type} (x : Option β) : gd (inb 67 395) x = x := gd_in (i := 67) x (by decide) (by decide)
theorem tl_67 : (67 : Int32).toNatClampNeg = 67 := tn 67 (by decide)
theorem gl_68 {β : Type} (x : Option β) : gd (inb 68 395) x = x := gd_in (i := 68) x (by decide) (by decide)
theorem tl_68 : (68 : Int32).toNatClampNeg = 68 := tn 68 (by decide)
theorem gl_69 {β : Type} (x : Option β) : gd (inb 69 395) x = x := gd_in (i := 69) x (by decide) (by decide)
theorem tl_69 : (69 : Int32).toNatClampNeg = 69 := tn 69 (by decide)
theorem nz_of {y : Int32} (h : ¬ y = 0) : nz y = true := by
  unfold nz
  exact decide_eq_true h
theorem m_cost {fu s : Nat} {w : Mem} {z : Nat → Int32} (hs : s < 5) : F_X7_expectedCost fu (nI s) (zs w z) = some (zCost z s, zs w z) := by
  unfold F_X7_expectedCost zCost
  simp only [bd_s, ia_70]
  rw [gd_in _ (by omega) (by omega), tn _ (by omega), zs_at]
  split <;> rfl
theorem m_back {fu k L : Nat} {w : Mem} {z : Nat → Int32} (hk : k < 3) (hL : L ≤ 8) (hl : z (25 + k) = nI L) (hq : ∀ p, p < L → ∃ q, q < 32 ∧ z (28 + 8 * k + p) = nI q) : ∀ (d n p : Nat) (s : Int32), p + d = L → d < n → F_X7_backlogOf_L4 fu (nI k) n s (nI p) (zs w z) = some (zBack z k p d s, zs w z) := by
  intro d
  induction d with
  | zero =>
    intro n p s hp hn
    obtain ⟨n, rfl⟩ : ∃ j, n = j + 1 := ⟨n - 1, by omega⟩
    rw [F_X7_backlogOf_L4]
    simp only [bd_s, ia_25]
    rw [gd_in _ (by omega) (by omega), tn _ (by omega), zs_at, hl, if_pos (nI_le (by omega) (by omega))]
    rfl
  | succ d ih =>
    intro n p s hp hn
    obtain ⟨n, rfl⟩ : ∃ j, n = j + 1 := ⟨n - 1, by omega⟩
    obtain ⟨q, hq1, hq2⟩ := hq p (by omega)
    rw [F_X7_backlogOf_L4]
    simp only [bd_s, ia_25]
    rw [gd_in _ (by omega) (by omega), tn _ (by omega), zs_at, hl, if_neg (nI_ge (by omega) (by omega))]
    simp only [inq_v hk (show p < 8 by omega), ob_s, hq2, of_4 hq1, of_5 hq1]
    have e : zBack z k p (d + 1) s = zBack z k (p + 1) d (s + zLeft z q) := by
      rw [zBack, hq2, tn q (by omega)]
    rw [e]
    unfold zLeft
    split
    · rw [nI_1]; exact ih n (p + 1) _ (by omega) (by omega)
    · rw [nI_1]; exact ih n (p + 1) _ (by omega) (by omega)
theorem m_backlog {fu k L : Nat} {w : Mem} {z : Nat → Int32} (hk : k < 3) (hL : L ≤ 8) (hl : z (25 + k) = nI L) (hq : ∀ p, p < L → ∃ q, q < 32 ∧ z (28 + 8 * k + p) = nI q) (hf : 9 < fu) : F_X7_backlogOf fu (nI k) (zs w z) = some (zBack z k 0 L 0, zs w z) :=
  m_back hk hL hl hq L fu 0 0 (by omega) (by omega)
set_option maxRecDepth 20000 in
theorem m_why {fu k : Nat} {p : Int32} {w : Mem} {z : Nat → Int32} (hk : k < 3) (hL : ln z k ≤ 8) (hl : z (25 + k) = nI (ln z k)) (hq : ∀ p, p < ln z k → ∃ q, q < 32 ∧ z (28 + 8 * k + p) = nI q) (hd : ¬ z (4 + 4 * k) * z 0 = 0) (hf : 9 < fu) : F_X7_whyRefused fu (nI k) p (zs w z) = some (zWhy z k p, zs w z) := by
  unfold F_X7_whyRefused zWhy
  rw [ofc_3 hk, ob_s]
  by_cases h1 : p ≤ z (7 + 4 * k)
  · rw [if_pos h1, if_pos h1, bd_s, ia_25, gd_in _ (by omega) (by omega), tn _ (by omega), zs_at]
    by_cases h2 : z (25 + k) = 8
    · rw [if_pos h2, if_pos h2]
    · rw [if_neg h2, if_neg h2, ofc0_0, ob_s, ofc0_1, ob_s, bd_s, ofc0_2, ob_s, bd_s, m_backlog hk hL hl hq hf, ob_s, bd_s, bd_s, ofc_0 hk, ob_s, gl_0, tl_0, zs_at, bd_s, nz_of hd, gd_t, bd_s, gl_1, tl_1]
      by_cases h3 : (zBack z k 0 (ln z k) 0 + p) * (z 4 + z 8 + z 12) / (z (4 + 4 * k) * z 0) ≤ z 1
      · rw [if_pos h3, if_pos h3, bd_s, ia_16, gd_in _ (by omega) (by omega), tn _ (by omega)]
        by_cases h4 : p ≤ z (16 + k)
        · rw [if_pos h4, if_pos h4]
        · rw [if_neg h4, if_neg h4]
      · rw [if_neg h3, if_neg h3]
  · rw [if_neg h1, if_neg h1]
theorem m_add {fu k : Nat} {a : Int32} {w : Mem} {z : Nat → Int32} (hk : k < 3) : F_X7_addTokens fu (nI k) a (zs w z) = some (zs w (zAdd z k a)) := by
  unfold F_X7_addTokens zAdd F_X7_addTokens_L34
  simp only [bd_s, ia_16]
  rw [gd_in _ (by omega) (by omega), tn _ (by omega), zs_at]
  simp only [ofc_2 hk, ob_s]
  by_cases h1 : z (6 + 4 * k) ≤ z (16 + k) + a
  · rw [if_pos h1, if_pos h1]
    rw [gd_in _ (by omega) (by omega), gd_in _ (by omega) (by omega), mput_zs, mput_zs]
    split <;> rfl
  · rw [if_neg h1, if_neg h1]
    rw [gd_in _ (by omega) (by omega), gd_in _ (by omega) (by omega), mput_zs, mput_zs]
    split <;> rfl
theorem upd_2 (z : Nat → Int32) {i j l : Nat} (v x : Int32) (h : l ≠ i) (h2 : l ≠ j) : upd (upd z i v) j x l = z l := by rw [upd_n _ _ h2, upd_n _ _ h]
theorem m_refuse {fu r k j : Nat} {w : Mem} {z : Nat → Int32} (hr : r < 32) (hk : k < 3) (hj : 1 ≤ j) (hj2 : j ≤ 5) (hkz : z (75 + 10 * r) = nI k) : F_X7_refuse fu (nI r) (nI j) (zs w z) = some (zs w (zRefuse z r k j)) := by
  unfold F_X7_refuse zRefuse
  simp only [of_6 hr, ob_s, of_0 hr, hkz, bd_s, im_5, ia_52, nI_add]
  rw [show (52 + 5 * k + j) = (51 + 5 * k + j) + 1 by omega, show nI ((51 + 5 * k + j) + 1) - 1 = nI (51 + 5 * k + j) from nI_pred _]
  rw [gd_in _ (by omega) (by omega), tn _ (by omega), gd_in _ (by omega) (by omega), zs_at, mput_zs]
  simp only [put_7 hr, ov_s, gl_3, tl_3, zs_at]
  rw [upd_2 _ _ _ (show 3 ≠ 51 + 5 * k + j by omega) (show 3 ≠ 82 + 10 * r by omega)]
  unfold F_X7_refuse_L55 F_X7_refuse_L70 F_X7_refuse_L105
  split
  · rw [if_pos rfl]
    simp only [put_3 hr, ov_s, put_8 hr]
    rw [if_pos trivial]
  · rw [if_neg (by decide)]
    simp only [put_3 hr, ov_s, put_8 hr, gl_67, gl_2, tl_67, tl_2, zs_at, bd_s]
    rw [if_neg (by decide), upd_n _ _ (show 2 ≠ 78 + 10 * r by omega), upd_n _ _ (show 67 ≠ 78 + 10 * r by omega), upd_2 _ _ _ (show 2 ≠ 51 + 5 * k + j by omega) (show 2 ≠ 82 + 10 * r by omega), upd_2 _ _ _ (show 67 ≠ 51 + 5 * k + j by omega) (show 67 ≠ 82 + 10 * r by omega)]
