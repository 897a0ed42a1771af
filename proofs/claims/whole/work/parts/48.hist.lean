/-! ===== the history ===== -/
def blk (g f : Nat → Int32) (S j : Nat) : Nat → Int32 := fun i => if 395 * S ≤ i ∧ i < 395 * S + j then g (i - 395 * S) else f i
theorem blk_0 (g f : Nat → Int32) (S : Nat) : blk g f S 0 = f := by
  funext i
  exact if_neg (by omega)
theorem blk_s (g f : Nat → Int32) (S j : Nat) : upd (blk g f S j) (395 * S + j) (g j) = blk g f S (j + 1) := by
  funext i
  unfold blk
  by_cases h : i = 395 * S + j
  · subst h; rw [upd_s, if_pos (by omega)]; congr 1; omega
  · rw [upd_n _ _ h]
    by_cases h2 : 395 * S ≤ i ∧ i < 395 * S + j
    · rw [if_pos h2, if_pos (by omega)]
    · rw [if_neg h2, if_neg (by omega)]
theorem le395 {j : Nat} (h : j < 395) : ¬ (395 : Int32) ≤ nI j := by rw [show (395 : Int32) = nI 395 from rfl]; exact nI_ge h (by omega)
theorem m_rec51 {fu S : Nat} {w : Mem} (hS : S < 4) (hw : w 359 3 = nI S) : ∀ d n j, j + d = 395 → d < n → F_X7_record_L51 fu n (nI j) (mrow w 362 (blk (w 360) (w 362) S j)) = some (mput (mrow w 362 (blk (w 360) (w 362) S 395)) 359 3 (nI (S + 1))) := by
  intro d
  induction d with
  | zero =>
    intro n j hj hn
    obtain ⟨n, rfl⟩ : ∃ i, n = i + 1 := ⟨n - 1, by omega⟩
    obtain rfl : j = 395 := by omega
    rw [F_X7_record_L51, if_pos (by decide), bd_s, bd_s, mrow_ne _ _ (show 359 ≠ 362 by omega), hw, nI_1]
  | succ d ih =>
    intro n j hj hn
    obtain ⟨n, rfl⟩ : ∃ i, n = i + 1 := ⟨n - 1, by omega⟩
    rw [F_X7_record_L51, if_neg (le395 (by omega)), bd_s, bd_s, mrow_ne _ _ (show 359 ≠ 362 by omega), hw, im_395, nI_add, gd_in _ (by omega) (by omega), gd_in _ (by omega) (by omega), bd_s, bd_s, nI_1, tn j (by omega), tn (395 * S + j) (by omega), mput_row, mrow_ne _ _ (show 360 ≠ 362 by omega), blk_s]
    exact ih n (j + 1) (by omega) (by omega)
theorem m_rec51a {fu S : Nat} {w : Mem} (hS : S < 4) (hw : w 359 3 = nI S) (hf : 400 < fu) : F_X7_record_L51 fu fu 0 w = some (mput (mrow w 362 (blk (w 360) (w 362) S 395)) 359 3 (nI (S + 1))) := by
  have h := m_rec51 (fu := fu) hS hw 395 fu 0 (by omega) (by omega)
  rw [blk_0, mrow_self] at h
  exact h
theorem m_rec10 {fu : Nat} {w : Mem} (hw : w 359 3 = nI 4) : ∀ d n j, j + d = 1185 → d < n → F_X7_record_L10 fu n (nI j) (mrow w 362 (cut (fun i => w 362 (395 + i)) (w 362) j)) = F_X7_record_L51 fu fu 0 (mput (mrow w 362 (cut (fun i => w 362 (395 + i)) (w 362) 1185)) 359 3 (nI 3)) := by
  intro d
  induction d with
  | zero =>
    intro n j hj hn
    obtain ⟨n, rfl⟩ : ∃ i, n = i + 1 := ⟨n - 1, by omega⟩
    obtain rfl : j = 1185 := by omega
    rw [F_X7_record_L10, if_pos (by decide), bd_s, bd_s, mrow_ne _ _ (show 359 ≠ 362 by omega), hw, nI_pred]
  | succ d ih =>
    intro n j hj hn
    obtain ⟨n, rfl⟩ : ∃ i, n = i + 1 := ⟨n - 1, by omega⟩
    rw [F_X7_record_L10, if_neg (show ¬ (1185 : Int32) ≤ nI j by rw [show (1185 : Int32) = nI 1185 from rfl]; exact nI_ge (by omega) (by omega)), bd_s, ia_395, gd_in _ (by omega) (by omega), gd_in _ (by omega) (by omega), bd_s, bd_s, nI_1, tn j (by omega), tn (395 + j) (by omega), mput_row, mrow_at]
    rw [show cut (fun i => w 362 (395 + i)) (w 362) j (395 + j) = (fun i => w 362 (395 + i)) j from if_neg (by omega), cut_s]
    exact ih n (j + 1) (by omega) (by omega)
theorem m_rec10a {fu : Nat} {w : Mem} (hw : w 359 3 = nI 4) (hf : 1200 < fu) : F_X7_record_L10 fu fu 0 w = F_X7_record_L51 fu fu 0 (mput (mrow w 362 (cut (fun i => w 362 (395 + i)) (w 362) 1185)) 359 3 (nI 3)) := by
  have h := m_rec10 (fu := fu) hw 1185 fu 0 (by omega) (by omega)
  rw [cut_0, mrow_self] at h
  exact h
def hz (w : Mem) (i : Nat) : Nat → Int32 := fun j => w 362 (395 * i + j)
theorem m_record {fu S : Nat} {w : Mem} (hS : S ≤ 4) (hw : w 359 3 = nI S) (hf : 1200 < fu) : ∃ w' S', F_X7_record fu w = some w' ∧ S' ≤ 4 ∧ 1 ≤ S' ∧ S' ≤ S + 1 ∧ (S < 4 → S' = S + 1) ∧ (S = 4 → S' = 4) ∧ w' 359 3 = nI S' ∧ (∀ a, a ≠ 359 → a ≠ 362 → w' a = w a) ∧ (∀ s, s ≠ 3 → w' 359 s = w 359 s) ∧ (∀ j, j < 395 → hz w' (S' - 1) j = w 360 j) ∧ ∀ i, i < S → 1 ≤ S' - i → i + 1 < S' → ∀ j, j < 395 → hz w' (S' - 1 - (i + 1)) j = hz w (S - 1 - i) j := by
  unfold F_X7_record
  rw [hw]
  by_cases h4 : S = 4
  · subst h4
    rw [if_pos (show nI 4 = 4 from rfl), m_rec10a hw hf]
    generalize hg : mput (mrow w 362 (cut (fun i => w 362 (395 + i)) (w 362) 1185)) 359 3 (nI 3) = w1
    have g1 : w1 359 3 = nI 3 := by rw [← hg, mput_at]
    have g2 : ∀ a, a ≠ 359 → a ≠ 362 → w1 a = w a := fun a h1 h2 => by rw [← hg, mput_other _ _ _ h1, mrow_ne _ _ h2]
    have g3 : ∀ s, s ≠ 3 → w1 359 s = w 359 s := fun s h => by rw [← hg, mput_ne _ _ (Or.inr h), mrow_ne _ _ (by omega)]
    have g4 : w1 362 = cut (fun i => w 362 (395 + i)) (w 362) 1185 := by rw [← hg, mput_other _ _ _ (by omega), mrow_at]
    rw [m_rec51a (by omega) g1 (by omega)]
    refine ⟨_, 4, rfl, by omega, by omega, by omega, by omega, fun _ => rfl, mput_at _ _ _ _, fun a h1 h2 => ?_, fun s h => ?_, fun j hj => ?_, fun i hi _ hi2 j hj => ?_⟩
    · rw [mput_other _ _ _ h1, mrow_ne _ _ h2, g2 a h1 h2]
    · rw [mput_ne _ _ (Or.inr h), mrow_ne _ _ (by omega), g3 s h]
    · unfold hz
      rw [mput_other _ _ _ (by omega), mrow_at]
      unfold blk
      rw [if_pos (by omega), g2 _ (by omega) (by omega), show 395 * (4 - 1) + j - 395 * 3 = j by omega]
    · unfold hz
      rw [mput_other _ _ _ (by omega), mrow_at]
      unfold blk
      rw [if_neg (by omega), g4]
      unfold cut
      rw [if_pos (by omega)]
      show w 362 (395 + (395 * (4 - 1 - (i + 1)) + j)) = w 362 (395 * (4 - 1 - i) + j)
      rw [show 395 + (395 * (4 - 1 - (i + 1)) + j) = 395 * (4 - 1 - i) + j by omega]
  · rw [if_neg (show ¬ nI S = 4 from fun e => h4 ((nI_eq (a := S) (b := 4) (by omega) (by omega)).mp e)), m_rec51a (by omega) hw (by omega)]
    refine ⟨_, S + 1, rfl, by omega, by omega, by omega, fun _ => rfl, by omega, mput_at _ _ _ _, fun a h1 h2 => ?_, fun s h => ?_, fun j hj => ?_, fun i hi _ hi2 j hj => ?_⟩
    · rw [mput_other _ _ _ h1, mrow_ne _ _ h2]
    · rw [mput_ne _ _ (Or.inr h), mrow_ne _ _ (by omega)]
    · unfold hz
      rw [mput_other _ _ _ (by omega), mrow_at]
      unfold blk
      rw [show S + 1 - 1 = S by omega, if_pos (by omega), show 395 * S + j - 395 * S = j by omega]
    · unfold hz
      rw [mput_other _ _ _ (by omega), mrow_at]
      unfold blk
      rw [show S + 1 - 1 - (i + 1) = S - 1 - i by omega, if_neg]
      intro h
      have : 395 * (S - 1 - i) + 395 ≤ 395 * S := by
        have := Nat.mul_le_mul_left 395 (show S - 1 - i + 1 ≤ S by omega)
        omega
      omega
theorem m_undo0 {fu S : Nat} {w : Mem} (hS : S < 4) (hw : w 359 3 = nI S) : ∀ d n j, j + d = 395 → d < n → F_X7_undo_L22 fu n (nI j) (mrow w 360 (cut (hz w S) (w 360) j)) = some (nI S, mrow w 360 (cut (hz w S) (w 360) 395)) := by
  intro d
  induction d with
  | zero =>
    intro n j hj hn
    obtain ⟨n, rfl⟩ : ∃ i, n = i + 1 := ⟨n - 1, by omega⟩
    obtain rfl : j = 395 := by omega
    rw [F_X7_undo_L22, if_pos (by decide), mrow_ne _ _ (show 359 ≠ 360 by omega), hw]
  | succ d ih =>
    intro n j hj hn
    obtain ⟨n, rfl⟩ : ∃ i, n = i + 1 := ⟨n - 1, by omega⟩
    rw [F_X7_undo_L22, if_neg (le395 (by omega)), bd_s, bd_s, mrow_ne _ _ (show 359 ≠ 360 by omega), hw, im_395, nI_add, gd_in _ (by omega) (by omega), gd_in _ (by omega) (by omega), bd_s, bd_s, nI_1, tn j (by omega), tn (395 * S + j) (by omega), mput_row, mrow_ne _ _ (show 362 ≠ 360 by omega)]
    rw [show w 362 (395 * S + j) = hz w S j from rfl, cut_s]
    exact ih n (j + 1) (by omega) (by omega)
theorem m_undo {fu S : Nat} {w : Mem} (hS : S < 4) (hw : w 359 3 = nI (S + 1)) (hf : 400 < fu) : F_X7_undo fu w = some (nI S, mrow (mput w 359 3 (nI S)) 360 (cut (hz w S) (w 360) 395)) := by
  unfold F_X7_undo
  rw [hw, if_neg (nI_ne0 (by omega) (by omega)), bd_s, bd_s, nI_pred]
  have h := m_undo0 (fu := fu) (w := mput w 359 3 (nI S)) hS (mput_at _ _ _ _) 395 fu 0 (by omega) (by omega)
  rw [cut_0, mrow_self] at h
  have e : hz (mput w 359 3 (nI S)) S = hz w S := by
    funext j
    unfold hz
    rw [mput_other _ _ _ (by omega)]
  rw [e, mput_other _ _ _ (show 360 ≠ 359 by omega)] at h
  exact h
/-! ===== both sides: m holds the class's objects, w the reference's ===== -/
theorem Inv_ext {z z' : Nat → Int32} {M c B : Nat} (h : Inv z M c B 99) (e : ∀ i, i < 395 → z' i = z i) : Inv z' M c B 99 := by
  have hM := h.1.2.1
  exact Inv_c h (fun i hi => e i (by omega)) (fun i _ hi => e i (by omega)) (fun i _ hi => e i (by omega)) ⟨e _ (by omega), e _ (by omega)⟩ (fun s hs => e _ (by omega)) (fun r hr g hg => e _ (by omega)) (fun r hr => e _ (by omega))
theorem Rel_ext {b : Nat} {m : Mem} {z z' : Nat → Int32} {M : Nat} (h : Rel b m z M 99) (hM : M ≤ 32) (e : ∀ i, i < 395 → z' i = z i) : Rel b m z' M 99 := by
  obtain ⟨h1, h2, h3, h4, h5⟩ := h
  refine ⟨fun i hi => by rw [e i (by omega)]; exact h1 i hi, fun r hr g hg x => by rw [e _ (by omega)]; exact h2 r hr g hg x, fun r hr x => by rw [e _ (by omega), e _ (by omega), e _ (by omega)]; exact h3 r hr x, ⟨?_, ?_⟩, h5⟩
  · rw [oPn_c (fun r hr _ => e _ (by omega))]; exact h4.1
  · rw [rJc_c (fun r hr _ => e _ (by omega))]; exact h4.2
theorem Rel_m {b : Nat} {m m' : Mem} {z : Nat → Int32} {M r0 : Nat} (h : Rel b m z M r0) (hM : M ≤ 32) (e : ∀ a, b ≤ a → a < b + 59 → m' a = m a) : Rel b m' z M r0 := by
  obtain ⟨h1, h2, h3, h4, h5⟩ := h
  exact ⟨fun i hi => by rw [e _ (by omega) (by have := lo_27 i hi; omega)]; exact h1 i hi, fun r hr g hg x => by rw [e _ (by omega) (by omega)]; exact h2 r hr g hg x, fun r hr x => by rw [e _ (by omega) (by omega)]; exact h3 r hr x, ⟨by rw [e _ (by omega) (by omega)]; exact h4.1, by rw [e _ (by omega) (by omega)]; exact h4.2⟩, fun r hr => by rw [e _ (by omega) (by omega)]; exact h5 r hr⟩
def isHb (c : Nat) : Bool := decide (c = 120 ∨ c = 179 ∨ c = 238 ∨ c = 297)
theorem isHb_or {c : Nat} (h : isHb c = true) : c = 120 ∨ c = 179 ∨ c = 238 ∨ c = 297 := of_decide_eq_true h
theorem isHb_Sb {c : Nat} (h : isHb c = true) : isSb c = true := decide_eq_true (by have := isHb_or h; omega)
theorem isSb_or {c : Nat} (h : isSb c = true) : c = 1 ∨ c = 60 ∨ c = 120 ∨ c = 179 ∨ c = 238 ∨ c = 297 := of_decide_eq_true h
theorem ap_Sb {a b : Nat} (ha : isSb a = true) (hb : isSb b = true) (h : a ≠ b) : ap a b := by
  intro t t' h1 h2
  have := isSb_or ha
  have := isSb_or hb
  omega
def HR (m w : Mem) : Prop := ∃ (S : Nat) (h : Nat → Nat), S ≤ 4 ∧ m 119 4 = nI S ∧ w 359 3 = nI S ∧ (∀ j, j < 4 → isHb (h j) = true ∧ m 119 j = nI (h j)) ∧ (∀ i j, i < 4 → j < 4 → h i = h j → i = j) ∧ ∀ i, i < S → ∃ M c, Rel (h i) m (hz w (S - 1 - i)) M 99 ∧ Inv (hz w (S - 1 - i)) M c (pB c) 99 ∧ c ≤ 999
def TR (m w : Mem) : Prop := ∃ L, L ≤ 80 ∧ m 356 1 = nI L ∧ w 359 5 = nI L ∧ ∀ i, i < L → ∃ x, 32 ≤ x ∧ x ≤ 126 ∧ m 358 i = nI x ∧ w 363 i = nI x
def SR (m : Mem) (z : Nat → Int32) : Prop := ∃ M c, Rel 1 m z M 99 ∧ Inv z M c (pB c) 99 ∧ c ≤ 999
def NR (m : Mem) : Prop := ∀ b, isSb b = true → RN b m
def GR (m w : Mem) : Prop := SR m (w 360) ∧ NR m ∧ HR m w ∧ TR m w
theorem HR_c {m m' w w' : Mem} (h : HR m w) (e1 : ∀ a, 119 ≤ a → a < 356 → m' a = m a) (e2 : w' 359 3 = w 359 3) (e3 : w' 362 = w 362) : HR m' w' := by
  obtain ⟨S, f, h1, h2, h3, h4, h5, h6⟩ := h
  refine ⟨S, f, h1, by rw [e1 _ (by omega) (by omega)]; exact h2, e2.trans h3, fun j hj => by rw [e1 _ (by omega) (by omega)]; exact h4 j hj, h5, fun i hi => ?_⟩
  obtain ⟨M, c, r1, r2, r3⟩ := h6 i hi
  have hb := isHb_or (h4 i (by omega)).1
  have e : hz w' (S - 1 - i) = hz w (S - 1 - i) := by
    unfold hz
    rw [e3]
  rw [e]
  exact ⟨M, c, Rel_m r1 r2.1.2.1 (fun a x1 x2 => e1 a (by omega) (by omega)), r2, r3⟩
theorem TR_c {m m' w w' : Mem} (h : TR m w) (e1 : m' 356 1 = m 356 1) (e2 : m' 358 = m 358) (e3 : w' 359 5 = w 359 5) (e4 : w' 363 = w 363) : TR m' w' := by
  obtain ⟨L, h1, h2, h3, h4⟩ := h
  exact ⟨L, h1, e1.trans h2, e3.trans h3, fun i hi => by rw [e2, e4]; exact h4 i hi⟩
theorem SR_m {m m' : Mem} {z : Nat → Int32} (h : SR m z) (e : ∀ a, 1 ≤ a → a < 60 → m' a = m a) : SR m' z := by
  obtain ⟨M, c, h1, h2, h3⟩ := h
  exact ⟨M, c, Rel_m h1 h2.1.2.1 (fun a x1 x2 => e a (by omega) (by omega)), h2, h3⟩
theorem NR_m {m m' : Mem} (h : NR m) (e : ∀ b r, isSb b = true → r < 32 → m' (b + 27 + r) 0 = m (b + 27 + r) 0) : NR m' := fun b hb r hr => (e b r hb hr).trans (h b hb r hr)
theorem GR_c {m m' w w' : Mem} (h : GR m w) (e1 : ∀ a, a < 359 → m' a = m a) (e2 : ∀ a, 359 ≤ a → w' a = w a) : GR m' w' := by
  obtain ⟨h1, h2, h3, h4⟩ := h
  refine ⟨?_, NR_m h2 (fun b r hb hr => by have := isSb_or hb; rw [e1 _ (by omega)]), HR_c h3 (fun a _ x => e1 a (by omega)) (by rw [e2 _ (by omega)]) (e2 _ (by omega)), TR_c h4 (by rw [e1 _ (by omega)]) (e1 _ (by omega)) (by rw [e2 _ (by omega)]) (e2 _ (by omega))⟩
  rw [e2 _ (by omega)]
  exact SR_m h1 (fun a _ x => e1 a (by omega))
/-- the server and the array move on -/
theorem GR_srv {m m' w : Mem} {z' : Nat → Int32} {M c : Nat} (h : GR m w) (hr : Rel 1 m' z' M 99) (hi : Inv z' M c (pB c) 99) (hc : c ≤ 999) (hf : Fr 1 m m') : GR m' (zs w z') := by
  obtain ⟨h1, h2, h3, h4⟩ := h
  refine ⟨⟨M, c, by rw [zs_at]; exact hr, by rw [zs_at]; exact hi, hc⟩, fun b hb => ?_, HR_c h3 (fun a x1 x2 => hf a (by omega)) (by rw [zs_ne _ _ (by omega)]) (zs_ne _ _ (by omega)), TR_c h4 (by rw [hf _ (by omega)]) (hf _ (by omega)) (by rw [zs_ne _ _ (by omega)]) (zs_ne _ _ (by omega))⟩
  by_cases e : b = 1
  · subst e; exact hr.2.2.2.2
  · intro r hr'
    have := isSb_or hb
    rw [hf _ (by omega)]
    exact h2 b hb r hr'
