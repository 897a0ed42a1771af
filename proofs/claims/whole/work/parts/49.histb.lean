theorem hb_lt {c : Nat} (h : isHb c = true) : c < 2 ^ 31 := by have := isHb_or h; omega
set_option maxRecDepth 20000 in
theorem g_keep {fu : Nat} {m w : Mem} (g : GR m w) (hf : 1200 < fu) : ∃ m1 w1, F_X0_keep fu 1 m = some m1 ∧ F_X7_record fu w = some w1 ∧ GR m1 w1 ∧ w1 360 = w 360 ∧ (∀ a, a < 119 ∨ 356 ≤ a → m1 a = m a) ∧ ∀ a, a < 359 → w1 a = w a := by
  obtain ⟨⟨M, c, r1, r2, r3⟩, gN, ⟨S, h, hS, hm, hw, hh, hinj, hent⟩, gT⟩ := g
  obtain ⟨w1, S', e1, s1, s2, s3, s4, s5, w1S, wo, wo2, wz, wh⟩ := m_record hS hw hf
  obtain ⟨b0, q0⟩ := hh 0 (by omega)
  obtain ⟨b1, q1⟩ := hh 1 (by omega)
  obtain ⟨b2, q2⟩ := hh 2 (by omega)
  obtain ⟨b3, q3⟩ := hh 3 (by omega)
  have t := fun j (hj : j < 4) => tn (h j) (hb_lt (hh j hj).1)
  have k := fun j (hj : j < 4) => isHb_Sb (hh j hj).1
  -- the class
  have f1 : ∀ a, a ≠ 119 → mput (mput (mput (mput m 119 3 (nI (h 2))) 119 2 (nI (h 1))) 119 1 (nI (h 0))) 119 0 (nI (h 3)) a = m a := fun a ha => by rw [mput_other _ _ _ ha, mput_other _ _ _ ha, mput_other _ _ _ ha, mput_other _ _ _ ha]
  have p0 : mput (mput (mput (mput m 119 3 (nI (h 2))) 119 2 (nI (h 1))) 119 1 (nI (h 0))) 119 0 (nI (h 3)) 119 0 = nI (h 3) := mput_at _ _ _ _
  have p1 : mput (mput (mput (mput m 119 3 (nI (h 2))) 119 2 (nI (h 1))) 119 1 (nI (h 0))) 119 0 (nI (h 3)) 119 1 = nI (h 0) := by rw [mput_ne _ _ (by omega), mput_at]
  have p2 : mput (mput (mput (mput m 119 3 (nI (h 2))) 119 2 (nI (h 1))) 119 1 (nI (h 0))) 119 0 (nI (h 3)) 119 2 = nI (h 1) := by rw [mput_ne _ _ (by omega), mput_ne _ _ (by omega), mput_at]
  have p3 : mput (mput (mput (mput m 119 3 (nI (h 2))) 119 2 (nI (h 1))) 119 1 (nI (h 0))) 119 0 (nI (h 3)) 119 3 = nI (h 2) := by rw [mput_ne _ _ (by omega), mput_ne _ _ (by omega), mput_ne _ _ (by omega), mput_at]
  have p4 : mput (mput (mput (mput m 119 3 (nI (h 2))) 119 2 (nI (h 1))) 119 1 (nI (h 0))) 119 0 (nI (h 3)) 119 4 = nI S := by rw [mput_ne _ _ (by omega), mput_ne _ _ (by omega), mput_ne _ _ (by omega), mput_ne _ _ (by omega)]; exact hm
  have ek : F_X0_keep fu 1 m = ov (F_X4_copyFrom fu (h 3) 1 (mput (mput (mput (mput m 119 3 (nI (h 2))) 119 2 (nI (h 1))) 119 1 (nI (h 0))) 119 0 (nI (h 3)))) fun m23 => bd ((m23 119 4) + 1) fun v24 => bd (if 4 < v24 then 4 else v24) fun v25 => bd (mput m23 119 4 v25) fun m26 => some m26 := by
    unfold F_X0_keep
    rw [bd_s, q3, t 3 (by omega), k 3 (by omega), gd_t, bd_s, q2, t 2 (by omega), k 2 (by omega), gd_t, bd_s, bd_s, mput_ne _ _ (show 119 ≠ 119 ∨ 1 ≠ 3 by omega), q1, t 1 (by omega), k 1 (by omega), gd_t, bd_s, bd_s, mput_ne _ _ (show 119 ≠ 119 ∨ 0 ≠ 2 by omega), mput_ne _ _ (show 119 ≠ 119 ∨ 0 ≠ 3 by omega), q0, t 0 (by omega), k 0 (by omega), gd_t, bd_s, bd_s, bd_s, mput_at, t 3 (by omega), k 3 (by omega), gd_t]
  generalize hm2 : mput (mput (mput (mput m 119 3 (nI (h 2))) 119 2 (nI (h 1))) 119 1 (nI (h 0))) 119 0 (nI (h 3)) = m2 at *
  have h3r := isHb_or b3
  have n3 : RN (h 3) m2 := fun r hr => by rw [f1 _ (by omega)]; exact gN (h 3) (k 3 (by omega)) r hr
  obtain ⟨m3, e3, c1, c2⟩ := s_copy (fu := fu) (o := h 3) (b := 1) (Rel_m r1 r2.1.2.1 (fun a x1 x2 => f1 a (by omega))) r2 n3 (ap_Sb (k 3 (by omega)) rfl (by omega)) (by omega)
  have v25 : (if (4 : Int32) < m3 119 4 + 1 then 4 else m3 119 4 + 1) = nI S' := by
    rw [c2 119 (by omega), p4, nI_1]
    rcases Nat.lt_or_ge S 4 with e | e
    · rw [s4 e, if_neg]
      rw [show (4 : Int32) = nI 4 from rfl]
      exact nI_nlt (by omega) (by omega)
    · have : S = 4 := by omega
      rw [s5 this, this, if_pos (by decide)]
      rfl
  refine ⟨mput m3 119 4 (nI S'), w1, ?_, e1, ?_, wo 360 (by omega) (by omega), fun a ha => ?_, fun a ha => wo a (by omega) (by omega)⟩
  · rw [ek, e3, ov_s, bd_s, bd_s, bd_s, v25]
  · refine ⟨⟨M, c, ?_, by rw [wo 360 (by omega) (by omega)]; exact r2, r3⟩, fun b hb r hr => ?_, ⟨S', fun i => if i = 0 then h 3 else h (i - 1), s1, mput_at _ _ _ _, w1S, fun j hj => ?_, fun i j hi hj e => ?_, fun i hi => ?_⟩, ?_⟩
    · rw [wo 360 (by omega) (by omega)]
      exact Rel_m r1 r2.1.2.1 (fun a x1 x2 => by rw [mput_other _ _ _ (by omega), c2 a (by omega), f1 a (by omega)])
    · have hb' := isSb_or hb
      rw [mput_other _ _ _ (by omega)]
      by_cases e : b = h 3
      · subst e; exact c1.2.2.2.2 r hr
      · rw [c2 _ (by omega), f1 _ (by omega)]
        exact gN b hb r hr
    · rcases (show j = 0 ∨ j = 1 ∨ j = 2 ∨ j = 3 by omega) with rfl | rfl | rfl | rfl
      · exact ⟨b3, by rw [mput_ne _ _ (by omega), c2 _ (by omega)]; exact p0⟩
      · exact ⟨b0, by rw [mput_ne _ _ (by omega), c2 _ (by omega)]; exact p1⟩
      · exact ⟨b1, by rw [mput_ne _ _ (by omega), c2 _ (by omega)]; exact p2⟩
      · exact ⟨b2, by rw [mput_ne _ _ (by omega), c2 _ (by omega)]; exact p3⟩
    · by_cases i0 : i = 0 <;> by_cases j0 : j = 0
      · omega
      · simp only [i0, if_neg j0, if_true] at e
        have := hinj 3 (j - 1) (by omega) (by omega) e
        omega
      · simp only [j0, if_neg i0, if_true] at e
        have := hinj (i - 1) 3 (by omega) (by omega) e
        omega
      · simp only [if_neg i0, if_neg j0] at e
        have := hinj (i - 1) (j - 1) (by omega) (by omega) e
        omega
    · by_cases i0 : i = 0
      · subst i0
        dsimp only
        rw [if_pos rfl, Nat.sub_zero]
        refine ⟨M, c, ?_, Inv_ext r2 wz, r3⟩
        exact Rel_m (Rel_ext c1 r2.1.2.1 wz) r2.1.2.1 (fun a x1 x2 => by rw [mput_other _ _ _ (by omega)])
      · dsimp only
        rw [if_neg i0]
        obtain ⟨i', rfl⟩ : ∃ i', i = i' + 1 := ⟨i - 1, by omega⟩
        obtain ⟨M', c', x1, x2, x3⟩ := hent i' (by omega)
        have hz' := wh i' (by omega) (by omega) hi
        refine ⟨M', c', ?_, Inv_ext x2 hz', x3⟩
        have hne : h i' ≠ h 3 := fun e => by have := hinj i' 3 (by omega) (by omega) e; omega
        have hbi := isHb_or (hh i' (by omega)).1
        exact Rel_m (Rel_ext x1 x2.1.2.1 hz') x2.1.2.1 (fun a y1 y2 => by
          have y1 : h i' ≤ a := y1
          have y2 : a < h i' + 59 := y2
          rw [mput_other _ _ _ (by omega), c2 a (by omega), f1 a (by omega)])
    · exact TR_c gT (by rw [mput_other _ _ _ (by omega), c2 _ (by omega), f1 _ (by omega)]) (by rw [mput_other _ _ _ (by omega), c2 _ (by omega), f1 _ (by omega)]) (wo2 5 (by omega)) (wo 363 (by omega) (by omega))
  · rw [mput_other _ _ _ (by omega), c2 a (by omega), f1 a (by omega)]
set_option maxRecDepth 20000 in
theorem g_undo {fu : Nat} {m w : Mem} (g : GR m w) (hf : 1200 < fu) : ∃ r m1 w1, F_X6_undo fu m = some (r, m1) ∧ F_X7_undo fu w = some (r, w1) ∧ GR m1 w1 ∧ (∀ a, 359 ≤ a → m1 a = m a) ∧ ∀ a, a < 359 → w1 a = w a := by
  obtain ⟨⟨M, c, r1, r2, r3⟩, gN, ⟨S, h, hS, hm, hw, hh, hinj, hent⟩, gT⟩ := g
  unfold F_X6_undo
  rw [hm]
  rcases Nat.eq_zero_or_pos S with e0 | e0
  · subst e0
    refine ⟨-100005, m, w, if_pos rfl, ?_, ⟨⟨M, c, r1, r2, r3⟩, gN, ⟨0, h, hS, hm, hw, hh, hinj, hent⟩, gT⟩, fun _ _ => rfl, fun _ _ => rfl⟩
    unfold F_X7_undo
    rw [hw, if_pos (show nI 0 = 0 from rfl)]
  · obtain ⟨S, rfl⟩ : ∃ s, S = s + 1 := ⟨S - 1, by omega⟩
    obtain ⟨b0, q0⟩ := hh 0 (by omega)
    obtain ⟨b1, q1⟩ := hh 1 (by omega)
    obtain ⟨b2, q2⟩ := hh 2 (by omega)
    obtain ⟨b3, q3⟩ := hh 3 (by omega)
    have t := fun j (hj : j < 4) => tn (h j) (hb_lt (hh j hj).1)
    have k := fun j (hj : j < 4) => isHb_Sb (hh j hj).1
    have h0r := isHb_or b0
    obtain ⟨M', c', x1, x2, x3⟩ := hent 0 (by omega)
    rw [show S + 1 - 1 - 0 = S by omega] at x1 x2
    obtain ⟨m3, e3, c1, c2⟩ := s_copy (fu := fu) (o := 1) (b := h 0) x1 x2 (gN 1 rfl) (ap_Sb rfl (k 0 (by omega)) (by omega)) (by omega)
    have g0 : m3 119 = m 119 := c2 119 (by omega)
    rw [if_neg (nI_ne0 (by omega) (by omega)), m_undo (by omega) hw (by omega)]
    refine ⟨nI S, mput (mput (mput (mput (mput m3 119 0 (nI (h 1))) 119 1 (nI (h 2))) 119 2 (nI (h 3))) 119 3 (nI (h 0))) 119 4 (nI S), _, ?_, rfl, ?_, fun a ha => ?_, fun a ha => ?_⟩
    · unfold F_X0_restore
      rw [bd_s, q0, t 0 (by omega), k 0 (by omega), gd_t, e3, ov_s, g0, bd_s, q0, t 0 (by omega), k 0 (by omega), gd_t, bd_s, q1, t 1 (by omega), k 1 (by omega), gd_t, bd_s, bd_s, mput_ne _ _ (show 119 ≠ 119 ∨ 2 ≠ 0 by omega), g0, q2, t 2 (by omega), k 2 (by omega), gd_t, bd_s, bd_s, mput_ne _ _ (show 119 ≠ 119 ∨ 3 ≠ 1 by omega), mput_ne _ _ (show 119 ≠ 119 ∨ 3 ≠ 0 by omega), g0, q3, t 3 (by omega), k 3 (by omega), gd_t, bd_s, bd_s, bd_s, bd_s, bd_s, mput_ne _ _ (show 119 ≠ 119 ∨ 4 ≠ 3 by omega), mput_ne _ _ (show 119 ≠ 119 ∨ 4 ≠ 2 by omega), mput_ne _ _ (show 119 ≠ 119 ∨ 4 ≠ 1 by omega), mput_ne _ _ (show 119 ≠ 119 ∨ 4 ≠ 0 by omega), g0, hm, nI_pred, if_neg (nI_pos (by omega)), ov_s, mput_at]
    · have f1 : ∀ a, a ≠ 119 → mput (mput (mput (mput (mput m3 119 0 (nI (h 1))) 119 1 (nI (h 2))) 119 2 (nI (h 3))) 119 3 (nI (h 0))) 119 4 (nI S) a = m3 a := fun a ha => by rw [mput_other _ _ _ ha, mput_other _ _ _ ha, mput_other _ _ _ ha, mput_other _ _ _ ha, mput_other _ _ _ ha]
      have zx : ∀ i, i < 395 → cut (hz w S) (w 360) 395 i = hz w S i := fun i hi => if_pos hi
      refine ⟨⟨M', c', ?_, by rw [mrow_at]; exact Inv_ext x2 zx, x3⟩, fun b hb r hr => ?_, ⟨S, fun i => if i = 3 then h 0 else h (i + 1), by omega, mput_at _ _ _ _, by rw [mrow_ne _ _ (by omega), mput_at], fun j hj => ?_, fun i j hi hj e => ?_, fun i hi => ?_⟩, ?_⟩
      · rw [mrow_at]
        exact Rel_m (Rel_ext c1 x2.1.2.1 zx) x2.1.2.1 (fun a y1 y2 => f1 a (by omega))
      · have hb' := isSb_or hb
        rw [f1 _ (by omega)]
        by_cases e : b = 1
        · subst e; exact c1.2.2.2.2 r hr
        · rw [c2 _ (by omega)]
          exact gN b hb r hr
      · rcases (show j = 0 ∨ j = 1 ∨ j = 2 ∨ j = 3 by omega) with rfl | rfl | rfl | rfl
        · exact ⟨b1, by rw [mput_ne _ _ (by omega), mput_ne _ _ (by omega), mput_ne _ _ (by omega), mput_ne _ _ (by omega), mput_at]; rfl⟩
        · exact ⟨b2, by rw [mput_ne _ _ (by omega), mput_ne _ _ (by omega), mput_ne _ _ (by omega), mput_at]; rfl⟩
        · exact ⟨b3, by rw [mput_ne _ _ (by omega), mput_ne _ _ (by omega), mput_at]; rfl⟩
        · exact ⟨b0, by rw [mput_ne _ _ (by omega), mput_at]; rfl⟩
      · by_cases i0 : i = 3 <;> by_cases j0 : j = 3
        · omega
        · simp only [i0, if_neg j0, if_true] at e
          have := hinj 0 (j + 1) (by omega) (by omega) e
          omega
        · simp only [j0, if_neg i0, if_true] at e
          have := hinj (i + 1) 0 (by omega) (by omega) e
          omega
        · simp only [if_neg i0, if_neg j0] at e
          have := hinj (i + 1) (j + 1) (by omega) (by omega) e
          omega
      · dsimp only
        rw [if_neg (show ¬ i = 3 by omega)]
        obtain ⟨M2, c2', y1, y2, y3⟩ := hent (i + 1) (by omega)
        have hbi := isHb_or (hh (i + 1) (by omega)).1
        have ez : hz (mrow (mput w 359 3 (nI S)) 360 (cut (hz w S) (w 360) 395)) (S - 1 - i) = hz w (S + 1 - 1 - (i + 1)) := by
          funext j
          unfold hz
          rw [mrow_ne _ _ (by omega), mput_other _ _ _ (by omega), show S + 1 - 1 - (i + 1) = S - 1 - i by omega]
        rw [ez]
        exact ⟨M2, c2', Rel_m y1 y2.1.2.1 (fun a v1 v2 => by rw [f1 a (by omega), c2 a (by omega)]), y2, y3⟩
      · exact TR_c gT (by rw [f1 _ (by omega), c2 _ (by omega)]) (by rw [f1 _ (by omega), c2 _ (by omega)]) (by rw [mrow_ne _ _ (by omega), mput_ne _ _ (by omega)]) (by rw [mrow_ne _ _ (by omega), mput_other _ _ _ (by omega)])
    · rw [mput_other _ _ _ (by omega), mput_other _ _ _ (by omega), mput_other _ _ _ (by omega), mput_other _ _ _ (by omega), mput_other _ _ _ (by omega), c2 a (by omega)]
    · rw [mrow_ne _ _ (by omega), mput_other _ _ _ (by omega)]
