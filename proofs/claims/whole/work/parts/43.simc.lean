def SimI (b : Nat) (m0 : Mem) (x : Option (Int32 × Mem)) (r : Int32) (z : Nat → Int32) (M r0 : Nat) : Prop := ∃ m', x = some (r, m') ∧ Rel b m' z M r0 ∧ Fr b m0 m'
theorem s_offer {fu b k s r M c B : Nat} {m : Mem} {z : Nat → Int32} (h : Rel b m z M r) (hi : Inv z M c B r) (hr : r < M) (hk : k < 3) (hs : s < 5) (hkz : z (75 + 10 * r) = nI k) (hsz : z (76 + 10 * r) = nI s) (hB : B < 2 ^ 31) (hf : 9 < fu) : SimI b m (F_X4_offerNow fu b (b + 27 + r) m) (zOffer z r k s).1 (zOffer z r k s).2 M 99 := by
  have hM := hi.1.2.1
  obtain ⟨i1, hc⟩ := Inv_offer0 (k := k) hi hr hk hs
  unfold F_X4_offerNow
  rw [v_shp h hr, hsz, s_cost h hs, ob_s, bd_s, bd_s, bd_s]
  have h1 := wr_prc (zCost z s) r h
  rw [mput_ne _ _ (show b + 27 + r ≠ b + 27 + r ∨ 7 ≠ 5 by omega), v_ofr h hr]
  have h2 := wr_ofr (z (81 + 10 * r) + 1) r h1
  rw [upd_cm _ _ _ (show 79 + 10 * r ≠ 81 + 10 * r by omega)] at h2
  have f2 : Fr b m (mput (mput m (b + 27 + r) 5 (zCost z s)) (b + 27 + r) 7 (z (81 + 10 * r) + 1)) := Fr_tr (Fr_put (by omega) (by omega)) (Fr_put (by omega) (by omega))
  have p2 : mput (mput m (b + 27 + r) 5 (zCost z s)) (b + 27 + r) 7 (z (81 + 10 * r) + 1) (b + 27 + r) 5 = zCost z s := by rw [mput_ne _ _ (by omega), mput_at]
  have ek : upd (upd z (81 + 10 * r) (z (81 + 10 * r) + 1)) (79 + 10 * r) (zCost z s) (75 + 10 * r) = nI k := by rw [upd_n _ _ (by omega), upd_n _ _ (by omega), hkz]
  have e79 : upd (upd z (81 + 10 * r) (z (81 + 10 * r) + 1)) (79 + 10 * r) (zCost z s) (79 + 10 * r) = zCost z s := upd_s _ _ _
  unfold zOffer
  show SimI b m _ (zWhy (upd (upd z (81 + 10 * r) (z (81 + 10 * r) + 1)) (79 + 10 * r) (zCost z s)) k (zCost z s)) (if zWhy (upd (upd z (81 + 10 * r) (z (81 + 10 * r) + 1)) (79 + 10 * r) (zCost z s)) k (zCost z s) ≤ 0 then zAdmit (upd (upd z (81 + 10 * r) (z (81 + 10 * r) + 1)) (79 + 10 * r) (zCost z s)) r k else zRefuse (upd (upd z (81 + 10 * r) (z (81 + 10 * r) + 1)) (79 + 10 * r) (zCost z s)) r k (zWhy (upd (upd z (81 + 10 * r) (z (81 + 10 * r) + 1)) (79 + 10 * r) (zCost z s)) k (zCost z s)).toNatClampNeg) M 99
  generalize upd (upd z (81 + 10 * r) (z (81 + 10 * r) + 1)) (79 + 10 * r) (zCost z s) = y at *
  generalize mput (mput m (b + 27 + r) 5 (zCost z s)) (b + 27 + r) 7 (z (81 + 10 * r) + 1) = m2 at *
  have hQ := i1.2.2.1 k hk
  rw [v_knd h2 hr, ek, ln_v hk, oq_s, p2, s_why h2 i1 hk hf, ob_s]
  have ref : ∀ j, 1 ≤ j → j ≤ 4 → zWhy y k (zCost z s) = nI j → SimI b m (if zWhy y k (zCost z s) = 0 then ov (F_X4_admit fu b (b + 27 + r) m2) fun m24 => some (zWhy y k (zCost z s), m24) else ov (F_X4_refuse fu b (b + 27 + r) (zWhy y k (zCost z s)) m2) fun m23 => some (zWhy y k (zCost z s), m23)) (zWhy y k (zCost z s)) (if zWhy y k (zCost z s) ≤ 0 then zAdmit y r k else zRefuse y r k (zWhy y k (zCost z s)).toNatClampNeg) M 99 := by
    intro j j1 j2 e
    rw [e, if_neg (nI_ne0 j1 (by omega)), if_neg (nle0 j1 (by omega)), tn j (by omega)]
    obtain ⟨m3, e3, h3, f3⟩ := s_refuse (fu := fu) h2 hr hM hk j1 (by omega) ek (p2.trans e79.symm)
    rw [e3, ov_s]
    exact ⟨m3, rfl, h3, Fr_tr f2 f3⟩
  rcases zWhy_in y k (zCost z s) with ⟨e, e8⟩ | e | e | e | e
  · rw [e, if_pos rfl, if_pos (by decide)]
    have hL : ln y k < 8 := by
      rcases Nat.lt_or_ge (ln y k) 8 with q | q
      · exact q
      · exfalso
        apply e8
        rw [hQ.1, show ln y k = 8 by omega]
        rfl
    obtain ⟨m3, e3, h3, f3⟩ := s_admit (fu := fu) h2 hr hM hk ek hQ.1 hL i1.2.2.2.2.2 hB (p2.trans e79.symm) hf
    rw [e3, ov_s]
    exact ⟨m3, rfl, h3, Fr_tr f2 f3⟩
  · exact ref 1 (by omega) (by omega) e
  · exact ref 2 (by omega) (by omega) e
  · exact ref 3 (by omega) (by omega) e
  · exact ref 4 (by omega) (by omega) e
/-- a new request: M were there -/
theorem s_new {fu b k s cost M c B : Nat} {m : Mem} {z : Nat → Int32} (h : Rel b m z M 99) (hi : Inv z M c B 99) (hM : M < 32) (hk : k < 3) (hs : s < 5) (hc1 : 1 ≤ cost) (hc2 : cost ≤ 60) (hB : B < 2 ^ 31) (hf : 9 < fu) : SimI b m (F_X4_offerNew fu b (nI k) (nI s) (nI cost) m) (zOffer (zNew z M k s cost) M k s).1 (zOffer (zNew z M k s cost) M k s).2 (M + 1) 99 := by
  obtain ⟨i1, i2, i3⟩ := Inv_new (k := k) (s := s) hi hM hk hs hc1 hc2
  unfold F_X4_offerNew
  rw [v_cnt h, hi.1.1, if_neg (nI_pos (by omega)), if_neg (nI_ge hM (by omega)), inb_nI hM (by omega), gd_t, tn M (by omega)]
  unfold F_X4_offerNew_L32
  rw [cq_s, v_cnt h, hi.1.1, bd_s, bd_s, bd_s, bd_s, nI_1]
  unfold F_X2_begin
  simp only [bd_s, ov_s]
  have hq : ∀ a s', a ≠ b → mput (mput m b 6 (nI (M + 1))) b 7 (mput m b 6 (nI (M + 1)) b 7 + 1) a s' = m a s' := fun a s' ha => by rw [mput_ne _ _ (Or.inl ha), mput_ne _ _ (Or.inl ha)]
  have h7 : mput (mput m b 6 (nI (M + 1))) b 7 (mput m b 6 (nI (M + 1)) b 7 + 1) b 7 = m b 7 + 1 := by rw [mput_at, mput_ne _ _ (by omega)]
  have h6 : mput (mput m b 6 (nI (M + 1))) b 7 (mput m b 6 (nI (M + 1)) b 7 + 1) b 6 = nI (M + 1) := by rw [mput_ne _ _ (by omega), mput_at]
  have hb : ∀ s', s' ≠ 6 → s' ≠ 7 → mput (mput m b 6 (nI (M + 1))) b 7 (mput m b 6 (nI (M + 1)) b 7 + 1) b s' = m b s' := fun s' ha hb => by rw [mput_ne _ _ (Or.inr hb), mput_ne _ _ (Or.inr ha)]
  have f1 : Fr b m (mput (mput m b 6 (nI (M + 1))) b 7 (mput m b 6 (nI (M + 1)) b 7 + 1)) := Fr_tr (Fr_put (by omega) (by omega)) (Fr_put (by omega) (by omega))
  generalize mput (mput m b 6 (nI (M + 1))) b 7 (mput m b 6 (nI (M + 1)) b 7 + 1) = m1 at *
  have fin : Rel b (mput (mput (mput (mput (mput (mput (mput (mput (mput (mput m1 (b + 27 + M) 1 (nI k)) (b + 27 + M) 2 (nI s)) (b + 27 + M) 3 (nI cost)) (b + 27 + M) 4 0) (b + 27 + M) 5 0) (b + 27 + M) 6 0) (b + 27 + M) 7 0) (b + 27 + M) 8 0) (b + 27 + M) 9 0) (b + 27 + M) 10 0) (zNew z M k s cost) (M + 1) M := by
    obtain ⟨g1, g2, g3, g4, g5⟩ := h
    have w : ∀ a s', a ≠ b + 27 + M → (mput (mput (mput (mput (mput (mput (mput (mput (mput (mput m1 (b + 27 + M) 1 (nI k)) (b + 27 + M) 2 (nI s)) (b + 27 + M) 3 (nI cost)) (b + 27 + M) 4 0) (b + 27 + M) 5 0) (b + 27 + M) 6 0) (b + 27 + M) 7 0) (b + 27 + M) 8 0) (b + 27 + M) 9 0) (b + 27 + M) 10 0) a s' = m1 a s' := fun a s' ha => by
      rw [mput_other _ _ _ ha, mput_other _ _ _ ha, mput_other _ _ _ ha, mput_other _ _ _ ha, mput_other _ _ _ ha, mput_other _ _ _ ha, mput_other _ _ _ ha, mput_other _ _ _ ha, mput_other _ _ _ ha, mput_other _ _ _ ha]
    have w0 : (mput (mput (mput (mput (mput (mput (mput (mput (mput (mput m1 (b + 27 + M) 1 (nI k)) (b + 27 + M) 2 (nI s)) (b + 27 + M) 3 (nI cost)) (b + 27 + M) 4 0) (b + 27 + M) 5 0) (b + 27 + M) 6 0) (b + 27 + M) 7 0) (b + 27 + M) 8 0) (b + 27 + M) 9 0) (b + 27 + M) 10 0) (b + 27 + M) 0 = m1 (b + 27 + M) 0 := by
      rw [mput_ne _ _ (by omega), mput_ne _ _ (by omega), mput_ne _ _ (by omega), mput_ne _ _ (by omega), mput_ne _ _ (by omega), mput_ne _ _ (by omega), mput_ne _ _ (by omega), mput_ne _ _ (by omega), mput_ne _ _ (by omega), mput_ne _ _ (by omega)]
    have w1 : (mput (mput (mput (mput (mput (mput (mput (mput (mput (mput m1 (b + 27 + M) 1 (nI k)) (b + 27 + M) 2 (nI s)) (b + 27 + M) 3 (nI cost)) (b + 27 + M) 4 0) (b + 27 + M) 5 0) (b + 27 + M) 6 0) (b + 27 + M) 7 0) (b + 27 + M) 8 0) (b + 27 + M) 9 0) (b + 27 + M) 10 0) (b + 27 + M) 1 = nI k := by
      rw [mput_ne _ _ (by omega), mput_ne _ _ (by omega), mput_ne _ _ (by omega), mput_ne _ _ (by omega), mput_ne _ _ (by omega), mput_ne _ _ (by omega), mput_ne _ _ (by omega), mput_ne _ _ (by omega), mput_ne _ _ (by omega), mput_at]
    have w2 : (mput (mput (mput (mput (mput (mput (mput (mput (mput (mput m1 (b + 27 + M) 1 (nI k)) (b + 27 + M) 2 (nI s)) (b + 27 + M) 3 (nI cost)) (b + 27 + M) 4 0) (b + 27 + M) 5 0) (b + 27 + M) 6 0) (b + 27 + M) 7 0) (b + 27 + M) 8 0) (b + 27 + M) 9 0) (b + 27 + M) 10 0) (b + 27 + M) 2 = nI s := by
      rw [mput_ne _ _ (by omega), mput_ne _ _ (by omega), mput_ne _ _ (by omega), mput_ne _ _ (by omega), mput_ne _ _ (by omega), mput_ne _ _ (by omega), mput_ne _ _ (by omega), mput_ne _ _ (by omega), mput_at]
    have w3 : (mput (mput (mput (mput (mput (mput (mput (mput (mput (mput m1 (b + 27 + M) 1 (nI k)) (b + 27 + M) 2 (nI s)) (b + 27 + M) 3 (nI cost)) (b + 27 + M) 4 0) (b + 27 + M) 5 0) (b + 27 + M) 6 0) (b + 27 + M) 7 0) (b + 27 + M) 8 0) (b + 27 + M) 9 0) (b + 27 + M) 10 0) (b + 27 + M) 3 = nI cost := by
      rw [mput_ne _ _ (by omega), mput_ne _ _ (by omega), mput_ne _ _ (by omega), mput_ne _ _ (by omega), mput_ne _ _ (by omega), mput_ne _ _ (by omega), mput_ne _ _ (by omega), mput_at]
    have w6 : (mput (mput (mput (mput (mput (mput (mput (mput (mput (mput m1 (b + 27 + M) 1 (nI k)) (b + 27 + M) 2 (nI s)) (b + 27 + M) 3 (nI cost)) (b + 27 + M) 4 0) (b + 27 + M) 5 0) (b + 27 + M) 6 0) (b + 27 + M) 7 0) (b + 27 + M) 8 0) (b + 27 + M) 9 0) (b + 27 + M) 10 0) (b + 27 + M) 6 = 0 := by
      rw [mput_ne _ _ (by omega), mput_ne _ _ (by omega), mput_ne _ _ (by omega), mput_ne _ _ (by omega), mput_at]
    have w7 : (mput (mput (mput (mput (mput (mput (mput (mput (mput (mput m1 (b + 27 + M) 1 (nI k)) (b + 27 + M) 2 (nI s)) (b + 27 + M) 3 (nI cost)) (b + 27 + M) 4 0) (b + 27 + M) 5 0) (b + 27 + M) 6 0) (b + 27 + M) 7 0) (b + 27 + M) 8 0) (b + 27 + M) 9 0) (b + 27 + M) 10 0) (b + 27 + M) 7 = 0 := by
      rw [mput_ne _ _ (by omega), mput_ne _ _ (by omega), mput_ne _ _ (by omega), mput_at]
    have w8 : (mput (mput (mput (mput (mput (mput (mput (mput (mput (mput m1 (b + 27 + M) 1 (nI k)) (b + 27 + M) 2 (nI s)) (b + 27 + M) 3 (nI cost)) (b + 27 + M) 4 0) (b + 27 + M) 5 0) (b + 27 + M) 6 0) (b + 27 + M) 7 0) (b + 27 + M) 8 0) (b + 27 + M) 9 0) (b + 27 + M) 10 0) (b + 27 + M) 8 = 0 := by
      rw [mput_ne _ _ (by omega), mput_ne _ _ (by omega), mput_at]
    generalize (mput (mput (mput (mput (mput (mput (mput (mput (mput (mput m1 (b + 27 + M) 1 (nI k)) (b + 27 + M) 2 (nI s)) (b + 27 + M) 3 (nI cost)) (b + 27 + M) 4 0) (b + 27 + M) 5 0) (b + 27 + M) 6 0) (b + 27 + M) 7 0) (b + 27 + M) 8 0) (b + 27 + M) 9 0) (b + 27 + M) 10 0) = m9 at *
    have oth : ∀ r g, r ≠ M → g < 10 → zNew z M k s cost (75 + g + 10 * r) = z (75 + g + 10 * r) := fun r g h1 h2 => zNew_o (by omega) (Or.inr (Or.inr (Or.inr (Or.inr (Or.inr ⟨r, g, h1, h2, rfl⟩)))))
    have oth3 : ∀ r, r < M → zNew z M k s cost (78 + 10 * r) = z (78 + 10 * r) := fun r hr => by
      have := oth r 3 (by omega) (by omega)
      exact this
    refine ⟨fun j hj => ?_, fun r hr g hg e => ?_, fun r hr e => ?_, ⟨?_, ?_⟩, fun r hr => ?_⟩
    · rw [w _ _ (by have := lo_27 j hj; omega)]
      by_cases e : j = 69
      · subst e
        rw [i1.1.1]
        exact h6
      · rw [zNew_o e (Or.inl hj), ← g1 j hj]
        have := lo_78 j hj
        by_cases e2 : lo j = 0
        · rw [e2, Nat.add_zero]
          refine hb _ (fun e3 => e ?_) (by omega)
          have e4 := lx_lo j (by omega)
          rw [e2, e3] at e4
          exact e4.symm
        · exact hq _ _ (by omega)
    · by_cases er : r = M
      · subst er
        have := e rfl
        rcases (show g = 0 ∨ g = 1 ∨ g = 2 ∨ g = 5 ∨ g = 6 ∨ g = 7 by omega) with rfl | rfl | rfl | rfl | rfl | rfl
        · rw [w1]; exact i2.symm
        · rw [w2]
          have := i3
          rw [show 76 + 10 * r = 75 + 10 * r + 1 by omega] at this
          exact this.symm
        · rw [w3]
          unfold zNew
          rw [upd_n _ _ (by omega), upd_n _ _ (by omega), upd_n _ _ (by omega), show 75 + 10 * r + 2 = 77 + 10 * r by omega, upd_s]
        · rw [w6]
          unfold zNew
          rw [upd_n _ _ (by omega), upd_n _ _ (by omega), show 75 + 10 * r + 5 = 80 + 10 * r by omega, upd_s]
        · rw [w7]
          unfold zNew
          rw [upd_n _ _ (by omega), show 75 + 10 * r + 6 = 81 + 10 * r by omega, upd_s]
        · rw [w8]
          unfold zNew
          rw [show 75 + 10 * r + 7 = 82 + 10 * r by omega, upd_s]
      · rw [w _ _ (by omega), hq _ _ (by omega), show 75 + 10 * r + g = 75 + g + 10 * r by omega, oth r g er (by omega), show 75 + g + 10 * r = 75 + 10 * r + g by omega]
        exact g2 r (by omega) g hg (by omega)
    · have m3 := oth3 r (by omega)
      have m8 := oth r 8 e (by omega)
      have m9' := oth r 9 e (by omega)
      rw [w _ _ (by omega), w _ _ (by omega), hq _ _ (by omega), hq _ _ (by omega), m3, m8, m9']
      exact g3 r (by omega) (by omega)
    · rw [w _ _ (by omega), h7, g4.1, nI_1, fb_ct_succ]
      have e1 : fb_ct (oPn (zNew z M k s cost) M) M = fb_ct (oPn z 99) M := fb_ct_cong (fun r hr => by
        unfold oPn
        rw [oth3 r hr, decide_eq_false (show ¬ r = M by omega), decide_eq_false (show ¬ r = 99 by omega)])
      have e2 : oPn (zNew z M k s cost) M M = true := by
        unfold oPn
        rw [decide_eq_true rfl, Bool.true_or]
      rw [e1, e2]
      rfl
    · rw [w _ _ (by omega), hb _ (by omega) (by omega), g4.2, fb_ct_succ]
      have e1 : fb_ct (rJc (zNew z M k s cost) M) M = fb_ct (rJc z 99) M := fb_ct_cong (fun r hr => by
        unfold rJc
        rw [oth3 r hr, decide_eq_false (show ¬ r = M by omega), decide_eq_false (show ¬ r = 99 by omega)])
      have e2 : rJc (zNew z M k s cost) M M = false := by
        unfold rJc
        rw [decide_eq_true rfl, Bool.not_true, Bool.false_and]
      rw [e1, e2]
      rfl
    · by_cases er : r = M
      · subst er
        rw [w0, hq _ _ (by omega)]; exact g5 r hr
      · rw [w _ _ (by omega), hq _ _ (by omega)]; exact g5 r hr
  obtain ⟨m3, e3, h3, f3⟩ := s_offer (fu := fu) fin i1 (Nat.lt_succ_self M) hk hs i2 i3 hB hf
  rw [e3, ob_s]
  refine ⟨m3, rfl, h3, Fr_tr f1 (Fr_tr ?_ f3)⟩
  refine fun a ha => ?_
  rw [mput_other _ _ _ (by omega), mput_other _ _ _ (by omega), mput_other _ _ _ (by omega), mput_other _ _ _ (by omega), mput_other _ _ _ (by omega), mput_other _ _ _ (by omega), mput_other _ _ _ (by omega), mput_other _ _ _ (by omega), mput_other _ _ _ (by omega), mput_other _ _ _ (by omega)]
