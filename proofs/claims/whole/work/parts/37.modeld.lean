theorem Inv_run {z : Nat → Int32} {M c B q : Nat} (h : Inv z M c B 99) (hq : q < M) (hs : z (78 + 10 * q) = 0 ∨ z (78 + 10 * q) = 1) : Inv (upd z (78 + 10 * q) 1) M c B 99 := by
  obtain ⟨a1, a2, a3, a4, a5, a6⟩ := h
  have hM := a1.2.1
  refine ⟨IC_c (upd_n _ _ (by omega)) (upd_n _ _ (by omega)) a1, IS_c (fun i hi => upd_n _ _ (by omega)) (fun s hs => upd_n _ _ (by omega)) a2, IQ_c (fun i _ hi => upd_n _ _ (by omega)) (fun r hr _ e => ?_) a3, ID_c (fun i _ hi => upd_n _ _ (by omega)) (IQ_L a3) a4, fun r hr => ?_, IP_c (fun i hi => upd_n _ _ (by omega)) a6⟩
  · by_cases e2 : r = q
    · subst e2; rw [upd_s]; exact Or.inr rfl
    · rw [upd_n _ _ (by omega)]; exact e
  · obtain ⟨x1, x2, x3, x4⟩ := a5 r hr
    rw [upd_n _ _ (show 75 + 10 * r ≠ 78 + 10 * q by omega), upd_n _ _ (show 76 + 10 * r ≠ 78 + 10 * q by omega), upd_n _ _ (show 77 + 10 * r ≠ 78 + 10 * q by omega), upd_n _ _ (show 79 + 10 * r ≠ 78 + 10 * q by omega), upd_n _ _ (show 83 + 10 * r ≠ 78 + 10 * q by omega)]
    refine ⟨x1, x2, x3, fun e => ?_⟩
    obtain ⟨y1, y2, y3⟩ := x4 e
    by_cases e2 : r = q
    · subst e2
      rw [upd_s]
      exact ⟨⟨1, by omega, by omega, rfl⟩, y2, fun _ => y3 (hs.elim Or.inl (fun e => Or.inr (Or.inl e)))⟩
    · rw [upd_n _ _ (by omega)]
      exact ⟨y1, y2, y3⟩
theorem Inv_mono {z : Nat → Int32} {M c B B' r0 : Nat} (h : Inv z M c B r0) (hB : B ≤ B') : Inv z M c B' r0 := by
  obtain ⟨a1, a2, a3, a4, a5, a6⟩ := h
  exact ⟨a1, a2, a3, a4, a5, fun k hk => by obtain ⟨n, e1, e2, e3⟩ := a6 k hk; exact ⟨n, e1, by omega, e3⟩⟩
theorem Inv_step {z : Nat → Int32} {M c B k q : Nat} (h : Inv z M c B 99) (hk : k < 3) (hq : q < M) (hs : z (78 + 10 * q) = 0 ∨ z (78 + 10 * q) = 1) (hB : B < 2 ^ 30) : Inv (zStep z q k) M c (B + 2520) 99 := by
  unfold zStep
  refine Inv_pass (Inv_up (Inv_up (Inv_mono (Inv_run h hq hs) (Nat.le_add_right B 2520)) (Or.inr (Or.inr (Or.inr (Or.inr ⟨q, by omega⟩))))) (Or.inr (Or.inl (by omega)))) hk ?_
  obtain ⟨n, n1, n2, n3⟩ := (h.2.1.2.2.2.2.1 k hk).1
  obtain ⟨p, p1, p2, p3⟩ := h.2.2.2.2.2 k hk
  rw [n3, p3, show (2520 : Int32) = nI 2520 from rfl, pk_div (by omega) (by omega) (by omega), nI_add]
  have hd : 2520 / n ≤ 2520 := Nat.div_le_self _ _
  generalize 2520 / n = x at hd ⊢
  exact ⟨p + x, by omega, by omega, rfl⟩
theorem Inv_settle {z : Nat → Int32} {M c B q : Nat} {t : Int32} (h : Inv z M c B q) (hq : q < M) (hp : rng (z (79 + 10 * q)) 0 60) : Inv (upd (upd z (78 + 10 * q) 2) (83 + 10 * q) t) M c B 99 := by
  obtain ⟨a1, a2, a3, a4, a5, a6⟩ := h
  have hM := a1.2.1
  have n1 : ∀ i, i < 75 → upd (upd z (78 + 10 * q) 2) (83 + 10 * q) t i = z i := fun i hi => by rw [upd_n _ _ (by omega), upd_n _ _ (by omega)]
  have n2 : ∀ r', r' ≠ q → ∀ g, g < 10 → upd (upd z (78 + 10 * q) 2) (83 + 10 * q) t (75 + g + 10 * r') = z (75 + g + 10 * r') := fun r' hr' g hg => by rw [upd_n _ _ (by omega), upd_n _ _ (by omega)]
  refine ⟨IC_c (n1 _ (by omega)) (n1 _ (by omega)) a1, IS_c (fun i hi => n1 _ (by omega)) (fun s hs => n1 _ (by omega)) a2, ?_, ID_c (fun i _ hi => n1 _ (by omega)) (IQ_L a3) a4, ?_, IP_c (fun i hi => n1 _ (by omega)) a6⟩
  · intro k' hk'
    obtain ⟨x1, x2, x3⟩ := a3 k' hk'
    rw [ln_c (n1 _ (by omega)), n1 _ (by omega)]
    refine ⟨x1, x2, fun p hp => ?_⟩
    obtain ⟨q', e1, e2, e3, e4⟩ := x3 p hp
    refine ⟨q', e1, by omega, by rw [n1 _ (by omega)]; exact e3, ?_⟩
    rw [show 78 + 10 * q' = 75 + 3 + 10 * q' by omega, n2 q' e2 3 (by omega)]
    exact e4
  · intro r' hr'
    obtain ⟨x1, x2, x3, x4⟩ := a5 r' hr'
    by_cases e : r' = q
    · subst e
      rw [upd_n _ _ (by omega), upd_n _ _ (by omega), upd_n _ _ (by omega), upd_n _ _ (by omega), upd_n _ _ (by omega), upd_n _ _ (by omega), upd_n _ _ (show 78 + 10 * r' ≠ 83 + 10 * r' by omega), upd_s, upd_n _ _ (show 79 + 10 * r' ≠ 83 + 10 * r' by omega), upd_n _ _ (by omega), upd_s]
      refine ⟨x1, x2, x3, fun _ => ⟨⟨2, by omega, by omega, rfl⟩, hp, fun h9 => ?_⟩⟩
      exfalso
      revert h9
      decide
    · have m0 := n2 r' e 0 (by omega)
      have m1 := n2 r' e 1 (by omega)
      have m2 := n2 r' e 2 (by omega)
      have m3 := n2 r' e 3 (by omega)
      have m4 := n2 r' e 4 (by omega)
      have m8 := n2 r' e 8 (by omega)
      rw [m0, m1, m2, m3, m4, m8]
      exact ⟨x1, x2, x3, fun _ => x4 e⟩
theorem Inv_est {z : Nat → Int32} {M c B r0 s : Nat} {v : Int32} (h : Inv z M c B r0) (hs : s < 5) (hv : rng v 0 960) : Inv (upd z (70 + s) v) M c B r0 := by
  obtain ⟨a1, a2, a3, a4, a5, a6⟩ := h
  obtain ⟨b0, b1, b2, b3, b4, b5⟩ := a2
  refine ⟨IC_c (upd_n _ _ (by omega)) (upd_n _ _ (by omega)) a1, ⟨by rw [upd_n _ _ (by omega)]; exact b0, by rw [upd_n _ _ (by omega)]; exact b1, by rw [upd_n _ _ (by omega)]; exact b2, by rw [upd_n _ _ (by omega)]; exact b3, fun k hk => by rw [upd_n _ _ (by omega), upd_n _ _ (by omega), upd_n _ _ (by omega), upd_n _ _ (by omega)]; exact b4 k hk, fun s' hs' => ?_⟩, IQ_c (fun i _ hi => upd_n _ _ (by omega)) (fun r hr _ e => by rw [upd_n _ _ (by omega)]; exact e) a3, ID_c (fun i _ hi => upd_n _ _ (by omega)) (IQ_L a3) a4, IR_c (fun r hr g hg => upd_n _ _ (by omega)) (fun r hr => upd_n _ _ (by omega)) a5, IP_c (fun i hi => upd_n _ _ (by omega)) a6⟩
  by_cases e : s' = s
  · subst e; rw [upd_s]; exact hv
  · rw [upd_n _ _ (by omega)]; exact b5 s' hs'
theorem learn {e c : Nat} (he : e ≤ 960) (hc : c ≤ 60) : rng (nI e + (16 * nI c - nI e) / 4) 0 960 := by
  rw [show (16 : Int32) = nI 16 from rfl, pk_mul]
  have h1 := pk_sub_toInt (a := 16 * c) (b := e) (by omega) (by omega)
  have h2 : ((nI (16 * c) - nI e) / 4).toInt = ((16 * c : Nat) - (e : Int)).tdiv 4 := by
    rw [Int32.toInt_div_of_ne_right _ _ (by decide), h1]
    rfl
  have h3 : -((e : Int)) ≤ (((16 * c : Nat) : Int) - (e : Int)).tdiv 4 ∧ (e : Int) + (((16 * c : Nat) : Int) - (e : Int)).tdiv 4 ≤ 960 := by
    by_cases g : e ≤ 16 * c
    · obtain ⟨x, hx⟩ : ∃ x : Nat, ((16 * c : Nat) : Int) - (e : Int) = (x : Int) := ⟨16 * c - e, by omega⟩
      rw [hx, show (4 : Int) = ((4 : Nat) : Int) from rfl, ← Int.ofNat_tdiv]
      omega
    · obtain ⟨x, hx⟩ : ∃ x : Nat, ((16 * c : Nat) : Int) - (e : Int) = -(x : Int) := ⟨e - 16 * c, by omega⟩
      rw [hx, Int.neg_tdiv, show (4 : Int) = ((4 : Nat) : Int) from rfl, ← Int.ofNat_tdiv]
      omega
  have h4 : (nI e + (nI (16 * c) - nI e) / 4).toInt = (e : Int) + (((16 * c : Nat) : Int) - (e : Int)).tdiv 4 := by
    rw [fb_addI (by rw [h2, nI_toInt (by omega)]; omega) (by rw [h2, nI_toInt (by omega)]; omega), h2, nI_toInt (by omega)]
  refine ⟨((e : Int) + (((16 * c : Nat) : Int) - (e : Int)).tdiv 4).toNat, by omega, by omega, ?_⟩
  apply i32_ext
  rw [h4, nI_toInt (by omega)]
  omega
theorem Inv_done {z : Nat → Int32} {M c B k q s : Nat} (h : Inv z M c B 99) (hk : k < 3) (hL : 0 < ln z k) (hq : z (28 + 8 * k) = nI q) (hq2 : q < M) (hs : s < 5) : Inv (zDone z q k s) M c B 99 := by
  have hM := h.1.2.1
  obtain ⟨h1, -⟩ := Inv_leave (p := 0) h hk hL hq hq2
  have o : ∀ i, 52 ≤ i → zLeave z k 0 i = z i := fun i hi => zLeave_o hk (IQ_L h.2.2.1 k hk) hL (by omega)
  have h2 := Inv_settle (t := z 67) h1 hq2 (by rw [o _ (by omega)]; exact ((h.2.2.2.2.1 q hq2).2.2.2 (by omega)).2.1)
  obtain ⟨e, -, e2, e3⟩ := h.2.1.2.2.2.2.2 s hs
  obtain ⟨d, -, d2, d3⟩ := (h.2.2.2.2.1 q hq2).2.2.1
  have h3 := Inv_est (v := z (70 + s) + (16 * z (77 + 10 * q) - z (70 + s)) / 4) h2 hs (by rw [e3, d3]; exact learn e2 d2)
  unfold zDone
  show Inv (if z (79 + 10 * q) - z (77 + 10 * q) ≤ 0 then upd (upd (upd (upd (zLeave z k 0) (78 + 10 * q) 2) (83 + 10 * q) (z 67)) (70 + s) (z (70 + s) + (16 * z (77 + 10 * q) - z (70 + s)) / 4)) (16 + k) (z (16 + k) + (z (79 + 10 * q) - z (77 + 10 * q))) else zAdd (upd (upd (upd (zLeave z k 0) (78 + 10 * q) 2) (83 + 10 * q) (z 67)) (70 + s) (z (70 + s) + (16 * z (77 + 10 * q) - z (70 + s)) / 4)) k (z (79 + 10 * q) - z (77 + 10 * q))) M c B 99
  split
  · exact Inv_up h3 (Or.inl (by omega))
  · exact Inv_add h3 hk
theorem zStep_o {z : Nat → Int32} {q k i : Nat} (h1 : i ≠ 78 + 10 * q) (h2 : i ≠ 80 + 10 * q) (h3 : i ≠ 22 + k) (h4 : i ≠ 19 + k) : zStep z q k i = z i := by
  unfold zStep
  rw [upd_n _ _ h4, upd_n _ _ h3, upd_n _ _ h2, upd_n _ _ h1]
/-- what is known of the first of a queue that isn't empty -/
theorem Inv_first {z : Nat → Int32} {M c B k : Nat} (h : Inv z M c B 99) (hk : k < 3) (hL : ¬ z (25 + k) ≤ 0) : 0 < ln z k ∧ ∃ q, q < M ∧ z (28 + 8 * k) = nI q ∧ (z (28 + 8 * k)).toNatClampNeg = q ∧ (z (78 + 10 * q) = 0 ∨ z (78 + 10 * q) = 1) := by
  obtain ⟨x1, x2, x3⟩ := h.2.2.1 k hk
  have hM := h.1.2.1
  have hL0 : 0 < ln z k := by
    rcases Nat.eq_zero_or_pos (ln z k) with e | e
    · exfalso
      apply hL
      rw [x1, e]
      decide
    · exact e
  obtain ⟨q, q1, q2, q3, q4⟩ := x3 0 hL0
  exact ⟨hL0, q, q1, q3, by rw [show (28 + 8 * k) = 28 + 8 * k + 0 from rfl, q3, tn q (by omega)], q4⟩
theorem Inv_work {z : Nat → Int32} {M c B k : Nat} (h : Inv z M c B 99) (hk : k < 3) (hL : ¬ z (25 + k) ≤ 0) (hB : B < 2 ^ 30) : Inv (zWork z k).2 M c (B + 2520) 99 := by
  obtain ⟨hL0, q, q1, q2, q3, q4⟩ := Inv_first h hk hL
  have hM := h.1.2.1
  have h1 := Inv_step h hk q1 q4 hB
  obtain ⟨-, -, s1, s2⟩ := Inv_kd h q1
  unfold zWork
  rw [q3]
  show Inv (if z (77 + 10 * q) ≤ z (80 + 10 * q) + 1 then ((1 : Int32), zDone (zStep z q k) q k (sd z q)) else (0, zStep z q k)).2 M c (B + 2520) 99
  split
  · exact Inv_done h1 hk (by rw [ln_c (zStep_o (by omega) (by omega) (by omega) (by omega))]; exact hL0) (by rw [zStep_o (by omega) (by omega) (by omega) (by omega)]; exact q2) q1 s1
  · exact h1
theorem Inv_idle {z : Nat → Int32} {M c B r0 : Nat} {v : Int32} (h : Inv z M c B r0) : Inv (upd z 68 v) M c B r0 := Inv_up h (by omega)
theorem Inv_unit {z : Nat → Int32} {M c B : Nat} (h : Inv z M c B 99) (hB : B < 2 ^ 30) : Inv (zUnit z).2 M c (B + 2520) 99 := by
  unfold zUnit
  cases e : zNext z 3 with
  | none => exact Inv_mono (Inv_idle h) (by omega)
  | some k =>
    have := zNext_lt z 3 k e
    exact Inv_work h this.1 this.2 hB
theorem Inv_units : ∀ (n : Nat) (d : Int32) (z : Nat → Int32) (M c B : Nat), Inv z M c B 99 → B + 2520 * n < 2 ^ 30 → Inv (zUnits n d z).2 M c (B + 2520 * n) 99
  | 0, d, z, M, c, B, h, _ => by rw [zUnits]; exact Inv_mono h (by omega)
  | n + 1, d, z, M, c, B, h, hB => by
    rw [zUnits]
    exact Inv_mono (Inv_units n _ _ M c (B + 2520) (Inv_unit h (by omega)) (by omega)) (by omega)
theorem Inv_gain : ∀ (n : Nat) (z : Nat → Int32) (M c B r0 : Nat), n ≤ 3 → Inv z M c B r0 → Inv (zGain n z) M c B r0
  | 0, z, M, c, B, r0, _, h => by rw [zGain]; exact h
  | n + 1, z, M, c, B, r0, hn, h => by
    rw [zGain]
    exact Inv_add (Inv_gain n z M c B r0 (by omega) h) (by omega)
theorem Inv_due1 {z : Nat → Int32} {M c B r : Nat} (h : Inv z M c B 99) (hr : r < M) (hB : B < 2 ^ 31) : Inv (if z (78 + 10 * r) = 3 then (if z 67 < z (83 + 10 * r) then z else (zOffer z r (kd z r) (sd z r)).2) else z) M c B 99 := by
  by_cases c1 : z (78 + 10 * r) = 3
  · rw [if_pos c1]
    by_cases c2 : z 67 < z (83 + 10 * r)
    · rw [if_pos c2]; exact h
    · rw [if_neg c2]
      obtain ⟨k1, k2, s1, s2⟩ := Inv_kd h hr
      exact Inv_offer (Inv_weak h hr (by rw [c1]; decide)) hr k1 s1 hB
  · rw [if_neg c1]; exact h
theorem Inv_due : ∀ (n r : Nat) (z : Nat → Int32) (M c B : Nat), r + n = M → Inv z M c B 99 → B < 2 ^ 31 → Inv (zDue r n z) M c B 99
  | 0, r, z, M, c, B, _, h, _ => by rw [zDue]; exact h
  | n + 1, r, z, M, c, B, hr, h, hB => by
    rw [zDue]
    exact Inv_due n (r + 1) _ M c B (by omega) (Inv_due1 h (by omega) hB) hB
theorem Inv_lates : ∀ (n : Nat) (z : Nat → Int32) (M c B : Nat), n ≤ 3 → Inv z M c B 99 → Inv (zLates n z) M c B 99
  | 0, z, M, c, B, _, h => by rw [zLates]; exact h
  | n + 1, z, M, c, B, hn, h => by
    rw [zLates]
    have h1 := Inv_lates n z M c B (by omega) h
    exact (m_late (fu := 100) (w := fun _ _ => 0) (by omega) (by omega) (ln (zLates n z) n) (ln (zLates n z) n + 1) 0 _ h1 (by omega) (by omega)).2
theorem Inv_tick0 {z : Nat → Int32} {M c B : Nat} (h : Inv z M c B 99) (hB : B < 2 ^ 31) : Inv (zTick0 z M) M c B 99 :=
  Inv_lates 3 _ M c B (by omega) (Inv_due M 0 _ M c B (by omega) (Inv_gain 3 z M c B 99 (by omega) h) hB)
theorem Inv_clock {z : Nat → Int32} {M c B r0 : Nat} (h : Inv z M c B r0) (hc : c + 1 ≤ 2000) : Inv (upd z 67 (z 67 + 1)) M (c + 1) B r0 := by
  obtain ⟨a1, a2, a3, a4, a5, a6⟩ := h
  exact ⟨⟨by rw [upd_n _ _ (by omega)]; exact a1.1, a1.2.1, by rw [upd_s, a1.2.2.1, nI_1], hc⟩, IS_c (fun i hi => upd_n _ _ (by omega)) (fun s hs => upd_n _ _ (by omega)) a2, IQ_c (fun i _ hi => upd_n _ _ (by omega)) (fun r hr _ e => by rw [upd_n _ _ (by omega)]; exact e) a3, ID_c (fun i _ hi => upd_n _ _ (by omega)) (IQ_L a3) a4, IR_c (fun r hr g hg => upd_n _ _ (by omega)) (fun r hr => upd_n _ _ (by omega)) a5, IP_c (fun i hi => upd_n _ _ (by omega)) a6⟩
theorem Inv_cap {z : Nat → Int32} {M c B r0 : Nat} (h : Inv z M c B r0) : z 0 = nI (z 0).toNatClampNeg ∧ 1 ≤ (z 0).toNatClampNeg ∧ (z 0).toNatClampNeg ≤ 20 := rng_lt h.2.1.1 (by omega)
theorem Inv_tick {z : Nat → Int32} {M c B : Nat} (h : Inv z M c B 99) (hc : c + 1 ≤ 2000) (hB : B + 50400 < 2 ^ 30) : Inv (zTick z M).2 M (c + 1) (B + 50400) 99 := by
  have hcap := Inv_cap h
  unfold zTick
  refine Inv_clock ?_ hc
  exact Inv_mono (Inv_units _ 0 _ M c B (Inv_tick0 h (by omega)) (by omega)) (by omega)
