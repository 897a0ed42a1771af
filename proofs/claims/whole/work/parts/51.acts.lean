/-! ===== the calls, one by one: the actions ===== -/
def inr (x a b : Int32) : Int32 := if x < a then 0 else if b < x then 0 else 1
theorem bt_r {fu : Nat} {x a b : Int32} {m : Mem} : F_X6_isBetween fu a x b m = some (inr x a b, m) := by
  unfold F_X6_isBetween inr
  by_cases c : x < a
  · rw [if_pos c, if_pos c]
  · rw [if_neg c, if_neg c]
    by_cases d : b < x
    · rw [if_pos d, if_pos d]
    · rw [if_neg d, if_neg d]
theorem in_r {fu : Nat} {x a b : Int32} {m : Mem} : F_X7_in fu x a b m = some (inr x a b, m) := by
  unfold F_X7_in inr
  by_cases c : x < a
  · rw [if_pos c, if_pos c]
  · rw [if_neg c, if_neg c]
    by_cases d : b < x
    · rw [if_pos d, if_pos d]
    · rw [if_neg d, if_neg d]
theorem inr_Z {x a b : Int32} : isZ (inr x a b) = true := by
  unfold inr
  by_cases c : x < a
  · rw [if_pos c]; rfl
  · rw [if_neg c]
    by_cases d : b < x
    · rw [if_pos d]; rfl
    · rw [if_neg d]; rfl
theorem inr_n {x : Int32} {a b : Nat} (hb : b < 2 ^ 31) (ha : a < 2 ^ 31) : inr x (nI a) (nI b) = 0 ∨ (inr x (nI a) (nI b) = 1 ∧ rng x a b) := by
  unfold inr
  by_cases c : x < nI a
  · exact Or.inl (if_pos c)
  · rw [if_neg c]
    by_cases d : nI b < x
    · exact Or.inl (if_pos d)
    · rw [if_neg d]
      refine Or.inr ⟨rfl, x.toNatClampNeg, ?_, ?_, ?_⟩
      all_goals rw [Int32.lt_iff_toInt_lt, nI_toInt ha] at c
      all_goals rw [Int32.lt_iff_toInt_lt, nI_toInt hb] at d
      · have : (x.toNatClampNeg : Int) = x.toInt.toNat := rfl
        omega
      · have : (x.toNatClampNeg : Int) = x.toInt.toNat := rfl
        omega
      · apply Int32.toInt_inj.mp
        have : (x.toNatClampNeg : Int) = x.toInt.toNat := rfl
        rw [nI_toInt (by omega)]
        omega
theorem Inv_is {z z' : Nat → Int32} {M c B : Nat} (h : Inv z M c B 99) (h1 : IS z') (h2 : ∀ i, 16 ≤ i → z' i = z i) : Inv z' M c B 99 := by
  obtain ⟨a1, a2, a3, a4, a5, a6⟩ := h
  exact ⟨IC_c (h2 _ (by omega)) (h2 _ (by omega)) a1, h1, IQ_c (fun i x1 x2 => h2 i (by omega)) (fun r hr _ e => by rw [h2 _ (by omega)]; exact e) a3, ID_c (fun i x1 x2 => h2 i (by omega)) (IQ_L a3) a4, IR_c (fun r hr g hg => h2 _ (by omega)) (fun r hr => h2 _ (by omega)) a5, IP_c (fun k hk => h2 _ (by omega)) a6⟩
def rS (j : Nat) (v : Int32) : Prop := (j = 0 → rng v 1 20) ∧ (j = 1 → rng v 1 60) ∧ (j = 2 → rng v 1 20) ∧ (j = 3 → rng v 0 4)
def rK (j : Nat) (v : Int32) : Prop := (j = 0 → rng v 1 9) ∧ (j = 1 → rng v 0 20) ∧ (j = 2 → rng v 1 99) ∧ (j = 3 → rng v 1 99)
theorem IS_set {z : Nat → Int32} {j : Nat} {v : Int32} (h : IS z) (hj : j < 4) (hv : rS j v) : IS (upd z j v) := by
  obtain ⟨a0, a1, a2, a3, a4, a5⟩ := h
  obtain ⟨v0, v1, v2, v3⟩ := hv
  have u : ∀ i a b, rng (z i) a b → (j = i → rng v a b) → rng (upd z j v i) a b := fun i a b x1 x2 => by
    by_cases e : j = i
    · subst e; rw [upd_s]; exact x2 rfl
    · rw [upd_n _ _ (fun e' => e e'.symm)]; exact x1
  refine ⟨u 0 _ _ a0 v0, u 1 _ _ a1 v1, u 2 _ _ a2 v2, u 3 _ _ a3 v3, fun k hk => ?_, fun s hs => by rw [upd_n _ _ (by omega)]; exact a5 s hs⟩
  rw [upd_n _ _ (by omega), upd_n _ _ (by omega), upd_n _ _ (by omega), upd_n _ _ (by omega)]
  exact a4 k hk
theorem IS_cls {z : Nat → Int32} {k j : Nat} {v : Int32} (h : IS z) (hk : k < 3) (hj : j < 4) (hv : rK j v) : IS (upd z (4 + 4 * k + j) v) := by
  obtain ⟨a0, a1, a2, a3, a4, a5⟩ := h
  obtain ⟨v0, v1, v2, v3⟩ := hv
  have u : ∀ i a b, rng (z i) a b → (4 + 4 * k + j = i → rng v a b) → rng (upd z (4 + 4 * k + j) v i) a b := fun i a b x1 x2 => by
    by_cases e : 4 + 4 * k + j = i
    · subst e; rw [upd_s]; exact x2 rfl
    · rw [upd_n _ _ (fun e' => e e'.symm)]; exact x1
  refine ⟨u 0 _ _ a0 (by omega), u 1 _ _ a1 (by omega), u 2 _ _ a2 (by omega), u 3 _ _ a3 (by omega), fun k' hk' => ?_, fun s hs => by rw [upd_n _ _ (by omega)]; exact a5 s hs⟩
  obtain ⟨b0, b1, b2, b3⟩ := a4 k' hk'
  exact ⟨u _ _ _ b0 (fun e => v0 (by omega)), u _ _ _ b1 (fun e => v1 (by omega)), u _ _ _ b2 (fun e => v2 (by omega)), u _ _ _ b3 (fun e => v3 (by omega))⟩
theorem keep_then {fu M c : Nat} {m w : Mem} {z : Nat → Int32} {KC KM : Mem → Option (Int32 × Mem)} (hf : 1200 < fu) (g : GR m (zs w z)) (hi : Inv z M c (pB c) 99) (h : ∀ m1 w1, Rel 1 m1 z M 99 → ∃ r m' z' M' c', KC m1 = some (r, m') ∧ KM (zs w1 z) = some (r, zs w1 z') ∧ Rel 1 m' z' M' 99 ∧ Inv z' M' c' (pB c') 99 ∧ c' ≤ 999 ∧ Fr 1 m1 m') : ∃ r m' w', ov (F_X0_keep fu 1 m) KC = some (r, m') ∧ ov (F_X7_record fu (zs w z)) KM = some (r, w') ∧ GR m' w' ∧ (∀ a, 359 ≤ a → m' a = m a) ∧ ∀ a, a < 359 → w' a = zs w z a := by
  obtain ⟨m1, w1, e1, e2, g1, e3, e4, e5⟩ := g_keep g hf
  rw [zs_at] at e3
  obtain ⟨M1, c1, x1, x2, x3⟩ := g1.1
  rw [e3] at x1 x2
  have eM : M1 = M := by
    have q := x2.1.1.symm.trans hi.1.1
    exact (nI_eq (by have := x2.1.2.1; omega) (by have := hi.1.2.1; omega)).mp q
  subst eM
  obtain ⟨r, m', z', M', c', k1, k2, k3, k4, k5, k6⟩ := h m1 w1 x1
  have k2' := k2
  rw [show zs w1 z = w1 from by rw [← e3]; exact zs_self w1] at k2'
  refine ⟨r, m', zs w1 z', by rw [e1, ov_s]; exact k1, by rw [e2, ov_s]; exact k2', GR_srv g1 k3 k4 k5 k6, fun a ha => ?_, fun a ha => ?_⟩
  · rw [k6 a (by omega), e4 a (by omega)]
  · rw [zs_ne _ _ (by omega), e5 a ha]
theorem act_ok {FC FM : Mem → Option (Int32 × Mem)} (h : ∀ m w z M c, GR m (zs w z) → Rel 1 m z M 99 → Inv z M c (pB c) 99 → c ≤ 999 → ∃ r m' w', FC m = some (r, m') ∧ FM (zs w z) = some (r, w') ∧ GR m' w' ∧ (∀ a, 359 ≤ a → m' a = m a) ∧ ∀ a, a < 359 → w' a = zs w z a) : CallOK FC FM := by
  intro m w g
  obtain ⟨M, c, r1, r2, r3⟩ := g.1
  have q := h m w (w 360) M c (by rw [zs_self]; exact g) r1 r2 r3
  rw [zs_self] at q
  exact q
theorem act_no {FC FM : Option (Int32 × Mem)} {m w : Mem} (r : Int32) (g : GR m w) (h1 : FC = some (r, m)) (h2 : FM = some (r, w)) : ∃ r m' w', FC = some (r, m') ∧ FM = some (r, w') ∧ GR m' w' ∧ (∀ a, 359 ≤ a → m' a = m a) ∧ ∀ a, a < 359 → w' a = w a := ⟨r, m, w, h1, h2, g, fun _ _ => rfl, fun _ _ => rfl⟩
theorem sv_ok {fu j : Nat} {v : Int32} (hj : j < 4) : ∃ r a b, (∀ m, F_X6_isServerValue fu (nI j) v m = some (r, m)) ∧ (∀ w, F_X7_lowest fu (nI j) w = some (a, w)) ∧ (∀ w, F_X7_highest fu (nI j) w = some (b, w)) ∧ (∀ w, F_X7_in fu v a b w = some (r, w)) ∧ (r = 0 ∨ (r = 1 ∧ rS j v)) := by
  rcases (show j = 0 ∨ j = 1 ∨ j = 2 ∨ j = 3 by omega) with rfl | rfl | rfl | rfl
  · refine ⟨inr v 1 20, 1, 20, fun m => ?_, fun w => ?_, fun w => ?_, fun w => in_r, (inr_n (a := 1) (b := 20) (by decide) (by decide)).imp id (fun h => ⟨h.1, fun _ => h.2, by omega, by omega, by omega⟩)⟩
    · unfold F_X6_isServerValue
      rw [if_pos (show nI 0 = 0 from rfl), bt_r, ob_s, inr_Z, gd_t]
    · exact if_neg (by decide)
    · unfold F_X7_highest
      rw [if_neg (by decide), if_neg (by decide)]
  · refine ⟨inr v 1 60, 1, 60, fun m => ?_, fun w => ?_, fun w => ?_, fun w => in_r, (inr_n (a := 1) (b := 60) (by decide) (by decide)).imp id (fun h => ⟨h.1, by omega, fun _ => h.2, by omega, by omega⟩)⟩
    · unfold F_X6_isServerValue
      rw [if_neg (by decide), if_pos (show nI 1 = 1 from rfl), bt_r, ob_s, inr_Z, gd_t]
    · exact if_neg (by decide)
    · exact if_pos (show nI 1 = 1 from rfl)
  · refine ⟨inr v 1 20, 1, 20, fun m => ?_, fun w => ?_, fun w => ?_, fun w => in_r, (inr_n (a := 1) (b := 20) (by decide) (by decide)).imp id (fun h => ⟨h.1, by omega, by omega, fun _ => h.2, by omega⟩)⟩
    · unfold F_X6_isServerValue
      rw [if_neg (by decide), if_neg (by decide), if_pos (show nI 2 = 2 from rfl), bt_r, ob_s, inr_Z, gd_t]
    · exact if_neg (by decide)
    · unfold F_X7_highest
      rw [if_neg (by decide), if_neg (by decide)]
  · refine ⟨inr v 0 4, 0, 4, fun m => ?_, fun w => ?_, fun w => ?_, fun w => in_r, (inr_n (a := 0) (b := 4) (by decide) (by decide)).imp id (fun h => ⟨h.1, by omega, by omega, by omega, fun _ => h.2⟩)⟩
    · unfold F_X6_isServerValue
      rw [if_neg (by decide), if_neg (by decide), if_neg (by decide), if_pos (show nI 3 = 3 from rfl), bt_r, ob_s, inr_Z, gd_t]
    · exact if_pos (show nI 3 = 3 from rfl)
    · unfold F_X7_highest
      rw [if_neg (by decide), if_pos (show nI 3 = 3 from rfl)]
theorem ok_set (fu : Nat) (hf : 1200 < fu) (x v : Int32) : CallOK (F_X6_set fu x v) (F_X7_set fu x v) := act_ok (fun m w z M c g h hi hc => by
  unfold F_X6_set F_X7_set
  rcases pk_ix x (n := 4) (by decide) with e | e | ⟨j, hj, rfl⟩
  · obtain ⟨e1, e2⟩ := isSet_no (fu := fu) (m := m) (w := zs w z) (Or.inl e)
    exact act_no (-100001) g (by rw [e1, ob_s, if_pos rfl]) (by rw [e2, ob_s, if_pos rfl])
  · obtain ⟨e1, e2⟩ := isSet_no (fu := fu) (m := m) (w := zs w z) (Or.inr e)
    exact act_no (-100001) g (by rw [e1, ob_s, if_pos rfl]) (by rw [e2, ob_s, if_pos rfl])
  · obtain ⟨e1, e2⟩ := isSet_yes (fu := fu) (m := m) (w := zs w z) hj
    obtain ⟨r, a, b, q1, q2, q3, q4, q5⟩ := sv_ok (fu := fu) (v := v) hj
    rw [e1, e2, ob_s, ob_s, if_neg (show ¬ (1 : Int32) = 0 by decide), if_neg (show ¬ (1 : Int32) = 0 by decide), q1, q2, ob_s, ob_s, q3, ob_s, q4, ob_s]
    rcases q5 with rfl | ⟨rfl, hv⟩
    · exact act_no (-100002) g (if_pos rfl) (if_pos rfl)
    · rw [if_neg (show ¬ (1 : Int32) = 0 by decide), if_neg (show ¬ (1 : Int32) = 0 by decide)]
      refine keep_then hf g hi (fun m1 w1 h1 => ?_)
      refine ⟨z j, mput m1 (1 + 1 + 1) j v, upd z j v, M, c, ?_, ?_, wr_set v h1 hj, Inv_is hi (IS_set hi.2.1 hj hv) (fun i hi' => upd_n _ _ (by omega)), hc, Fr_put (by omega) (by omega)⟩
      · rw [at_v hj (by decide), ob_s, pt_v hj (by decide), ov_s, v_set h1 hj]
      · rw [bd_s, ia_0, gd_in _ (by omega) (by omega), bd_s, gd_in _ (by omega) (by omega), bd_s, tn (0 + j) (by omega), mput_zs, zs_at, Nat.zero_add])
theorem cv_ok {fu j : Nat} {v : Int32} (hj : j < 4) : ∃ r b, (∀ m, F_X6_isClassValue fu (nI j) v m = some (r, m)) ∧ (∀ w, F_X7_highestOfClass fu (nI j) w = some (b, w)) ∧ (∀ w, F_X7_in fu v (if nI j = 1 then 0 else 1) b w = some (r, w)) ∧ (r = 0 ∨ (r = 1 ∧ rK j v)) := by
  rcases (show j = 0 ∨ j = 1 ∨ j = 2 ∨ j = 3 by omega) with rfl | rfl | rfl | rfl
  · refine ⟨inr v 1 9, 9, fun m => ?_, fun w => ?_, fun w => ?_, (inr_n (a := 1) (b := 9) (by decide) (by decide)).imp id (fun h => ⟨h.1, fun _ => h.2, by omega, by omega, by omega⟩)⟩
    · unfold F_X6_isClassValue
      rw [if_pos (show nI 0 = 0 from rfl), bt_r, ob_s, inr_Z, gd_t]
    · exact if_pos (show nI 0 = 0 from rfl)
    · rw [if_neg (by decide)]; exact in_r
  · refine ⟨inr v 0 20, 20, fun m => ?_, fun w => ?_, fun w => ?_, (inr_n (a := 0) (b := 20) (by decide) (by decide)).imp id (fun h => ⟨h.1, by omega, fun _ => h.2, by omega, by omega⟩)⟩
    · unfold F_X6_isClassValue
      rw [if_neg (by decide), if_pos (show nI 1 = 1 from rfl), bt_r, ob_s, inr_Z, gd_t]
    · unfold F_X7_highestOfClass
      rw [if_neg (by decide), if_pos (show nI 1 = 1 from rfl)]
    · rw [if_pos (show nI 1 = 1 from rfl)]; exact in_r
  · refine ⟨inr v 1 99, 99, fun m => ?_, fun w => ?_, fun w => ?_, (inr_n (a := 1) (b := 99) (by decide) (by decide)).imp id (fun h => ⟨h.1, by omega, by omega, fun _ => h.2, by omega⟩)⟩
    · unfold F_X6_isClassValue
      rw [if_neg (by decide), if_neg (by decide), if_pos (show nI 2 = 2 from rfl), bt_r, ob_s, inr_Z, gd_t]
    · unfold F_X7_highestOfClass
      rw [if_neg (by decide), if_neg (by decide)]
    · rw [if_neg (by decide)]; exact in_r
  · refine ⟨inr v 1 99, 99, fun m => ?_, fun w => ?_, fun w => ?_, (inr_n (a := 1) (b := 99) (by decide) (by decide)).imp id (fun h => ⟨h.1, by omega, by omega, by omega, fun _ => h.2⟩)⟩
    · unfold F_X6_isClassValue
      rw [if_neg (by decide), if_neg (by decide), if_neg (by decide), if_pos (show nI 3 = 3 from rfl), bt_r, ob_s, inr_Z, gd_t]
    · unfold F_X7_highestOfClass
      rw [if_neg (by decide), if_neg (by decide)]
    · rw [if_neg (by decide)]; exact in_r
theorem ok_setClass (fu : Nat) (hf : 1200 < fu) (x y v : Int32) : CallOK (F_X6_setClass fu x y v) (F_X7_setClass fu x y v) := act_ok (fun m w z M c g h hi hc => by
  unfold F_X6_setClass F_X7_setClass
  rcases pk_ix x (n := 3) (by decide) with e | e | ⟨k, hk, rfl⟩
  · obtain ⟨e1, e2⟩ := isKind_no (fu := fu) (m := m) (w := zs w z) (Or.inl e)
    exact act_no (-100001) g (by rw [e1, ob_s, if_pos rfl]) (by rw [e2, ob_s, if_pos rfl])
  · obtain ⟨e1, e2⟩ := isKind_no (fu := fu) (m := m) (w := zs w z) (Or.inr e)
    exact act_no (-100001) g (by rw [e1, ob_s, if_pos rfl]) (by rw [e2, ob_s, if_pos rfl])
  · obtain ⟨e1, e2⟩ := isKind_yes (fu := fu) (m := m) (w := zs w z) hk
    rw [e1, e2, ob_s, ob_s, if_neg (show ¬ (1 : Int32) = 0 by decide), if_neg (show ¬ (1 : Int32) = 0 by decide)]
    rcases pk_ix y (n := 4) (by decide) with e | e | ⟨j, hj, rfl⟩
    · obtain ⟨e1, e2⟩ := isSet_no (fu := fu) (m := m) (w := zs w z) (Or.inl e)
      exact act_no (-100001) g (by rw [e1, ob_s, if_pos rfl]) (by rw [e2, ob_s, if_pos rfl])
    · obtain ⟨e1, e2⟩ := isSet_no (fu := fu) (m := m) (w := zs w z) (Or.inr e)
      exact act_no (-100001) g (by rw [e1, ob_s, if_pos rfl]) (by rw [e2, ob_s, if_pos rfl])
    · obtain ⟨e1, e2⟩ := isSet_yes (fu := fu) (m := m) (w := zs w z) hj
      obtain ⟨r, b, q1, q2, q3, q4⟩ := cv_ok (fu := fu) (v := v) hj
      have eL : (if nI j = 1 then (F_X7_setClass_L30 fu (nI k) (nI j) v 0 (zs w z)) else (F_X7_setClass_L30 fu (nI k) (nI j) v 1 (zs w z))) = F_X7_setClass_L30 fu (nI k) (nI j) v (if nI j = 1 then 0 else 1) (zs w z) := by
        by_cases cc : nI j = 1
        · rw [if_pos cc, if_pos cc]
        · rw [if_neg cc, if_neg cc]
      rw [e1, e2, ob_s, ob_s, if_neg (show ¬ (1 : Int32) = 0 by decide), if_neg (show ¬ (1 : Int32) = 0 by decide), eL, q1, ob_s]
      unfold F_X7_setClass_L30
      rw [q2, ob_s, q3, ob_s]
      rcases q4 with rfl | ⟨rfl, hv⟩
      · exact act_no (-100002) g (if_pos rfl) (if_pos rfl)
      · rw [if_neg (show ¬ (1 : Int32) = 0 by decide), if_neg (show ¬ (1 : Int32) = 0 by decide)]
        refine keep_then hf g hi (fun m1 w1 h1 => ?_)
        refine ⟨z (4 + 4 * k + j), mput m1 (1 + (5 + 7 * k) + 1 + 1) j v, upd z (4 + 4 * k + j) v, M, c, ?_, ?_, wr_cls v h1 hk hj, Inv_is hi (IS_cls hi.2.1 hk hj hv) (fun i hi' => upd_n _ _ (by omega)), hc, Fr_put (by omega) (by omega)⟩
        · rw [ln_v hk, oq_s, at_v hj (by decide), ob_s, pt_v hj (by decide), ov_s, v_cls h1 hk hj]
        · rw [ofc_v hk hj, ob_s, bd_s, im_4, bd_s, ia_4, bd_s, nI_add, gd_in _ (by omega) (by omega), bd_s, tn (4 + 4 * k + j) (by omega), mput_zs])
theorem ok_offer (fu : Nat) (hf : 1200 < fu) (x y v : Int32) : CallOK (F_X6_offer fu x y v) (F_X7_offer fu x y v) := act_ok (fun m w z M c g h hi hc => by
  have hM := hi.1.2.1
  unfold F_X6_offer F_X7_offer F_X4_errorOfOffer F_X7_noOffer
  have no : ∀ e : Int32, e < 0 → ∀ KC KM : Mem → Option (Int32 × Mem), ∃ r m' w', (ob (some (e, m)) fun r7 m8 => if r7 = 0 then KC m8 else some (r7, m8)) = some (r, m') ∧ (ob (some (e, zs w z)) fun r7 m8 => if 0 ≤ r7 then KM m8 else some (r7, m8)) = some (r, w') ∧ GR m' w' ∧ (∀ a, 359 ≤ a → m' a = m a) ∧ ∀ a, a < 359 → w' a = zs w z a := fun e he KC KM => by
    rw [ob_s, ob_s, if_neg (fun h0 => by rw [h0] at he; exact absurd he (by decide)), if_neg (Int32.not_le.mpr he)]
    exact act_no e g rfl rfl
  rcases pk_ix x (n := 3) (by decide) with e | e | ⟨k, hk, rfl⟩
  · obtain ⟨e1, e2⟩ := isKind_no (fu := fu) (m := m) (w := zs w z) (Or.inl e)
    rw [e1, e2, ob_s, ob_s, if_pos (show (0 : Int32) = 0 from rfl), if_pos (show (0 : Int32) = 0 from rfl)]
    exact no (-100001) (by decide) _ _
  · obtain ⟨e1, e2⟩ := isKind_no (fu := fu) (m := m) (w := zs w z) (Or.inr e)
    rw [e1, e2, ob_s, ob_s, if_pos (show (0 : Int32) = 0 from rfl), if_pos (show (0 : Int32) = 0 from rfl)]
    exact no (-100001) (by decide) _ _
  · obtain ⟨e1, e2⟩ := isKind_yes (fu := fu) (m := m) (w := zs w z) hk
    rw [e1, e2, ob_s, ob_s, if_neg (show ¬ (1 : Int32) = 0 by decide), if_neg (show ¬ (1 : Int32) = 0 by decide)]
    rcases pk_ix y (n := 5) (by decide) with e | e | ⟨s, hs, rfl⟩
    · obtain ⟨e1, e2⟩ := isShape_no (fu := fu) (m := m) (w := zs w z) (Or.inl e)
      rw [e1, e2, ob_s, ob_s, if_pos (show (0 : Int32) = 0 from rfl), if_pos (show (0 : Int32) = 0 from rfl)]
      exact no (-100001) (by decide) _ _
    · obtain ⟨e1, e2⟩ := isShape_no (fu := fu) (m := m) (w := zs w z) (Or.inr e)
      rw [e1, e2, ob_s, ob_s, if_pos (show (0 : Int32) = 0 from rfl), if_pos (show (0 : Int32) = 0 from rfl)]
      exact no (-100001) (by decide) _ _
    · obtain ⟨e1, e2⟩ := isShape_yes (fu := fu) (m := m) (w := zs w z) hs
      rw [e1, e2, ob_s, ob_s, if_neg (show ¬ (1 : Int32) = 0 by decide), if_neg (show ¬ (1 : Int32) = 0 by decide), bt_r, in_r, ob_s, ob_s]
      rcases (inr_n (x := v) (a := 1) (b := 60) (by decide) (by decide)) with e | ⟨e, cost, c1, c2, rfl⟩
      · rw [if_pos (show inr v 1 60 = 0 from e), if_pos (show inr v 1 60 = 0 from e)]
        exact no (-100002) (by decide) _ _
      · rw [show inr (nI cost) 1 60 = 1 from e, if_neg (show ¬ (1 : Int32) = 0 by decide), if_neg (show ¬ (1 : Int32) = 0 by decide), v_cnt h, gl_69, tl_69, zs_at, hi.1.1]
        by_cases cM : M = 32
        · rw [if_neg (show ¬ nI M < 32 by subst cM; decide), if_pos (show nI M = 32 by subst cM; rfl)]
          exact no (-100004) (by decide) _ _
        · have cM2 : M < 32 := by omega
          rw [if_pos (show nI M < 32 from nI_lt cM2 (by decide)), if_neg (show ¬ nI M = 32 from fun e => cM ((nI_eq (b := 32) (by omega) (by decide)).mp e)), ob_s, ob_s, if_pos (show (0 : Int32) = 0 from rfl), if_pos (show (0 : Int32) ≤ 0 by decide)]
          refine keep_then hf g hi (fun m1 w1 h1 => ?_)
          obtain ⟨i1, i2, i3⟩ := Inv_new (s := s) (k := k) hi cM2 hk hs c1 c2
          obtain ⟨m2, y1, y2, y3⟩ := s_new (fu := fu) (k := k) (s := s) (cost := cost) h1 hi cM2 hk hs c1 c2 (by have := pB_lt (c := c) (by omega); omega) (by omega)
          refine ⟨_, m2, _, M + 1, c, by rw [y1, ob_s], by rw [m_doOffer hi cM2 hk hs c1 c2 (by omega), ob_s], y2, ?_, hc, y3⟩
          exact Inv_offer i1 (by omega) hk hs (by have := pB_lt (c := c) (by omega); omega))
theorem ok_advance (fu : Nat) (hf : 1200 < fu) (x : Int32) : CallOK (F_X6_advance fu x) (F_X7_advance fu x) := act_ok (fun m w z M c g h hi hc => by
  unfold F_X6_advance F_X7_advance F_X4_errorOfTicks F_X7_noAdvance
  have no : ∀ e : Int32, e < 0 → ∀ KC KM : Mem → Option (Int32 × Mem), ∃ r m' w', (ob (some (e, m)) fun r7 m8 => if r7 = 0 then KC m8 else some (r7, m8)) = some (r, m') ∧ (ob (some (e, zs w z)) fun r7 m8 => if 0 ≤ r7 then KM m8 else some (r7, m8)) = some (r, w') ∧ GR m' w' ∧ (∀ a, 359 ≤ a → m' a = m a) ∧ ∀ a, a < 359 → w' a = zs w z a := fun e he KC KM => by
    rw [ob_s, ob_s, if_neg (fun h0 => by rw [h0] at he; exact absurd he (by decide)), if_neg (Int32.not_le.mpr he)]
    exact act_no e g rfl rfl
  rw [bt_r, in_r, ob_s, ob_s]
  rcases (inr_n (x := x) (a := 1) (b := 99) (by decide) (by decide)) with e | ⟨e, t, t1, t2, rfl⟩
  · rw [if_pos (show inr x 1 99 = 0 from e), if_pos (show inr x 1 99 = 0 from e)]
    exact no (-100002) (by decide) _ _
  · rw [show inr (nI t) 1 99 = 1 from e, if_neg (show ¬ (1 : Int32) = 0 by decide), if_neg (show ¬ (1 : Int32) = 0 by decide), bd_s, v_clk h, gl_67, tl_67, zs_at, bd_s, hi.1.2.2.1, nI_add]
    by_cases cc : nI (c + t) ≤ 999
    · have ct : c + t ≤ 999 := (nI_leI (b := 999) (by omega) (by omega)).mp cc
      rw [if_pos cc, if_pos cc, ob_s, ob_s, if_pos (show (0 : Int32) = 0 from rfl), if_pos (show (0 : Int32) ≤ 0 by decide)]
      refine keep_then hf g hi (fun m1 w1 h1 => ?_)
      obtain ⟨p1, p2⟩ := m_pass (fu := fu) (M := M) (w := w1) t2 (by omega) t fu 0 c 0 z hi (by omega) (by omega) (by omega)
      obtain ⟨m2, y1, y2, y3⟩ := s_pass (fu := fu) (b := 1) (M := M) t2 (by omega) t fu 0 c 0 m1 z h1 hi (by omega) (by omega) (by omega)
      unfold F_X4_letPass F_X7_doAdvance
      refine ⟨_, m2, _, M, c + t, by rw [show F_X4_letPass_L4 fu 1 (nI t) fu 0 0 m1 = some ((zPass t 0 z M).1, m2) from y1, ob_s], by rw [show F_X7_doAdvance_L4 fu (nI t) fu 0 0 (zs w1 z) = some ((zPass t 0 z M).1, zs w1 (zPass t 0 z M).2) from p1, ob_s], y2, p2, ct, y3⟩
    · rw [if_neg cc, if_neg cc]
      exact no (-100004) (by decide) _ _)
theorem ok_undo (fu : Nat) (hf : 1200 < fu) : CallOK (F_X6_undo fu) (F_X7_undo fu) := fun _ _ g => g_undo g hf
theorem GR_tx {m m' w w' : Mem} (h : GR m w) (t : TR m' w') (e1 : ∀ a, a < 356 → m' a = m a) (e2 : w' 360 = w 360) (e3 : w' 362 = w 362) (e4 : w' 359 3 = w 359 3) : GR m' w' := by
  obtain ⟨h1, h2, h3, h4⟩ := h
  refine ⟨by rw [e2]; exact SR_m h1 (fun a _ x => e1 a (by omega)), NR_m h2 (fun b r hb hr => by have := isSb_or hb; rw [e1 _ (by omega)]), HR_c h3 (fun a _ x => e1 a (by omega)) e4 e3, t⟩
theorem ok_clear (fu : Nat) : CallOK (F_X6_clearText fu) (F_X7_clearText fu) := fun m w g => by
  obtain ⟨L, t1, t2, t3, t4⟩ := g.2.2.2
  unfold F_X6_clearText F_X7_clearText
  rw [bd_s, bd_s, t2, t3]
  refine ⟨_, _, _, rfl, rfl, GR_tx g ⟨0, by omega, mput_at _ _ _ _, mput_at _ _ _ _, fun i hi => absurd hi (by omega)⟩ (fun a ha => mput_other _ _ _ (by omega)) (mput_other _ _ _ (by omega)) (mput_other _ _ _ (by omega)) (mput_ne _ _ (by omega)), fun a ha => mput_other _ _ _ (by omega), fun a ha => mput_other _ _ _ (by omega)⟩
theorem ok_append (fu : Nat) (x : Int32) : CallOK (F_X6_append fu x) (F_X7_append fu x) := fun m w g => by
  obtain ⟨L, t1, t2, t3, t4⟩ := g.2.2.2
  unfold F_X6_append F_X7_append
  rw [in_r, ob_s]
  by_cases c1 : x < 32
  · rw [if_pos c1, show inr x 32 126 = 0 from if_pos c1, if_pos rfl]
    exact act_no (-100002) g rfl rfl
  · rw [if_neg c1]
    by_cases c2 : x ≤ 126
    · rw [if_pos c2, show inr x 32 126 = 1 from by unfold inr; rw [if_neg c1, if_neg (Int32.not_lt.mpr c2)], if_neg (show ¬ (1 : Int32) = 0 by decide), t2, t3]
      by_cases c3 : L = 80
      · rw [if_neg (show ¬ nI L < 80 by subst c3; decide), if_pos (show nI L = 80 by subst c3; rfl)]
        exact act_no (-100004) g rfl rfl
      · have c4 : L < 80 := by omega
        have hx : rng x 32 126 := by
          rcases inr_n (x := x) (a := 32) (b := 126) (by decide) (by decide) with e | ⟨-, e⟩
          · exfalso
            have : inr x 32 126 = 0 := e
            unfold inr at this
            rw [if_neg c1, if_neg (Int32.not_lt.mpr c2)] at this
            exact absurd this (by decide)
          · exact e
        rw [if_pos (show nI L < 80 from nI_lt c4 (by decide)), if_neg (show ¬ nI L = 80 from fun e => c3 ((nI_eq (b := 80) (by omega) (by decide)).mp e)), gd_in _ c4 (by omega), bd_s, tn L (by omega)]
        unfold F_X5_add
        rw [t2, if_neg (show ¬ (80 : Int32) ≤ nI L from nI_ge c4 (by decide)), pt_v c4 (by decide), ov_s, bd_s, mput_ne _ _ (show 356 ≠ 356 + 1 + 1 ∨ 1 ≠ L by omega), t2, bd_s, ov_s, mput_at, bd_s, mput_ne _ _ (show 359 ≠ 363 ∨ 5 ≠ L by omega), t3, bd_s, mput_at, nI_1]
        refine ⟨_, _, _, rfl, rfl, GR_tx g ⟨L + 1, by omega, mput_at _ _ _ _, mput_at _ _ _ _, fun i hi => ?_⟩ (fun a ha => by rw [mput_other _ _ _ (by omega), mput_other _ _ _ (by omega)]) (by rw [mput_other _ _ _ (by omega), mput_other _ _ _ (by omega)]) (by rw [mput_other _ _ _ (by omega), mput_other _ _ _ (by omega)]) (by rw [mput_ne _ _ (by omega), mput_ne _ _ (by omega)]), fun a ha => by rw [mput_other _ _ _ (by omega), mput_other _ _ _ (by omega)], fun a ha => by rw [mput_other _ _ _ (by omega), mput_other _ _ _ (by omega)]⟩
        rw [mput_ne _ _ (show 358 ≠ 356 ∨ i ≠ 1 by omega), mput_ne _ _ (show 363 ≠ 359 ∨ i ≠ 5 by omega)]
        by_cases e : i = L
        · subst e
          obtain ⟨n, n1, n2, n3⟩ := hx
          exact ⟨n, n1, n2, by rw [mput_at]; exact n3, by rw [mput_at]; exact n3⟩
        · rw [mput_ne _ _ (Or.inr e), mput_ne _ _ (Or.inr e)]
          exact t4 i (by omega)
    · rw [if_neg c2, show inr x 32 126 = 0 from by unfold inr; rw [if_neg c1, if_pos (Int32.not_le.mp c2)], if_pos rfl]
      exact act_no (-100002) g rfl rfl
