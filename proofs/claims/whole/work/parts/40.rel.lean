/-! ===== the class's server at the base b holds what the array z holds; M requests; the request r0 (32 and more: none) is on its way: its state and price are open, and it counts as open ===== -/
def RA (b : Nat) (m : Mem) (z : Nat → Int32) : Prop := ∀ i, i < 75 → m (b + lo i) (lt i) = z i
def RB (b : Nat) (m : Mem) (z : Nat → Int32) (M r0 : Nat) : Prop := ∀ r, r < M → ∀ g, g < 8 → (r = r0 → g ≠ 3 ∧ g ≠ 4) → m (b + 27 + r) (g + 1) = z (75 + 10 * r + g)
def RC (b : Nat) (m : Mem) (z : Nat → Int32) (M r0 : Nat) : Prop := ∀ r, r < M → r ≠ r0 → (z (78 + 10 * r) = 2 ∨ z (78 + 10 * r) = 3 → m (b + 27 + r) 10 = z (83 + 10 * r)) ∧ (z (78 + 10 * r) = 0 → m (b + 27 + r) 9 = z (84 + 10 * r))
def oPn (z : Nat → Int32) (r0 r : Nat) : Bool := decide (r = r0) || (!(decide (z (78 + 10 * r) = 2)) && !(decide (z (78 + 10 * r) = 4)))
def rJc (z : Nat → Int32) (r0 r : Nat) : Bool := !(decide (r = r0)) && decide (z (78 + 10 * r) = 4)
def RO (b : Nat) (m : Mem) (z : Nat → Int32) (M r0 : Nat) : Prop := m b 7 = nI (fb_ct (oPn z r0) M) ∧ m b 8 = nI (fb_ct (rJc z r0) M)
def RN (b : Nat) (m : Mem) : Prop := ∀ r, r < 32 → m (b + 27 + r) 0 = nI r
def Rel (b : Nat) (m : Mem) (z : Nat → Int32) (M r0 : Nat) : Prop := RA b m z ∧ RB b m z M r0 ∧ RC b m z M r0 ∧ RO b m z M r0 ∧ RN b m
def Fr (b : Nat) (m m' : Mem) : Prop := ∀ a, a < b ∨ b + 59 ≤ a → m' a = m a
theorem Fr_rf {b : Nat} {m : Mem} : Fr b m m := fun _ _ => rfl
theorem Fr_tr {b : Nat} {m m' m2 : Mem} (h : Fr b m m') (h2 : Fr b m' m2) : Fr b m m2 := fun a ha => (h2 a ha).trans (h a ha)
theorem Fr_put {b : Nat} {m : Mem} {o k : Nat} {v : Int32} (h1 : b ≤ o) (h2 : o < b + 59) : Fr b m (mput m o k v) := fun a ha => mput_other m k v (by omega)
theorem lo_27 : ∀ i, i < 75 → lo i < 27 := by decide +kernel
theorem lo_78 : ∀ i, i < 75 → lo i ≠ 0 ∨ (lt i ≠ 7 ∧ lt i ≠ 8) := by decide +kernel
theorem oPn_c {z z' : Nat → Int32} {M r0 : Nat} (h : ∀ r, r < M → r ≠ r0 → z' (78 + 10 * r) = z (78 + 10 * r)) : fb_ct (oPn z' r0) M = fb_ct (oPn z r0) M := fb_ct_cong (fun r hr => by
  unfold oPn
  by_cases e : r = r0
  · rw [decide_eq_true e, Bool.true_or, Bool.true_or]
  · rw [h r hr e])
theorem rJc_c {z z' : Nat → Int32} {M r0 : Nat} (h : ∀ r, r < M → r ≠ r0 → z' (78 + 10 * r) = z (78 + 10 * r)) : fb_ct (rJc z' r0) M = fb_ct (rJc z r0) M := fb_ct_cong (fun r hr => by
  unfold rJc
  by_cases e : r = r0
  · rw [decide_eq_true e, Bool.not_true, Bool.false_and, Bool.false_and]
  · rw [h r hr e])
/-- a number below the requests is written on both sides -/
theorem Rel_lo {b : Nat} {m : Mem} {z : Nat → Int32} {M r0 i : Nat} (v : Int32) (h : Rel b m z M r0) (hi : i < 75) : Rel b (mput m (b + lo i) (lt i) v) (upd z i v) M r0 := by
  obtain ⟨h1, h2, h3, h4, h5⟩ := h
  have hl := lo_27 i hi
  have h78 := lo_78 i hi
  have q : ∀ r s, mput m (b + lo i) (lt i) v (b + 27 + r) s = m (b + 27 + r) s := fun r s => mput_ne _ _ (Or.inl (by omega))
  refine ⟨fun j hj => ?_, fun r hr g hg e => ?_, fun r hr e => ?_, ⟨?_, ?_⟩, fun r hr => ?_⟩
  · by_cases e : j = i
    · subst e; rw [mput_at, upd_s]
    · rw [mput_ne, upd_n _ _ e]
      · exact h1 j hj
      · have := lo_inj (i := j) (j := i) (by omega) (by omega) e
        omega
  · rw [q, upd_n _ _ (by omega)]; exact h2 r hr g hg e
  · rw [q, q, upd_n _ _ (by omega), upd_n _ _ (by omega), upd_n _ _ (by omega)]; exact h3 r hr e
  · rw [mput_ne _ _ (by omega), oPn_c (fun r _ _ => upd_n _ _ (by omega))]; exact h4.1
  · rw [mput_ne _ _ (by omega), rJc_c (fun r _ _ => upd_n _ _ (by omega))]; exact h4.2
  · rw [q]; exact h5 r hr
/-- a request's number but the state is written on both sides -/
theorem Rel_rq {b : Nat} {m : Mem} {z : Nat → Int32} {M r0 r g : Nat} (v : Int32) (h : Rel b m z M r0) (hg : g < 8) (hg3 : g ≠ 3) : Rel b (mput m (b + 27 + r) (g + 1) v) (upd z (75 + 10 * r + g) v) M r0 := by
  obtain ⟨h1, h2, h3, h4, h5⟩ := h
  refine ⟨fun j hj => ?_, fun r' hr g' hg' e => ?_, fun r' hr e => ?_, ⟨?_, ?_⟩, fun r' hr => ?_⟩
  · have := lo_27 j hj
    rw [mput_ne _ _ (by omega), upd_n _ _ (by omega)]; exact h1 j hj
  · by_cases e2 : r' = r ∧ g' = g
    · obtain ⟨e3, e4⟩ := e2
      subst e3; subst e4
      rw [mput_at, upd_s]
    · rw [mput_ne _ _ (by omega), upd_n _ _ (by omega)]; exact h2 r' hr g' hg' e
  · rw [mput_ne _ _ (by omega), mput_ne _ _ (by omega), upd_n _ _ (by omega), upd_n _ _ (by omega), upd_n _ _ (by omega)]; exact h3 r' hr e
  · rw [mput_ne _ _ (by omega), oPn_c (fun r _ _ => upd_n _ _ (by omega))]; exact h4.1
  · rw [mput_ne _ _ (by omega), rJc_c (fun r _ _ => upd_n _ _ (by omega))]; exact h4.2
  · rw [mput_ne _ _ (by omega)]; exact h5 r' hr
/-- what is open of the request on its way: on the class's side, on the array's -/
theorem Rel_xc {b : Nat} {m : Mem} {z : Nat → Int32} {M r0 s : Nat} (v : Int32) (h : Rel b m z M r0) (hs : s = 4 ∨ s = 5 ∨ s = 9 ∨ s = 10) : Rel b (mput m (b + 27 + r0) s v) z M r0 := by
  obtain ⟨h1, h2, h3, h4, h5⟩ := h
  refine ⟨fun j hj => ?_, fun r hr g hg e => ?_, fun r hr e => ?_, ⟨?_, ?_⟩, fun r' hr => ?_⟩
  · have := lo_27 j hj
    rw [mput_ne _ _ (by omega)]; exact h1 j hj
  · rw [mput_ne]
    · exact h2 r hr g hg e
    · by_cases e2 : r = r0
      · have := e e2
        omega
      · omega
  · rw [mput_ne _ _ (by omega), mput_ne _ _ (by omega)]; exact h3 r hr e
  · rw [mput_ne _ _ (by omega)]; exact h4.1
  · rw [mput_ne _ _ (by omega)]; exact h4.2
  · rw [mput_ne _ _ (by omega)]; exact h5 r' hr
theorem Rel_xz {b : Nat} {m : Mem} {z : Nat → Int32} {M r0 i : Nat} (v : Int32) (h : Rel b m z M r0) (hi : i = 78 + 10 * r0 ∨ i = 79 + 10 * r0 ∨ i = 83 + 10 * r0 ∨ i = 84 + 10 * r0) : Rel b m (upd z i v) M r0 := by
  obtain ⟨h1, h2, h3, h4, h5⟩ := h
  refine ⟨fun j hj => ?_, fun r hr g hg e => ?_, fun r hr e => ?_, ⟨?_, ?_⟩, h5⟩
  · rw [upd_n _ _ (by omega)]; exact h1 j hj
  · rw [upd_n]
    · exact h2 r hr g hg e
    · by_cases e2 : r = r0
      · have := e e2
        omega
      · omega
  · rw [upd_n _ _ (by omega), upd_n _ _ (by omega), upd_n _ _ (by omega)]; exact h3 r hr e
  · rw [oPn_c (fun r _ _ => upd_n _ _ (by omega))]; exact h4.1
  · rw [rJc_c (fun r _ _ => upd_n _ _ (by omega))]; exact h4.2
theorem oPn_99 {z : Nat → Int32} {M r0 : Nat} (hr : r0 < M) (hM : M ≤ 32) : fb_ct (oPn z r0) M + (if z (78 + 10 * r0) = 2 ∨ z (78 + 10 * r0) = 4 then 0 else 1) = fb_ct (oPn z 99) M + 1 := by
  have h := fb_ct_upd (oPn z 99) true hr
  have e : fb_ct (fun k => if k = r0 then true else oPn z 99 k) M = fb_ct (oPn z r0) M := fb_ct_cong (fun r hr => by
    unfold oPn
    by_cases e : r = r0
    · rw [if_pos e, decide_eq_true e, Bool.true_or]
    · rw [if_neg e, decide_eq_false e, decide_eq_false (show ¬ r = 99 by omega)])
  rw [e] at h
  have e2 : (if oPn z 99 r0 = true then 1 else 0) = (if z (78 + 10 * r0) = 2 ∨ z (78 + 10 * r0) = 4 then 0 else 1) := by
    unfold oPn
    rw [decide_eq_false (show ¬ r0 = 99 by omega), Bool.false_or]
    by_cases c1 : z (78 + 10 * r0) = 2
    · rw [decide_eq_true c1, if_pos (Or.inl c1)]; rfl
    · by_cases c2 : z (78 + 10 * r0) = 4
      · rw [decide_eq_false c1, decide_eq_true c2, if_pos (Or.inr c2)]; rfl
      · rw [decide_eq_false c1, decide_eq_false c2, if_neg (show ¬ (z (78 + 10 * r0) = 2 ∨ z (78 + 10 * r0) = 4) from fun h => h.elim c1 c2)]; rfl
  rw [e2] at h
  exact h
theorem rJc_99 {z : Nat → Int32} {M r0 : Nat} (hr : r0 < M) (hM : M ≤ 32) : fb_ct (rJc z r0) M + (if z (78 + 10 * r0) = 4 then 1 else 0) = fb_ct (rJc z 99) M := by
  have h := fb_ct_upd (rJc z 99) false hr
  have e : fb_ct (fun k => if k = r0 then false else rJc z 99 k) M = fb_ct (rJc z r0) M := fb_ct_cong (fun r hr => by
    unfold rJc
    by_cases e : r = r0
    · rw [if_pos e, decide_eq_true e, Bool.not_true, Bool.false_and]
    · rw [if_neg e, decide_eq_false e, decide_eq_false (show ¬ r = 99 by omega)])
  rw [e] at h
  have e2 : (if rJc z 99 r0 = true then 1 else 0) = (if z (78 + 10 * r0) = 4 then 1 else 0) := by
    unfold rJc
    rw [decide_eq_false (show ¬ r0 = 99 by omega), Bool.not_false, Bool.true_and]
    by_cases c2 : z (78 + 10 * r0) = 4
    · rw [decide_eq_true c2, if_pos c2]; rfl
    · rw [decide_eq_false c2, if_neg c2]; rfl
  rw [e2] at h
  simpa using h
/-- a request that is open is taken on its way -/
theorem Rel_op {b : Nat} {m : Mem} {z : Nat → Int32} {M r0 : Nat} (h : Rel b m z M 99) (hr : r0 < M) (hM : M ≤ 32) (hs : ¬ z (78 + 10 * r0) = 2 ∧ ¬ z (78 + 10 * r0) = 4) : Rel b m z M r0 := by
  obtain ⟨h1, h2, h3, h4, h5⟩ := h
  have e1 := oPn_99 (z := z) hr hM
  have e2 := rJc_99 (z := z) hr hM
  rw [if_neg (by intro h; rcases h with h | h; exact hs.1 h; exact hs.2 h)] at e1
  rw [if_neg hs.2] at e2
  exact ⟨h1, fun r hr' g hg _ => h2 r hr' g hg (fun e => by omega), fun r hr' _ => h3 r hr' (by omega), ⟨by rw [h4.1]; congr 1; omega, by rw [h4.2]; congr 1; omega⟩, h5⟩
/-- its way ends: open, refused for good, or done -/
theorem Rel_cl {b : Nat} {m : Mem} {z : Nat → Int32} {M r0 : Nat} (h : Rel b m z M r0) (hr : r0 < M) (hM : M ≤ 32) (hs : m (b + 27 + r0) 4 = z (78 + 10 * r0)) (hp : m (b + 27 + r0) 5 = z (79 + 10 * r0)) (ht : z (78 + 10 * r0) = 2 ∨ z (78 + 10 * r0) = 3 → m (b + 27 + r0) 10 = z (83 + 10 * r0)) (ha : z (78 + 10 * r0) = 0 → m (b + 27 + r0) 9 = z (84 + 10 * r0)) (ho : ¬ z (78 + 10 * r0) = 2 ∧ ¬ z (78 + 10 * r0) = 4) : Rel b m z M 99 := by
  obtain ⟨h1, h2, h3, h4, h5⟩ := h
  have e1 := oPn_99 (z := z) hr hM
  have e2 := rJc_99 (z := z) hr hM
  rw [if_neg (by intro h; rcases h with h | h; exact ho.1 h; exact ho.2 h)] at e1
  rw [if_neg ho.2] at e2
  refine ⟨h1, fun r hr' g hg _ => ?_, fun r hr' _ => ?_, ⟨by rw [h4.1]; congr 1; omega, by rw [h4.2]; congr 1⟩, h5⟩
  · by_cases e : r = r0 ∧ (g = 3 ∨ g = 4)
    · obtain ⟨e3, e4 | e4⟩ := e
      · subst e3; subst e4
        rw [show 75 + 10 * r + 3 = 78 + 10 * r by omega]; exact hs
      · subst e3; subst e4
        rw [show 75 + 10 * r + 4 = 79 + 10 * r by omega]; exact hp
    · exact h2 r hr' g hg (fun e3 => by omega)
  · by_cases e : r = r0
    · subst e; exact ⟨ht, ha⟩
    · exact h3 r hr' e
theorem Rel_rej {b : Nat} {m : Mem} {z : Nat → Int32} {M r0 : Nat} (h : Rel b m z M r0) (hr : r0 < M) (hM : M ≤ 32) (hs : m (b + 27 + r0) 4 = 4) (hz : z (78 + 10 * r0) = 4) (hp : m (b + 27 + r0) 5 = z (79 + 10 * r0)) : Rel b (mput (mput m b 7 (m b 7 - 1)) b 8 (m b 8 + 1)) z M 99 := by
  obtain ⟨h1, h2, h3, h4, h5⟩ := h
  have e1 := oPn_99 (z := z) hr hM
  have e2 := rJc_99 (z := z) hr hM
  rw [if_pos (Or.inr hz)] at e1
  rw [if_pos hz] at e2
  have q : ∀ a s, a ≠ b → mput (mput m b 7 (m b 7 - 1)) b 8 (m b 8 + 1) a s = m a s := fun a s ha => by rw [mput_ne _ _ (Or.inl ha), mput_ne _ _ (Or.inl ha)]
  have q2 : ∀ s, s ≠ 7 → s ≠ 8 → mput (mput m b 7 (m b 7 - 1)) b 8 (m b 8 + 1) b s = m b s := fun s h1 h2 => by rw [mput_ne _ _ (Or.inr h2), mput_ne _ _ (Or.inr h1)]
  refine ⟨fun j hj => ?_, fun r hr' g hg _ => ?_, fun r hr' _ => ?_, ⟨?_, ?_⟩, fun r hr' => ?_⟩
  · rw [← h1 j hj]
    have := lo_78 j hj
    by_cases e : lo j = 0
    · rw [e, Nat.add_zero, q2 _ (by omega) (by omega)]
    · rw [q _ _ (by omega)]
  · rw [q _ _ (by omega)]
    by_cases e : r = r0 ∧ (g = 3 ∨ g = 4)
    · obtain ⟨e3, e4 | e4⟩ := e
      · subst e3; subst e4
        rw [show 75 + 10 * r + 3 = 78 + 10 * r by omega, hz]; exact hs
      · subst e3; subst e4
        rw [show 75 + 10 * r + 4 = 79 + 10 * r by omega]; exact hp
    · exact h2 r hr' g hg (fun e3 => by omega)
  · rw [q _ _ (by omega), q _ _ (by omega)]
    by_cases e : r = r0
    · subst e
      rw [hz]
      refine ⟨fun h => ?_, fun h => ?_⟩
      · exfalso; revert h; decide
      · exfalso; revert h; decide
    · exact h3 r hr' e
  · rw [mput_ne _ _ (by omega), mput_at, h4.1, show fb_ct (oPn z r0) M = fb_ct (oPn z 99) M + 1 by omega, nI_pred]
  · rw [mput_at, h4.2, nI_1]; congr 1
  · rw [q _ _ (by omega)]; exact h5 r hr'
theorem Rel_dn {b : Nat} {m : Mem} {z : Nat → Int32} {M r0 : Nat} (h : Rel b m z M r0) (hr : r0 < M) (hM : M ≤ 32) (hs : m (b + 27 + r0) 4 = 2) (hz : z (78 + 10 * r0) = 2) (hp : m (b + 27 + r0) 5 = z (79 + 10 * r0)) (ht : m (b + 27 + r0) 10 = z (83 + 10 * r0)) : Rel b (mput m b 7 (m b 7 - 1)) z M 99 := by
  obtain ⟨h1, h2, h3, h4, h5⟩ := h
  have e1 := oPn_99 (z := z) hr hM
  have e2 := rJc_99 (z := z) hr hM
  rw [if_pos (Or.inl hz)] at e1
  rw [if_neg (by rw [hz]; decide)] at e2
  have q : ∀ a s, a ≠ b → mput m b 7 (m b 7 - 1) a s = m a s := fun a s ha => by rw [mput_ne _ _ (Or.inl ha)]
  have q2 : ∀ s, s ≠ 7 → mput m b 7 (m b 7 - 1) b s = m b s := fun s h1 => by rw [mput_ne _ _ (Or.inr h1)]
  refine ⟨fun j hj => ?_, fun r hr' g hg _ => ?_, fun r hr' _ => ?_, ⟨?_, ?_⟩, fun r hr' => ?_⟩
  · rw [← h1 j hj]
    have := lo_78 j hj
    by_cases e : lo j = 0
    · rw [e, Nat.add_zero, q2 _ (by omega)]
    · rw [q _ _ (by omega)]
  · rw [q _ _ (by omega)]
    by_cases e : r = r0 ∧ (g = 3 ∨ g = 4)
    · obtain ⟨e3, e4 | e4⟩ := e
      · subst e3; subst e4
        rw [show 75 + 10 * r + 3 = 78 + 10 * r by omega, hz]; exact hs
      · subst e3; subst e4
        rw [show 75 + 10 * r + 4 = 79 + 10 * r by omega]; exact hp
    · exact h2 r hr' g hg (fun e3 => by omega)
  · rw [q _ _ (by omega), q _ _ (by omega)]
    by_cases e : r = r0
    · subst e
      exact ⟨fun _ => ht, fun h => by rw [hz] at h; exfalso; revert h; decide⟩
    · exact h3 r hr' e
  · rw [mput_at, h4.1, show fb_ct (oPn z r0) M = fb_ct (oPn z 99) M + 1 by omega, nI_pred]
  · rw [mput_ne _ _ (by omega), h4.2]; congr 1
  · rw [q _ _ (by omega)]; exact h5 r hr'
/-! reading and writing, in the functions' own words -/
theorem v_set {b : Nat} {m : Mem} {z : Nat → Int32} {M r0 : Nat} (h : Rel b m z M r0) {i : Nat} (hi : i < 4) : m (b + 1 + 1) i = z (i) := by
  have e := h.1 (i) (by omega)
  rw [(lo_set i hi).1, (lo_set i hi).2] at e
  exact e
theorem wr_set {b : Nat} {m : Mem} {z : Nat → Int32} {M r0 : Nat} (v : Int32) (h : Rel b m z M r0) {i : Nat} (hi : i < 4) : Rel b (mput m (b + 1 + 1) i v) (upd z (i) v) M r0 := by
  have e := Rel_lo (i := i) v h (by omega)
  rw [(lo_set i hi).1, (lo_set i hi).2] at e
  exact e
theorem v_cls {b : Nat} {m : Mem} {z : Nat → Int32} {M r0 : Nat} (h : Rel b m z M r0) {k i : Nat} (hk : k < 3) (hi : i < 4) : m (b + (5 + 7 * k) + 1 + 1) i = z (4 + 4 * k + i) := by
  have e := h.1 (4 + 4 * k + i) (by omega)
  rw [(lo_cls k hk i hi).1, (lo_cls k hk i hi).2] at e
  exact e
theorem wr_cls {b : Nat} {m : Mem} {z : Nat → Int32} {M r0 : Nat} (v : Int32) (h : Rel b m z M r0) {k i : Nat} (hk : k < 3) (hi : i < 4) : Rel b (mput m (b + (5 + 7 * k) + 1 + 1) i v) (upd z (4 + 4 * k + i) v) M r0 := by
  have e := Rel_lo (i := 4 + 4 * k + i) v h (by omega)
  rw [(lo_cls k hk i hi).1, (lo_cls k hk i hi).2] at e
  exact e
theorem v_tok {b : Nat} {m : Mem} {z : Nat → Int32} {M r0 : Nat} (h : Rel b m z M r0) {k : Nat} (hk : k < 3) : m (b + (5 + 7 * k)) 4 = z (16 + k) := by
  have e := h.1 (16 + k) (by omega)
  rw [(lo_tok k hk).1, (lo_tok k hk).2] at e
  exact e
theorem wr_tok {b : Nat} {m : Mem} {z : Nat → Int32} {M r0 : Nat} (v : Int32) (h : Rel b m z M r0) {k : Nat} (hk : k < 3) : Rel b (mput m (b + (5 + 7 * k)) 4 v) (upd z (16 + k) v) M r0 := by
  have e := Rel_lo (i := 16 + k) v h (by omega)
  rw [(lo_tok k hk).1, (lo_tok k hk).2] at e
  exact e
theorem v_pass {b : Nat} {m : Mem} {z : Nat → Int32} {M r0 : Nat} (h : Rel b m z M r0) {k : Nat} (hk : k < 3) : m (b + (5 + 7 * k)) 5 = z (19 + k) := by
  have e := h.1 (19 + k) (by omega)
  rw [(lo_pass k hk).1, (lo_pass k hk).2] at e
  exact e
theorem wr_pass {b : Nat} {m : Mem} {z : Nat → Int32} {M r0 : Nat} (v : Int32) (h : Rel b m z M r0) {k : Nat} (hk : k < 3) : Rel b (mput m (b + (5 + 7 * k)) 5 v) (upd z (19 + k) v) M r0 := by
  have e := Rel_lo (i := 19 + k) v h (by omega)
  rw [(lo_pass k hk).1, (lo_pass k hk).2] at e
  exact e
theorem v_wk {b : Nat} {m : Mem} {z : Nat → Int32} {M r0 : Nat} (h : Rel b m z M r0) {k : Nat} (hk : k < 3) : m (b + (5 + 7 * k)) 6 = z (22 + k) := by
  have e := h.1 (22 + k) (by omega)
  rw [(lo_wk k hk).1, (lo_wk k hk).2] at e
  exact e
theorem wr_wk {b : Nat} {m : Mem} {z : Nat → Int32} {M r0 : Nat} (v : Int32) (h : Rel b m z M r0) {k : Nat} (hk : k < 3) : Rel b (mput m (b + (5 + 7 * k)) 6 v) (upd z (22 + k) v) M r0 := by
  have e := Rel_lo (i := 22 + k) v h (by omega)
  rw [(lo_wk k hk).1, (lo_wk k hk).2] at e
  exact e
theorem v_len {b : Nat} {m : Mem} {z : Nat → Int32} {M r0 : Nat} (h : Rel b m z M r0) {k : Nat} (hk : k < 3) : m (b + (5 + 7 * k)) 3 = z (25 + k) := by
  have e := h.1 (25 + k) (by omega)
  rw [(lo_len k hk).1, (lo_len k hk).2] at e
  exact e
theorem wr_len {b : Nat} {m : Mem} {z : Nat → Int32} {M r0 : Nat} (v : Int32) (h : Rel b m z M r0) {k : Nat} (hk : k < 3) : Rel b (mput m (b + (5 + 7 * k)) 3 v) (upd z (25 + k) v) M r0 := by
  have e := Rel_lo (i := 25 + k) v h (by omega)
  rw [(lo_len k hk).1, (lo_len k hk).2] at e
  exact e
theorem v_que {b : Nat} {m : Mem} {z : Nat → Int32} {M r0 : Nat} (h : Rel b m z M r0) {k p : Nat} (hk : k < 3) (hp : p < 8) : m (b + (5 + 7 * k) + 5 + 1) p = z (28 + 8 * k + p) := by
  have e := h.1 (28 + 8 * k + p) (by omega)
  rw [(lo_que k hk p hp).1, (lo_que k hk p hp).2] at e
  exact e
theorem wr_que {b : Nat} {m : Mem} {z : Nat → Int32} {M r0 : Nat} (v : Int32) (h : Rel b m z M r0) {k p : Nat} (hk : k < 3) (hp : p < 8) : Rel b (mput m (b + (5 + 7 * k) + 5 + 1) p v) (upd z (28 + 8 * k + p) v) M r0 := by
  have e := Rel_lo (i := 28 + 8 * k + p) v h (by omega)
  rw [(lo_que k hk p hp).1, (lo_que k hk p hp).2] at e
  exact e
theorem v_ref {b : Nat} {m : Mem} {z : Nat → Int32} {M r0 : Nat} (h : Rel b m z M r0) {k j : Nat} (hk : k < 3) (hj : j < 5) : m (b + (5 + 7 * k) + 3 + 1) (j + 1) = z (52 + 5 * k + j) := by
  have e := h.1 (52 + 5 * k + j) (by omega)
  rw [(lo_ref k hk j hj).1, (lo_ref k hk j hj).2] at e
  exact e
theorem wr_ref {b : Nat} {m : Mem} {z : Nat → Int32} {M r0 : Nat} (v : Int32) (h : Rel b m z M r0) {k j : Nat} (hk : k < 3) (hj : j < 5) : Rel b (mput m (b + (5 + 7 * k) + 3 + 1) (j + 1) v) (upd z (52 + 5 * k + j) v) M r0 := by
  have e := Rel_lo (i := 52 + 5 * k + j) v h (by omega)
  rw [(lo_ref k hk j hj).1, (lo_ref k hk j hj).2] at e
  exact e
theorem v_est {b : Nat} {m : Mem} {z : Nat → Int32} {M r0 : Nat} (h : Rel b m z M r0) {s : Nat} (hs : s < 5) : m (b + 3 + 1) s = z (70 + s) := by
  have e := h.1 (70 + s) (by omega)
  rw [(lo_est s hs).1, (lo_est s hs).2] at e
  exact e
theorem wr_est {b : Nat} {m : Mem} {z : Nat → Int32} {M r0 : Nat} (v : Int32) (h : Rel b m z M r0) {s : Nat} (hs : s < 5) : Rel b (mput m (b + 3 + 1) s v) (upd z (70 + s) v) M r0 := by
  have e := Rel_lo (i := 70 + s) v h (by omega)
  rw [(lo_est s hs).1, (lo_est s hs).2] at e
  exact e
theorem v_cnt {b : Nat} {m : Mem} {z : Nat → Int32} {M r0 : Nat} (h : Rel b m z M r0) : m b 6 = z 69 := h.1 69 (by omega)
theorem wr_cnt {b : Nat} {m : Mem} {z : Nat → Int32} {M r0 : Nat} (v : Int32) (h : Rel b m z M r0) : Rel b (mput m b 6 v) (upd z 69 v) M r0 := Rel_lo (i := 69) v h (by omega)
theorem v_clk {b : Nat} {m : Mem} {z : Nat → Int32} {M r0 : Nat} (h : Rel b m z M r0) : m b 9 = z 67 := h.1 67 (by omega)
theorem wr_clk {b : Nat} {m : Mem} {z : Nat → Int32} {M r0 : Nat} (v : Int32) (h : Rel b m z M r0) : Rel b (mput m b 9 v) (upd z 67 v) M r0 := Rel_lo (i := 67) v h (by omega)
theorem v_idl {b : Nat} {m : Mem} {z : Nat → Int32} {M r0 : Nat} (h : Rel b m z M r0) : m b 10 = z 68 := h.1 68 (by omega)
theorem wr_idl {b : Nat} {m : Mem} {z : Nat → Int32} {M r0 : Nat} (v : Int32) (h : Rel b m z M r0) : Rel b (mput m b 10 v) (upd z 68 v) M r0 := Rel_lo (i := 68) v h (by omega)
theorem v_knd {b : Nat} {m : Mem} {z : Nat → Int32} {M r0 r : Nat} (h : Rel b m z M r0) (hr : r < M) : m (b + 27 + r) 1 = z (75 + 10 * r) := by
  have e := h.2.1 r hr 0 (by omega) (fun _ => by omega)
  rw [show 75 + 10 * r + 0 = 75 + 10 * r by omega] at e
  exact e
theorem wr_knd {b : Nat} {m : Mem} {z : Nat → Int32} {M r0 : Nat} (v : Int32) (r : Nat) (h : Rel b m z M r0) : Rel b (mput m (b + 27 + r) 1 v) (upd z (75 + 10 * r) v) M r0 := by
  have e := Rel_rq (r := r) (g := 0) v h (by omega) (by omega)
  rw [show 75 + 10 * r + 0 = 75 + 10 * r by omega] at e
  exact e
theorem v_shp {b : Nat} {m : Mem} {z : Nat → Int32} {M r0 r : Nat} (h : Rel b m z M r0) (hr : r < M) : m (b + 27 + r) 2 = z (76 + 10 * r) := by
  have e := h.2.1 r hr 1 (by omega) (fun _ => by omega)
  rw [show 75 + 10 * r + 1 = 76 + 10 * r by omega] at e
  exact e
theorem wr_shp {b : Nat} {m : Mem} {z : Nat → Int32} {M r0 : Nat} (v : Int32) (r : Nat) (h : Rel b m z M r0) : Rel b (mput m (b + 27 + r) 2 v) (upd z (76 + 10 * r) v) M r0 := by
  have e := Rel_rq (r := r) (g := 1) v h (by omega) (by omega)
  rw [show 75 + 10 * r + 1 = 76 + 10 * r by omega] at e
  exact e
theorem v_cst {b : Nat} {m : Mem} {z : Nat → Int32} {M r0 r : Nat} (h : Rel b m z M r0) (hr : r < M) : m (b + 27 + r) 3 = z (77 + 10 * r) := by
  have e := h.2.1 r hr 2 (by omega) (fun _ => by omega)
  rw [show 75 + 10 * r + 2 = 77 + 10 * r by omega] at e
  exact e
theorem wr_cst {b : Nat} {m : Mem} {z : Nat → Int32} {M r0 : Nat} (v : Int32) (r : Nat) (h : Rel b m z M r0) : Rel b (mput m (b + 27 + r) 3 v) (upd z (77 + 10 * r) v) M r0 := by
  have e := Rel_rq (r := r) (g := 2) v h (by omega) (by omega)
  rw [show 75 + 10 * r + 2 = 77 + 10 * r by omega] at e
  exact e
theorem v_sta {b : Nat} {m : Mem} {z : Nat → Int32} {M r0 r : Nat} (h : Rel b m z M r0) (hr : r < M) (hx : r ≠ r0) : m (b + 27 + r) 4 = z (78 + 10 * r) := by
  have e := h.2.1 r hr 3 (by omega) (fun e => absurd e hx)
  rw [show 75 + 10 * r + 3 = 78 + 10 * r by omega] at e
  exact e
theorem v_prc {b : Nat} {m : Mem} {z : Nat → Int32} {M r0 r : Nat} (h : Rel b m z M r0) (hr : r < M) (hx : r ≠ r0) : m (b + 27 + r) 5 = z (79 + 10 * r) := by
  have e := h.2.1 r hr 4 (by omega) (fun e => absurd e hx)
  rw [show 75 + 10 * r + 4 = 79 + 10 * r by omega] at e
  exact e
theorem wr_prc {b : Nat} {m : Mem} {z : Nat → Int32} {M r0 : Nat} (v : Int32) (r : Nat) (h : Rel b m z M r0) : Rel b (mput m (b + 27 + r) 5 v) (upd z (79 + 10 * r) v) M r0 := by
  have e := Rel_rq (r := r) (g := 4) v h (by omega) (by omega)
  rw [show 75 + 10 * r + 4 = 79 + 10 * r by omega] at e
  exact e
theorem v_unt {b : Nat} {m : Mem} {z : Nat → Int32} {M r0 r : Nat} (h : Rel b m z M r0) (hr : r < M) : m (b + 27 + r) 6 = z (80 + 10 * r) := by
  have e := h.2.1 r hr 5 (by omega) (fun _ => by omega)
  rw [show 75 + 10 * r + 5 = 80 + 10 * r by omega] at e
  exact e
theorem wr_unt {b : Nat} {m : Mem} {z : Nat → Int32} {M r0 : Nat} (v : Int32) (r : Nat) (h : Rel b m z M r0) : Rel b (mput m (b + 27 + r) 6 v) (upd z (80 + 10 * r) v) M r0 := by
  have e := Rel_rq (r := r) (g := 5) v h (by omega) (by omega)
  rw [show 75 + 10 * r + 5 = 80 + 10 * r by omega] at e
  exact e
theorem v_ofr {b : Nat} {m : Mem} {z : Nat → Int32} {M r0 r : Nat} (h : Rel b m z M r0) (hr : r < M) : m (b + 27 + r) 7 = z (81 + 10 * r) := by
  have e := h.2.1 r hr 6 (by omega) (fun _ => by omega)
  rw [show 75 + 10 * r + 6 = 81 + 10 * r by omega] at e
  exact e
theorem wr_ofr {b : Nat} {m : Mem} {z : Nat → Int32} {M r0 : Nat} (v : Int32) (r : Nat) (h : Rel b m z M r0) : Rel b (mput m (b + 27 + r) 7 v) (upd z (81 + 10 * r) v) M r0 := by
  have e := Rel_rq (r := r) (g := 6) v h (by omega) (by omega)
  rw [show 75 + 10 * r + 6 = 81 + 10 * r by omega] at e
  exact e
theorem v_rea {b : Nat} {m : Mem} {z : Nat → Int32} {M r0 r : Nat} (h : Rel b m z M r0) (hr : r < M) : m (b + 27 + r) 8 = z (82 + 10 * r) := by
  have e := h.2.1 r hr 7 (by omega) (fun _ => by omega)
  rw [show 75 + 10 * r + 7 = 82 + 10 * r by omega] at e
  exact e
theorem wr_rea {b : Nat} {m : Mem} {z : Nat → Int32} {M r0 : Nat} (v : Int32) (r : Nat) (h : Rel b m z M r0) : Rel b (mput m (b + 27 + r) 8 v) (upd z (82 + 10 * r) v) M r0 := by
  have e := Rel_rq (r := r) (g := 7) v h (by omega) (by omega)
  rw [show 75 + 10 * r + 7 = 82 + 10 * r by omega] at e
  exact e
/-! the class's leaves by value -/
theorem at_v {fu o n i : Nat} {m : Mem} (h : i < n) (hn : n < 2 ^ 31) : F_X3_at fu o n (nI i) m = some (m (o + 1) i, m) := by
  unfold F_X3_at
  rw [if_neg (nI_pos (by omega)), if_neg (nI_ge h hn), inb_nI h hn, gd_t, tn _ (by omega)]
theorem at_0 {fu o n : Nat} {m : Mem} (h : 0 < n) (hn : n < 2 ^ 31) : F_X3_at fu o n 0 m = some (m (o + 1) 0, m) := at_v (i := 0) h hn
theorem at_1 {fu o n : Nat} {m : Mem} (h : 1 < n) (hn : n < 2 ^ 31) : F_X3_at fu o n 1 m = some (m (o + 1) 1, m) := at_v (i := 1) h hn
theorem at_2 {fu o n : Nat} {m : Mem} (h : 2 < n) (hn : n < 2 ^ 31) : F_X3_at fu o n 2 m = some (m (o + 1) 2, m) := at_v (i := 2) h hn
theorem at_3 {fu o n : Nat} {m : Mem} (h : 3 < n) (hn : n < 2 ^ 31) : F_X3_at fu o n 3 m = some (m (o + 1) 3, m) := at_v (i := 3) h hn
theorem pt_v {fu o n i : Nat} {v : Int32} {m : Mem} (h : i < n) (hn : n < 2 ^ 31) : F_X3_put fu o n (nI i) v m = some (mput m (o + 1) i v) := by
  unfold F_X3_put
  rw [if_neg (nI_pos (by omega)), if_neg (nI_ge h hn), inb_nI h hn, gd_t, bd_s, tn _ (by omega)]
theorem ln_v {fu b k : Nat} {m : Mem} (hk : k < 3) : F_X4_lane fu b (nI k) m = some (some (b + (5 + 7 * k)), m) := by
  unfold F_X4_lane
  rcases (show k = 0 ∨ k = 1 ∨ k = 2 by omega) with rfl | rfl | rfl
  · rw [if_pos (show nI 0 = 0 from rfl)]
  · rw [if_neg (by decide), if_pos (show nI 1 = 1 from rfl)]
  · rw [if_neg (by decide), if_neg (by decide)]
theorem fd_v {fu b r M : Nat} {m : Mem} (hr : r < M) (hM : M ≤ 32) (hm : m b 6 = nI M) : F_X4_find fu b (nI r) m = some (some (b + 27 + r), m) := by
  unfold F_X4_find
  rw [if_neg (nI_pos (by omega)), hm, if_neg (nI_ge hr (by omega)), if_neg (nI_ge (show r < 32 by omega) (by omega)), inb_nI (by omega) (by omega), gd_t, tn _ (by omega)]
