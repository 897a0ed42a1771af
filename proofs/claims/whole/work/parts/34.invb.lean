theorem zShift_at (k : Nat) : ∀ (n p : Nat) (z : Nat → Int32) (i : Nat), zShift z k p n i = if 28 + 8 * k + p ≤ i ∧ i < 28 + 8 * k + p + n then z (i + 1) else z i := by
  intro n
  induction n with
  | zero =>
    intro p z i
    rw [zShift, if_neg (by omega)]
  | succ n ih =>
    intro p z i
    rw [zShift, ih]
    by_cases e : i = 28 + 8 * k + p
    · subst e
      rw [if_neg (by omega), if_pos (by omega), upd_s]
      rfl
    · by_cases e2 : 28 + 8 * k + (p + 1) ≤ i ∧ i < 28 + 8 * k + (p + 1) + n
      · rw [if_pos e2, if_pos (by omega), upd_n _ _ (by omega)]
      · rw [if_neg e2, if_neg (by omega), upd_n _ _ e]
theorem zLeave_at {z : Nat → Int32} {k p : Nat} (i : Nat) (hk : k < 3) : zLeave z k p i = if i = 25 + k then z (25 + k) - 1 else if 28 + 8 * k + p ≤ i ∧ i < 28 + 8 * k + p + (ln z k - 1 - p) then z (i + 1) else z i := by
  unfold zLeave
  rw [zShift_at]
  by_cases e : i = 25 + k
  · subst e
    rw [if_neg (by omega), if_pos rfl, upd_s]
  · rw [if_neg e]
    by_cases e2 : 28 + 8 * k + p ≤ i ∧ i < 28 + 8 * k + p + (ln z k - 1 - p)
    · rw [if_pos e2, if_pos e2, upd_n _ _ (by omega)]
    · rw [if_neg e2, if_neg e2, upd_n _ _ e]
theorem zLeave_o {z : Nat → Int32} {k p i : Nat} (hk : k < 3) (hL : ln z k ≤ 8) (hp : p < ln z k) (hi : i < 25 ∨ (25 ≤ i ∧ i < 28 ∧ i ≠ 25 + k) ∨ 52 ≤ i) : zLeave z k p i = z i := by
  rw [zLeave_at i hk, if_neg (by omega), if_neg (by omega)]
theorem zLeave_len {z : Nat → Int32} {k p L : Nat} (hk : k < 3) (hl : z (25 + k) = nI (L + 1)) : zLeave z k p (25 + k) = nI L := by
  rw [zLeave_at _ hk, if_pos rfl, hl, nI_pred]
theorem zLeave_q {z : Nat → Int32} {k p L : Nat} (hk : k < 3) (hL : ln z k = L + 1) (hL8 : L < 8) (k' p' : Nat) (hk' : k' < 3) (hp' : p' < 8) : zLeave z k p (28 + 8 * k' + p') = if k' = k ∧ p ≤ p' ∧ p' < L then z (28 + 8 * k' + (p' + 1)) else z (28 + 8 * k' + p') := by
  rw [zLeave_at _ hk, if_neg (by omega), hL]
  by_cases e : k' = k ∧ p ≤ p' ∧ p' < L
  · rw [if_pos e, if_pos (by obtain ⟨e1, e2, e3⟩ := e; subst e1; omega)]
    rfl
  · rw [if_neg e, if_neg]
    intro h
    apply e
    have h1 : k' = k := by omega
    subst h1
    exact ⟨rfl, by omega, by omega⟩
/-- one leaves the queue k, at the place p -/
theorem Inv_leave {z : Nat → Int32} {M c B k p q : Nat} (h : Inv z M c B 99) (hk : k < 3) (hp : p < ln z k) (hq : z (28 + 8 * k + p) = nI q) (hq2 : q < M) : Inv (zLeave z k p) M c B q ∧ ln (zLeave z k p) k = ln z k - 1 := by
  obtain ⟨a1, a2, a3, a4, a5, a6⟩ := h
  have hM := a1.2.1
  obtain ⟨x1, x2, x3⟩ := a3 k hk
  obtain ⟨L, hL⟩ : ∃ L, ln z k = L + 1 := ⟨ln z k - 1, by omega⟩
  have hl : z (25 + k) = nI (L + 1) := by rw [x1, hL]
  have e0 := zLeave_len (p := p) hk hl
  have el : ln (zLeave z k p) k = L := by
    unfold ln
    rw [e0, tn _ (by omega)]
  have oth : ∀ i, i < 25 ∨ (25 ≤ i ∧ i < 28 ∧ i ≠ 25 + k) ∨ 52 ≤ i → zLeave z k p i = z i := fun i hi => zLeave_o hk x2 hp hi
  have len' : ∀ k', k' < 3 → k' ≠ k → ln (zLeave z k p) k' = ln z k' := fun k' hk' e => ln_c (oth _ (by omega))
  -- where an entry was
  have was : ∀ k', k' < 3 → ∀ p', p' < ln (zLeave z k p) k' → ∃ p'', p'' < ln z k' ∧ zLeave z k p (28 + 8 * k' + p') = z (28 + 8 * k' + p'') ∧ ¬ (k' = k ∧ p'' = p) ∧ (p'' = p' ∧ ¬ (k' = k ∧ p ≤ p') ∨ p'' = p' + 1 ∧ k' = k ∧ p ≤ p') := by
    intro k' hk' p' hp'
    have hL8 := IQ_L a3 k' hk'
    by_cases e : k' = k
    · subst e
      rw [el] at hp'
      rw [zLeave_q hk hL (by omega) k' p' hk' (by omega)]
      by_cases e2 : p ≤ p'
      · rw [if_pos ⟨rfl, e2, hp'⟩]
        exact ⟨p' + 1, by omega, rfl, by omega, Or.inr ⟨rfl, rfl, e2⟩⟩
      · rw [if_neg (by omega)]
        exact ⟨p', by omega, rfl, by omega, Or.inl ⟨rfl, by omega⟩⟩
    · rw [len' k' hk' e] at hp'
      rw [zLeave_q hk hL (by omega) k' p' hk' (by omega), if_neg (by omega)]
      exact ⟨p', hp', rfl, by omega, Or.inl ⟨rfl, by omega⟩⟩
  refine ⟨⟨IC_c (oth _ (by omega)) (oth _ (by omega)) a1, IS_c (fun i hi => oth _ (by omega)) (fun s hs => oth _ (by omega)) a2, ?_, ?_, ?_, IP_c (fun i hi => oth _ (by omega)) a6⟩, by rw [el, hL]; rfl⟩
  · intro k' hk'
    have hL8 := IQ_L a3 k' hk'
    refine ⟨?_, ?_, fun p' hp' => ?_⟩
    · by_cases e : k' = k
      · subst e; rw [e0, el]
      · rw [len' k' hk' e, oth _ (by omega)]; exact (a3 k' hk').1
    · by_cases e : k' = k
      · subst e; omega
      · rw [len' k' hk' e]; exact hL8
    · obtain ⟨p'', b1, b2, b3, -⟩ := was k' hk' p' hp'
      obtain ⟨q', c1, c2, c3, c4⟩ := (a3 k' hk').2.2 p'' b1
      refine ⟨q', c1, fun e => b3 ?_, by rw [b2]; exact c3, by rw [oth _ (by omega)]; exact c4⟩
      subst e
      exact a4 k' k hk' hk p'' p b1 hp (c3.trans hq.symm)
  · intro k1 k2 hk1 hk2 p1 p2 hp1 hp2 e
    obtain ⟨u1, b1, b2, b3, b4⟩ := was k1 hk1 p1 hp1
    obtain ⟨u2, d1, d2, d3, d4⟩ := was k2 hk2 p2 hp2
    have := a4 k1 k2 hk1 hk2 u1 u2 b1 d1 (b2.symm.trans (e.trans d2))
    omega
  · intro r hr
    obtain ⟨y1, y2, y3, y4⟩ := a5 r hr
    rw [oth _ (by omega), oth _ (by omega), oth _ (by omega), oth _ (by omega), oth _ (by omega), oth _ (by omega)]
    exact ⟨y1, y2, y3, fun _ => y4 (by omega)⟩
/-- a request that is in no queue comes to the end of the queue k -/
theorem Inv_join {z : Nat → Int32} {M c B k r : Nat} (h : Inv z M c B r) (hk : k < 3) (hr : r < M) (hL : ln z k < 8) (hp : rng (z (79 + 10 * r)) 0 60) : Inv (zJoin z r k) M c B 99 ∧ ln (zJoin z r k) k = ln z k + 1 := by
  obtain ⟨a1, a2, a3, a4, a5, a6⟩ := h
  have hM := a1.2.1
  obtain ⟨x1, x2, x3⟩ := a3 k hk
  generalize hLe : ln z k = L at *
  have e25 : zJoin z r k (25 + k) = nI (L + 1) := by
    unfold zJoin
    rw [upd_n _ _ (by omega), upd_n _ _ (by omega), upd_n _ _ (by omega), upd_s, x1, nI_1]
  have eq : zJoin z r k (28 + 8 * k + L) = nI r := by
    unfold zJoin
    rw [upd_n _ _ (by omega), upd_n _ _ (by omega), upd_n _ _ (by omega), upd_n _ _ (by omega), hLe, upd_s]
  have oth : ∀ i, i ≠ 25 + k → i ≠ 28 + 8 * k + L → i ≠ 78 + 10 * r → i ≠ 84 + 10 * r → i ≠ 83 + 10 * r → zJoin z r k i = z i := by
    intro i h1 h2 h3 h4 h5
    unfold zJoin
    rw [upd_n _ _ h5, upd_n _ _ h4, upd_n _ _ h3, upd_n _ _ h1, hLe, upd_n _ _ h2]
  have e78 : zJoin z r k (78 + 10 * r) = 0 := by
    unfold zJoin
    rw [upd_n _ _ (by omega), upd_n _ _ (by omega), upd_s]
  have e83 : zJoin z r k (83 + 10 * r) = -100005 := by
    unfold zJoin
    rw [upd_s]
  have el : ln (zJoin z r k) k = L + 1 := by
    unfold ln
    rw [e25, tn _ (by omega)]
  have len' : ∀ k', k' < 3 → k' ≠ k → ln (zJoin z r k) k' = ln z k' := fun k' hk' e => ln_c (oth _ (by omega) (by omega) (by omega) (by omega) (by omega))
  have ent : ∀ k', k' < 3 → ∀ p, p < ln (zJoin z r k) k' → (k' = k ∧ p = L ∧ zJoin z r k (28 + 8 * k' + p) = nI r) ∨ (p < ln z k' ∧ zJoin z r k (28 + 8 * k' + p) = z (28 + 8 * k' + p)) := by
    intro k' hk' p hp'
    have hL8 := IQ_L a3 k' hk'
    by_cases e : k' = k
    · subst e
      rw [el] at hp'
      by_cases e2 : p = L
      · subst e2; exact Or.inl ⟨rfl, rfl, eq⟩
      · exact Or.inr ⟨by omega, oth _ (by omega) (by omega) (by omega) (by omega) (by omega)⟩
    · rw [len' k' hk' e] at hp'
      exact Or.inr ⟨hp', oth _ (by omega) (by omega) (by omega) (by omega) (by omega)⟩
  refine ⟨⟨IC_c (oth _ (by omega) (by omega) (by omega) (by omega) (by omega)) (oth _ (by omega) (by omega) (by omega) (by omega) (by omega)) a1, IS_c (fun i hi => oth _ (by omega) (by omega) (by omega) (by omega) (by omega)) (fun s hs => oth _ (by omega) (by omega) (by omega) (by omega) (by omega)) a2, ?_, ?_, ?_, IP_c (fun i hi => oth _ (by omega) (by omega) (by omega) (by omega) (by omega)) a6⟩, el⟩
  · intro k' hk'
    refine ⟨?_, ?_, fun p hp' => ?_⟩
    · by_cases e : k' = k
      · subst e; rw [e25, el]
      · rw [len' k' hk' e, oth _ (by omega) (by omega) (by omega) (by omega) (by omega)]; exact (a3 k' hk').1
    · by_cases e : k' = k
      · subst e; omega
      · rw [len' k' hk' e]; exact IQ_L a3 k' hk'
    · rcases ent k' hk' p hp' with ⟨-, -, e⟩ | ⟨e1, e2⟩
      · exact ⟨r, hr, by omega, e, Or.inl e78⟩
      · obtain ⟨q, c1, c2, c3, c4⟩ := (a3 k' hk').2.2 p e1
        refine ⟨q, c1, by omega, by rw [e2]; exact c3, ?_⟩
        rw [oth _ (by omega) (by omega) (by omega) (by omega) (by omega)]
        exact c4
  · intro k1 k2 hk1 hk2 p1 p2 hp1 hp2 e
    rcases ent k1 hk1 p1 hp1 with ⟨u1, u2, u3⟩ | ⟨u1, u2⟩ <;> rcases ent k2 hk2 p2 hp2 with ⟨v1, v2, v3⟩ | ⟨v1, v2⟩
    · omega
    · exfalso
      obtain ⟨q, c1, c2, c3, c4⟩ := (a3 k2 hk2).2.2 p2 v1
      rw [u3, v2, c3] at e
      exact c2 ((nI_eq (by omega) (by omega)).mp e).symm
    · exfalso
      obtain ⟨q, c1, c2, c3, c4⟩ := (a3 k1 hk1).2.2 p1 u1
      rw [u2, v3, c3] at e
      exact c2 ((nI_eq (by omega) (by omega)).mp e)
    · exact a4 k1 k2 hk1 hk2 p1 p2 u1 v1 (by rw [← u2, ← v2]; exact e)
  · intro r' hr'
    obtain ⟨y1, y2, y3, y4⟩ := a5 r' hr'
    by_cases e : r' = r
    · subst e
      rw [oth (75 + 10 * r') (by omega) (by omega) (by omega) (by omega) (by omega), oth (76 + 10 * r') (by omega) (by omega) (by omega) (by omega) (by omega), oth (77 + 10 * r') (by omega) (by omega) (by omega) (by omega) (by omega), oth (79 + 10 * r') (by omega) (by omega) (by omega) (by omega) (by omega), e78, e83]
      exact ⟨y1, y2, y3, fun _ => ⟨⟨0, by omega, by omega, rfl⟩, hp, fun _ => rfl⟩⟩
    · rw [oth (75 + 10 * r') (by omega) (by omega) (by omega) (by omega) (by omega), oth (76 + 10 * r') (by omega) (by omega) (by omega) (by omega) (by omega), oth (77 + 10 * r') (by omega) (by omega) (by omega) (by omega) (by omega), oth (79 + 10 * r') (by omega) (by omega) (by omega) (by omega) (by omega), oth (78 + 10 * r') (by omega) (by omega) (by omega) (by omega) (by omega), oth (83 + 10 * r') (by omega) (by omega) (by omega) (by omega) (by omega)]
      exact ⟨y1, y2, y3, fun _ => y4 e⟩
theorem zLst_in (z : Nat → Int32) (k : Nat) : ∀ j, zLst z k j = -100005 ∨ ∃ i, i < j ∧ zLst z k j = z (19 + i)
  | 0 => Or.inl rfl
  | j + 1 => by
    have ih := zLst_in z k j
    have up : (zLst z k j = -100005 ∨ ∃ i, i < j + 1 ∧ zLst z k j = z (19 + i)) := ih.imp id (fun ⟨i, h1, h2⟩ => ⟨i, by omega, h2⟩)
    rw [zLst]
    split
    · exact up
    · split
      · exact up
      · split
        · exact Or.inr ⟨j, by omega, rfl⟩
        · split
          · exact up
          · exact Or.inr ⟨j, by omega, rfl⟩
theorem Inv_pass {z : Nat → Int32} {M c B r0 k : Nat} {v : Int32} (h : Inv z M c B r0) (hk : k < 3) (hv : rng v 0 B) : Inv (upd z (19 + k) v) M c B r0 := by
  obtain ⟨a1, a2, a3, a4, a5, a6⟩ := h
  refine ⟨IC_c (upd_n _ _ (by omega)) (upd_n _ _ (by omega)) a1, IS_c (fun i hi => upd_n _ _ (by omega)) (fun s hs => upd_n _ _ (by omega)) a2, IQ_c (fun i _ hi => upd_n _ _ (by omega)) (fun r hr _ e => by rw [upd_n _ _ (by omega)]; exact e) a3, ID_c (fun i _ hi => upd_n _ _ (by omega)) (IQ_L a3) a4, IR_c (fun r hr g hg => upd_n _ _ (by omega)) (fun r hr => upd_n _ _ (by omega)) a5, fun j hj => ?_⟩
  by_cases e : j = k
  · subst e; rw [upd_s]; exact hv
  · rw [upd_n _ _ (by omega)]; exact a6 j hj
theorem Inv_catch {z : Nat → Int32} {M c B r0 k : Nat} (h : Inv z M c B r0) (hk : k < 3) (hB : B < 2 ^ 31) : Inv (zCatch z k) M c B r0 := by
  unfold zCatch
  split
  · split
    · exact h
    · rename_i hn
      refine Inv_pass h hk ?_
      rcases zLst_in z k 3 with e | ⟨i, hi, e⟩
      · exfalso
        apply hn
        rw [e]
        obtain ⟨n, -, h2, h3⟩ := h.2.2.2.2.2 k hk
        rw [h3, Int32.le_iff_toInt_le, nI_toInt (by omega)]
        exact Int.le_trans (by decide) (Int.natCast_nonneg n)
      · rw [e]; exact h.2.2.2.2.2 i hi
  · exact h
theorem zCatch_o {z : Nat → Int32} {k i : Nat} (h : i ≠ 19 + k) : zCatch z k i = z i := by
  unfold zCatch
  split
  · split
    · rfl
    · exact upd_n _ _ h
  · rfl
theorem Inv_admit {z : Nat → Int32} {M c B k r : Nat} (h : Inv z M c B r) (hk : k < 3) (hr : r < M) (hL : ln z k < 8) (hp : rng (z (79 + 10 * r)) 0 60) (hB : B < 2 ^ 31) : Inv (zAdmit z r k) M c B 99 := by
  unfold zAdmit
  have h1 : Inv (upd z (16 + k) (z (16 + k) - z (79 + 10 * r))) M c B r := Inv_up h (Or.inl (by omega))
  have h2 := Inv_catch h1 hk hB
  refine (Inv_join h2 hk hr ?_ ?_).1
  · rw [ln_c (z := z) (by rw [zCatch_o (by omega), upd_n _ _ (by omega)])]; exact hL
  · rw [zCatch_o (by omega), upd_n _ _ (by omega)]; exact hp
