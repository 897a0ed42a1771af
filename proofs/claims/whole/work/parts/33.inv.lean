/-! ===== what holds of the array between the calls: M requests, the clock at c, the passes at most B; the request r0 (32 and more: none) is in no queue, and its state, price and tick are open ===== -/
def rng (x : Int32) (a b : Nat) : Prop := ∃ n : Nat, a ≤ n ∧ n ≤ b ∧ x = nI n
def IC (z : Nat → Int32) (M c : Nat) : Prop := z 69 = nI M ∧ M ≤ 32 ∧ z 67 = nI c ∧ c ≤ 2000
def IS (z : Nat → Int32) : Prop := rng (z 0) 1 20 ∧ rng (z 1) 1 60 ∧ rng (z 2) 1 20 ∧ rng (z 3) 0 4 ∧ (∀ k, k < 3 → rng (z (4 + 4 * k)) 1 9 ∧ rng (z (5 + 4 * k)) 0 20 ∧ rng (z (6 + 4 * k)) 1 99 ∧ rng (z (7 + 4 * k)) 1 99) ∧ ∀ s, s < 5 → rng (z (70 + s)) 0 960
def IQ (z : Nat → Int32) (M r0 : Nat) : Prop := ∀ k, k < 3 → z (25 + k) = nI (ln z k) ∧ ln z k ≤ 8 ∧ ∀ p, p < ln z k → ∃ q, q < M ∧ q ≠ r0 ∧ z (28 + 8 * k + p) = nI q ∧ (z (78 + 10 * q) = 0 ∨ z (78 + 10 * q) = 1)
def ID (z : Nat → Int32) : Prop := ∀ k k', k < 3 → k' < 3 → ∀ p p', p < ln z k → p' < ln z k' → z (28 + 8 * k + p) = z (28 + 8 * k' + p') → k = k' ∧ p = p'
def IR (z : Nat → Int32) (M r0 : Nat) : Prop := ∀ r, r < M → rng (z (75 + 10 * r)) 0 2 ∧ rng (z (76 + 10 * r)) 0 4 ∧ rng (z (77 + 10 * r)) 1 60 ∧ (r ≠ r0 → rng (z (78 + 10 * r)) 0 4 ∧ rng (z (79 + 10 * r)) 0 60 ∧ (z (78 + 10 * r) = 0 ∨ z (78 + 10 * r) = 1 ∨ z (78 + 10 * r) = 4 → z (83 + 10 * r) = -100005))
def IP (z : Nat → Int32) (B : Nat) : Prop := ∀ k, k < 3 → rng (z (19 + k)) 0 B
def Inv (z : Nat → Int32) (M c B r0 : Nat) : Prop := IC z M c ∧ IS z ∧ IQ z M r0 ∧ ID z ∧ IR z M r0 ∧ IP z B
theorem rng_lt {x : Int32} {a b : Nat} (h : rng x a b) (hb : b < 2 ^ 31) : x = nI x.toNatClampNeg ∧ a ≤ x.toNatClampNeg ∧ x.toNatClampNeg ≤ b := by
  obtain ⟨n, h1, h2, rfl⟩ := h
  rw [tn n (by omega)]
  exact ⟨rfl, h1, h2⟩
theorem ln_c {z z' : Nat → Int32} {k : Nat} (h : z' (25 + k) = z (25 + k)) : ln z' k = ln z k := by unfold ln; rw [h]
theorem IC_c {z z' : Nat → Int32} {M c : Nat} (h1 : z' 69 = z 69) (h2 : z' 67 = z 67) (h : IC z M c) : IC z' M c := by
  unfold IC at *
  rw [h1, h2]
  exact h
theorem IS_c {z z' : Nat → Int32} (h1 : ∀ i, i < 16 → z' i = z i) (h2 : ∀ s, s < 5 → z' (70 + s) = z (70 + s)) (h : IS z) : IS z' := by
  obtain ⟨a0, a1, a2, a3, a4, a5⟩ := h
  refine ⟨by rw [h1 0 (by omega)]; exact a0, by rw [h1 1 (by omega)]; exact a1, by rw [h1 2 (by omega)]; exact a2, by rw [h1 3 (by omega)]; exact a3, fun k hk => ?_, fun s hs => by rw [h2 s hs]; exact a5 s hs⟩
  rw [h1 (4 + 4 * k) (by omega), h1 (5 + 4 * k) (by omega), h1 (6 + 4 * k) (by omega), h1 (7 + 4 * k) (by omega)]
  exact a4 k hk
theorem IQ_c {z z' : Nat → Int32} {M r0 : Nat} (h1 : ∀ i, 25 ≤ i → i < 52 → z' i = z i) (h2 : ∀ r, r < M → r ≠ r0 → (z (78 + 10 * r) = 0 ∨ z (78 + 10 * r) = 1) → (z' (78 + 10 * r) = 0 ∨ z' (78 + 10 * r) = 1)) (h : IQ z M r0) : IQ z' M r0 := by
  intro k hk
  obtain ⟨a, b, d⟩ := h k hk
  rw [ln_c (h1 (25 + k) (by omega) (by omega)), h1 (25 + k) (by omega) (by omega)]
  refine ⟨a, b, fun p hp => ?_⟩
  obtain ⟨q, e1, e2, e3, e4⟩ := d p hp
  exact ⟨q, e1, e2, by rw [h1 _ (by omega) (by omega)]; exact e3, h2 q e1 e2 e4⟩
theorem ID_c {z z' : Nat → Int32} (h1 : ∀ i, 25 ≤ i → i < 52 → z' i = z i) (hL : ∀ k, k < 3 → ln z k ≤ 8) (h : ID z) : ID z' := by
  intro k k' hk hk' p p' hp hp' e
  rw [ln_c (h1 (25 + k) (by omega) (by omega))] at hp
  rw [ln_c (h1 (25 + k') (by omega) (by omega))] at hp'
  have b1 := hL k hk
  have b2 := hL k' hk'
  rw [h1 _ (by omega) (by omega), h1 _ (by omega) (by omega)] at e
  exact h k k' hk hk' p p' hp hp' e
theorem IR_c {z z' : Nat → Int32} {M r0 : Nat} (h1 : ∀ r, r < M → ∀ g, g < 5 → z' (75 + g + 10 * r) = z (75 + g + 10 * r)) (h2 : ∀ r, r < M → z' (83 + 10 * r) = z (83 + 10 * r)) (h : IR z M r0) : IR z' M r0 := by
  intro r hr
  have e0 := h1 r hr 0 (by omega)
  have e1 := h1 r hr 1 (by omega)
  have e2 := h1 r hr 2 (by omega)
  have e3 := h1 r hr 3 (by omega)
  have e4 := h1 r hr 4 (by omega)
  rw [e0, e1, e2, e3, e4, h2 r hr]
  exact h r hr
theorem IP_c {z z' : Nat → Int32} {B : Nat} (h1 : ∀ k, k < 3 → z' (19 + k) = z (19 + k)) (h : IP z B) : IP z' B := fun k hk => by rw [h1 k hk]; exact h k hk
theorem IQ_L {z : Nat → Int32} {M r0 : Nat} (h : IQ z M r0) : ∀ k, k < 3 → ln z k ≤ 8 := fun k hk => (h k hk).2.1
theorem IQ_q {z : Nat → Int32} {M r0 k : Nat} (h : IQ z M r0) (hM : M ≤ 32) (hk : k < 3) : ∀ p, p < ln z k → ∃ q, q < 32 ∧ z (28 + 8 * k + p) = nI q := fun p hp => by
  obtain ⟨q, e1, -, e3, -⟩ := (h k hk).2.2 p hp
  exact ⟨q, by omega, e3⟩
/-- a number that no part of the invariant speaks of -/
theorem Inv_c {z z' : Nat → Int32} {M c B r0 : Nat} (h : Inv z M c B r0) (h1 : ∀ i, i < 16 → z' i = z i) (h2 : ∀ i, 19 ≤ i → i < 22 → z' i = z i) (h3 : ∀ i, 25 ≤ i → i < 52 → z' i = z i) (h4 : z' 67 = z 67 ∧ z' 69 = z 69) (h5 : ∀ s, s < 5 → z' (70 + s) = z (70 + s)) (h6 : ∀ r, r < M → ∀ g, g < 5 → z' (75 + g + 10 * r) = z (75 + g + 10 * r)) (h7 : ∀ r, r < M → z' (83 + 10 * r) = z (83 + 10 * r)) : Inv z' M c B r0 := by
  obtain ⟨a1, a2, a3, a4, a5, a6⟩ := h
  exact ⟨IC_c h4.2 h4.1 a1, IS_c h1 h5 a2, IQ_c h3 (fun r hr _ e => by rw [h6 r hr 3 (by omega)]; exact e) a3, ID_c h3 (IQ_L a3) a4, IR_c h6 h7 a5, IP_c (fun k hk => h2 _ (by omega) (by omega)) a6⟩
theorem Inv_up {z : Nat → Int32} {M c B r0 i : Nat} {v : Int32} (h : Inv z M c B r0) (hi : (16 ≤ i ∧ i < 19) ∨ (22 ≤ i ∧ i < 25) ∨ (52 ≤ i ∧ i < 67) ∨ i = 68 ∨ (∃ r, i = 80 + 10 * r ∨ i = 81 + 10 * r ∨ i = 82 + 10 * r ∨ i = 84 + 10 * r)) : Inv (upd z i v) M c B r0 := by
  have h5 : i ≥ 16 := by rcases hi with h | h | h | h | ⟨r, h | h | h | h⟩ <;> omega
  refine Inv_c h (fun j hj => upd_n _ _ ?_) (fun j hj hj2 => upd_n _ _ ?_) (fun j hj hj2 => upd_n _ _ ?_) ⟨upd_n _ _ ?_, upd_n _ _ ?_⟩ (fun s hs => upd_n _ _ ?_) (fun r hr g hg => upd_n _ _ ?_) (fun r hr => upd_n _ _ ?_) <;> rcases hi with h | h | h | h | ⟨r, h | h | h | h⟩ <;> omega
theorem Inv_add {z : Nat → Int32} {M c B r0 k : Nat} {a : Int32} (h : Inv z M c B r0) (hk : k < 3) : Inv (zAdd z k a) M c B r0 := Inv_up h (Or.inl (by omega))
theorem Inv_weak {z : Nat → Int32} {M c B r0 : Nat} (h : Inv z M c B 99) (hr : r0 < M) (hs : ¬ z (78 + 10 * r0) = 0 ∧ ¬ z (78 + 10 * r0) = 1) : Inv z M c B r0 := by
  obtain ⟨a1, a2, a3, a4, a5, a6⟩ := h
  refine ⟨a1, a2, fun k hk => ?_, a4, fun r hr => ?_, a6⟩
  · obtain ⟨x1, x2, x3⟩ := a3 k hk
    refine ⟨x1, x2, fun p hp => ?_⟩
    obtain ⟨q, e1, e2, e3, e4⟩ := x3 p hp
    exact ⟨q, e1, fun e => by subst e; rcases e4 with e | e; exact hs.1 e; exact hs.2 e, e3, e4⟩
  · obtain ⟨x1, x2, x3, x4⟩ := a5 r hr
    have := a1.2.1
    exact ⟨x1, x2, x3, fun _ => x4 (by omega)⟩
theorem neg_ne : ¬ ((-100005 : Int32) < -100005) := by decide
/-- a request that is in no queue is refused -/
theorem Inv_refuse {z : Nat → Int32} {M c B r k j : Nat} (h : Inv z M c B r) (hr : r < M) (hk : k < 3) (hj : 1 ≤ j) (hj2 : j ≤ 5) (hp : rng (z (79 + 10 * r)) 0 60) : Inv (zRefuse z r k j) M c B 99 := by
  have hM := h.1.2.1
  have key : ∀ (v t : Int32), (v = 3 ∨ v = 4 ∧ t = -100005) → Inv (upd (upd (upd (upd z (51 + 5 * k + j) (z (51 + 5 * k + j) + 1)) (82 + 10 * r) (nI j)) (78 + 10 * r) v) (83 + 10 * r) t) M c B 99 := by
    intro v t hv
    obtain ⟨a1, a2, a3, a4, a5, a6⟩ := Inv_up (v := nI j) (Inv_up (v := z (51 + 5 * k + j) + 1) h (i := 51 + 5 * k + j) (by omega)) (i := 82 + 10 * r) (Or.inr (Or.inr (Or.inr (Or.inr ⟨r, by omega⟩))))
    have hp' : rng (upd (upd z (51 + 5 * k + j) (z (51 + 5 * k + j) + 1)) (82 + 10 * r) (nI j) (79 + 10 * r)) 0 60 := by
      rw [upd_n _ _ (by omega), upd_n _ _ (by omega)]; exact hp
    generalize upd (upd z (51 + 5 * k + j) (z (51 + 5 * k + j) + 1)) (82 + 10 * r) (nI j) = y at *
    have n1 : ∀ i, i < 75 → upd (upd y (78 + 10 * r) v) (83 + 10 * r) t i = y i := fun i hi => by rw [upd_n _ _ (by omega), upd_n _ _ (by omega)]
    have n2 : ∀ r', r' ≠ r → ∀ g, g < 10 → upd (upd y (78 + 10 * r) v) (83 + 10 * r) t (75 + g + 10 * r') = y (75 + g + 10 * r') := fun r' hr' g hg => by rw [upd_n _ _ (by omega), upd_n _ _ (by omega)]
    refine ⟨IC_c (n1 _ (by omega)) (n1 _ (by omega)) a1, IS_c (fun i hi => n1 _ (by omega)) (fun s hs => n1 _ (by omega)) a2, ?_, ID_c (fun i _ hi => n1 _ (by omega)) (IQ_L a3) a4, ?_, IP_c (fun i hi => n1 _ (by omega)) a6⟩
    · intro k' hk'
      obtain ⟨x1, x2, x3⟩ := a3 k' hk'
      rw [ln_c (n1 _ (by omega)), n1 _ (by omega)]
      refine ⟨x1, x2, fun p hp => ?_⟩
      obtain ⟨q, e1, e2, e3, e4⟩ := x3 p hp
      refine ⟨q, e1, by omega, by rw [n1 _ (by omega)]; exact e3, ?_⟩
      rw [show 78 + 10 * q = 75 + 3 + 10 * q by omega, n2 q e2 3 (by omega)]
      exact e4
    · intro r' hr'
      obtain ⟨x1, x2, x3, x4⟩ := a5 r' hr'
      by_cases e : r' = r
      · subst e
        rw [upd_n _ _ (by omega), upd_n _ _ (by omega), upd_n _ _ (by omega), upd_n _ _ (by omega), upd_n _ _ (by omega), upd_n _ _ (by omega), upd_n _ _ (show 78 + 10 * r' ≠ 83 + 10 * r' by omega), upd_s, upd_n _ _ (show 79 + 10 * r' ≠ 83 + 10 * r' by omega), upd_n _ _ (by omega), upd_s]
        refine ⟨x1, x2, x3, fun _ => ⟨?_, hp', ?_⟩⟩
        · rcases hv with hv | ⟨hv, -⟩
          · exact ⟨3, by omega, by omega, hv⟩
          · exact ⟨4, by omega, by omega, hv⟩
        · intro h9
          rcases hv with hv | ⟨hv, ht⟩
          · subst hv
            exfalso
            revert h9
            decide
          · exact ht
      · have m0 := n2 r' e 0 (by omega)
        have m1 := n2 r' e 1 (by omega)
        have m2 := n2 r' e 2 (by omega)
        have m3 := n2 r' e 3 (by omega)
        have m4 := n2 r' e 4 (by omega)
        have m8 := n2 r' e 8 (by omega)
        rw [m0, m1, m2, m3, m4, m8]
        exact ⟨x1, x2, x3, fun _ => x4 e⟩
  unfold zRefuse
  split
  · exact key 4 (-100005) (Or.inr ⟨rfl, rfl⟩)
  · exact key 3 _ (Or.inl rfl)
