/-! ===== the text: the reference's reading ===== -/
def W3 (w w' : Mem) : Prop := (∀ a, a ≠ 359 → w' a = w a) ∧ ∀ s, s ≠ 6 → s ≠ 7 → s ≠ 8 → w' 359 s = w 359 s
theorem W3_rf {w : Mem} : W3 w w := ⟨fun _ _ => rfl, fun _ _ _ _ => rfl⟩
theorem W3_tr {w w' y : Mem} (h : W3 w w') (h2 : W3 w' y) : W3 w y := ⟨fun a e => (h2.1 a e).trans (h.1 a e), fun s e1 e2 e3 => (h2.2 s e1 e2 e3).trans (h.2 s e1 e2 e3)⟩
theorem W3_put {w : Mem} {s : Nat} {v : Int32} (h : s = 6 ∨ s = 7 ∨ s = 8) : W3 w (mput w 359 s v) := ⟨fun a e => mput_other _ _ _ e, fun t e1 e2 e3 => mput_ne _ _ (by omega)⟩
def TX (L : Nat) (C : Nat → Nat) (m w : Mem) : Prop := L ≤ 80 ∧ m 356 1 = nI L ∧ w 359 5 = nI L ∧ ∀ i, i < L → 32 ≤ C i ∧ C i ≤ 126 ∧ m 358 i = nI (C i) ∧ w 363 i = nI (C i)
theorem TX_of {m w : Mem} (h : TR m w) : ∃ L C, TX L C m w := by
  obtain ⟨L, h1, h2, h3, h4⟩ := h
  refine ⟨L, fun i => (m 358 i).toNatClampNeg, h1, h2, h3, fun i hi => ?_⟩
  obtain ⟨x, x1, x2, x3, x4⟩ := h4 i hi
  dsimp only
  rw [x3, tn x (by omega)]
  exact ⟨x1, x2, rfl, x4⟩
theorem TX_c {L : Nat} {C : Nat → Nat} {m m' w w' : Mem} (h : TX L C m w) (e1 : m' 356 1 = m 356 1) (e2 : m' 358 = m 358) (e3 : w' 359 5 = w 359 5) (e4 : w' 363 = w 363) : TX L C m' w' := by
  obtain ⟨h1, h2, h3, h4⟩ := h
  exact ⟨h1, by rw [e1]; exact h2, by rw [e3]; exact h3, fun i hi => by rw [e2, e4]; exact h4 i hi⟩
theorem TX_w {L : Nat} {C : Nat → Nat} {m w w' : Mem} (h : TX L C m w) (e : W3 w w') : TX L C m w' := TX_c h rfl rfl (e.2 5 (by omega) (by omega) (by omega)) (e.1 363 (by omega))
def cT (L : Nat) (C : Nat → Nat) (i : Nat) : Nat := if i < L then C i else 0
theorem cT_le {L : Nat} {C : Nat → Nat} {m w : Mem} (h : TX L C m w) (i : Nat) : cT L C i ≤ 126 ∧ (i < L → 32 ≤ cT L C i ∧ cT L C i = C i) ∧ (L ≤ i → cT L C i = 0) := by
  unfold cT
  by_cases e : i < L
  · rw [if_pos e]
    obtain ⟨a, b, -⟩ := h.2.2.2 i e
    exact ⟨b, fun _ => ⟨a, rfl⟩, fun h => absurd h (by omega)⟩
  · rw [if_neg e]
    exact ⟨by omega, fun h => absurd h e, fun _ => rfl⟩
theorem m_at {fu L a : Nat} {C : Nat → Nat} {m w : Mem} (h : TX L C m w) (ha : a < 2 ^ 31) : F_X7_at fu (nI a) w = some (nI (cT L C a), w) := by
  obtain ⟨h1, h2, h3, h4⟩ := h
  unfold F_X7_at cT
  rw [h3]
  by_cases e : a < L
  · rw [if_neg (nI_ge e (by omega)), gd_in _ (by omega) (by omega), tn a ha, (h4 a e).2.2.2, if_pos e]
  · rw [if_pos (nI_le (by omega) ha), if_neg e]
    rfl
theorem inr_b {x a b : Nat} (hx : x < 2 ^ 31) (ha : a < 2 ^ 31) (hb : b < 2 ^ 31) : inr (nI x) (nI a) (nI b) = if a ≤ x ∧ x ≤ b then 1 else 0 := by
  unfold inr
  by_cases c : x < a
  · rw [if_pos (nI_lt c ha), if_neg (by omega)]
  · rw [if_neg (nI_nlt (by omega) hx)]
    by_cases d : b < x
    · rw [if_pos (nI_lt d hx), if_neg (by omega)]
    · rw [if_neg (nI_nlt (by omega) hb), if_pos (by omega)]
def ng (f : Nat) : Int32 := -1 - nI f
theorem ng_toInt {f : Nat} (h : f < 2 ^ 30) : (ng f).toInt = -1 - (f : Int) := by
  unfold ng
  rw [Int32.toInt_sub, nI_toInt (by omega), show (-1 : Int32).toInt = -1 by decide]
  exact Int.bmod_eq_of_le (by omega) (by omega)
theorem ng_n {f : Nat} (h : f < 2 ^ 30) : ¬ 0 ≤ ng f := by
  rw [Int32.le_iff_toInt_le, ng_toInt h, show (0 : Int32).toInt = 0 by decide]
  omega
theorem ng_b {f : Nat} (h : f < 2 ^ 30) : (-1 : Int32) - ng f = nI f := by
  apply Int32.toInt_inj.mp
  rw [Int32.toInt_sub, ng_toInt h, nI_toInt (by omega), show (-1 : Int32).toInt = -1 by decide, show (-1 : Int) - (-1 - (f : Int)) = f by omega]
  exact Int.bmod_eq_of_le (by omega) (by omega)
theorem ng_2 {f : Nat} (h : f < 2 ^ 30 - 1) : (-2 : Int32) - nI f = ng (f + 1) := by
  apply Int32.toInt_inj.mp
  rw [Int32.toInt_sub, ng_toInt (by omega), nI_toInt (by omega), show (-2 : Int32).toInt = -2 by decide, show (-2 : Int) - (f : Int) = -1 - ((f + 1 : Nat) : Int) by omega]
  exact Int.bmod_eq_of_le (by omega) (by omega)
def nF (c : Nat → Nat) (p : Nat) : Prop := 49 ≤ c p ∧ c p ≤ 57
def n2 (c : Nat → Nat) (p mx : Nat) : Prop := 48 ≤ c (p + 1) ∧ c (p + 1) ≤ 57 ∧ 10 * (c p - 48) + (c (p + 1) - 48) ≤ mx
def nE (c : Nat → Nat) (p mx : Nat) : Nat := if 48 ≤ c (p + 1) ∧ c (p + 1) ≤ 57 ∧ 10 * (c p - 48) + (c (p + 1) - 48) ≤ mx then p + 2 else p + 1
def nN (c : Nat → Nat) (p mx : Nat) : Nat := if 48 ≤ c (p + 1) ∧ c (p + 1) ≤ 57 ∧ 10 * (c p - 48) + (c (p + 1) - 48) ≤ mx then 10 * (c p - 48) + (c (p + 1) - 48) else c p - 48
def sP (c : Nat → Nat) (a : Nat) : Nat := if c a = 43 then a + 1 else a + 2
def sM (c : Nat → Nat) (a : Nat) : Nat := if c a = 43 then 99 else 60
def sF (c : Nat → Nat) (a : Nat) : Option Nat := if c a = 43 then (if 49 ≤ c (a + 1) ∧ c (a + 1) ≤ 57 then none else some (a + 1)) else if 48 ≤ c a ∧ c a ≤ 50 then (if 97 ≤ c (a + 1) ∧ c (a + 1) ≤ 101 then (if 49 ≤ c (a + 2) ∧ c (a + 2) ≤ 57 then none else some (a + 2)) else some (a + 1)) else some a
def sE (c : Nat → Nat) (a : Nat) : Nat := nE c (sP c a) (sM c a)
def sN (c : Nat → Nat) (a : Nat) : Nat := nN c (sP c a) (sM c a)
/-- one turn of the reference's reading of a number -/
theorem m_turn {fu L x v mx n : Nat} {A : Int32} {C : Nat → Nat} {m w : Mem} (h : TX L C m w) (hx : x < 2 ^ 30) (hv : v ≤ 99) (hm : mx ≤ 99) (hw : w 359 8 = nI v) : F_X7_readNumber_L7 fu A (nI mx) (n + 1) (nI x) w = if (if v = 0 then 49 else 48) ≤ cT L C x ∧ cT L C x ≤ 57 ∧ 10 * v + (cT L C x - 48) ≤ mx then F_X7_readNumber_L7 fu A (nI mx) n (nI (x + 1)) (mput w 359 8 (nI (10 * v + (cT L C x - 48)))) else some (if v = 0 then ng x else nI x, w) := by
  obtain ⟨c1, -, -⟩ := cT_le h x
  rw [F_X7_readNumber_L7, m_at h (by omega), ob_s, hw]
  have l80 : F_X7_readNumber_L80 fu A (nI mx) (nI x) w = some (if v = 0 then ng x else nI x, w) := by
    unfold F_X7_readNumber_L80
    rw [hw]
    by_cases e : v = 0
    · rw [if_pos (show nI v = 0 by rw [e]; rfl), if_pos e, bd_s]; rfl
    · rw [if_neg (nI_ne0 (by omega) (by omega)), if_neg e]
  have l26 : ∀ lo : Nat, (lo = 48 ∨ lo = 49) → F_X7_readNumber_L26 fu A (nI mx) (F_X7_readNumber_L7 fu A (nI mx) n) (nI x) (nI lo) (nI (cT L C x)) w = if lo ≤ cT L C x ∧ cT L C x ≤ 57 ∧ 10 * v + (cT L C x - 48) ≤ mx then F_X7_readNumber_L7 fu A (nI mx) n (nI (x + 1)) (mput w 359 8 (nI (10 * v + (cT L C x - 48)))) else some (if v = 0 then ng x else nI x, w) := by
    intro lo hlo
    unfold F_X7_readNumber_L26
    rw [in_r, ob_s, show (57 : Int32) = nI 57 from rfl, inr_b (by omega) (by omega) (by omega)]
    by_cases e : lo ≤ cT L C x ∧ cT L C x ≤ 57
    · have ev : (10 : Int32) * nI v + nI (cT L C x) - 48 = nI (10 * v + (cT L C x - 48)) := by
        rw [im_10, nI_add, show (48 : Int32) = nI 48 from rfl]
        rw [pk_sub (show 48 ≤ 10 * v + cT L C x by omega), show 10 * v + cT L C x - 48 = 10 * v + (cT L C x - 48) by omega]
      rw [if_pos e, if_neg (show ¬ (1 : Int32) = 0 by decide), hw, bd_s, m_at h (by omega), ob_s, bd_s, bd_s, ev]
      by_cases e2 : 10 * v + (cT L C x - 48) ≤ mx
      · rw [if_neg (nI_nlt e2 (by omega)), if_pos ⟨e.1, e.2, e2⟩, bd_s, m_at h (by omega), ob_s, bd_s, bd_s, hw, ev, bd_s, bd_s, nI_1]
      · rw [if_pos (nI_lt (by omega) (by omega)), if_neg (fun q => e2 q.2.2), l80]
    · rw [if_neg e, if_pos (show (0 : Int32) = 0 from rfl), if_neg (fun q => e ⟨q.1, q.2.1⟩), l80]
  by_cases e : v = 0
  · rw [if_pos (show nI v = 0 by rw [e]; rfl), if_pos e]
    exact l26 49 (Or.inr rfl)
  · rw [if_neg (nI_ne0 (by omega) (by omega)), if_neg e]
    exact l26 48 (Or.inl rfl)
theorem m_num {fu L p mx : Nat} {C : Nat → Nat} {m w : Mem} (h : TX L C m w) (hp : p < 2 ^ 29) (hm : mx = 60 ∨ mx = 99) (hf : 3 < fu) : ∃ r w', F_X7_readNumber fu (nI p) (nI mx) w = some (r, w') ∧ W3 w w' ∧ w' 359 6 = w 359 6 ∧ w' 359 7 = w 359 7 ∧ ((¬ nF (cT L C) p ∧ r = ng p) ∨ (nF (cT L C) p ∧ r = nI (nE (cT L C) p mx) ∧ w' 359 8 = nI (nN (cT L C) p mx))) := by
  obtain ⟨c1, -, -⟩ := cT_le h p
  obtain ⟨c2, -, -⟩ := cT_le h (p + 1)
  have W0 : W3 w (mput w 359 8 0) := W3_put (Or.inr (Or.inr rfl))
  unfold F_X7_readNumber
  rw [bd_s]
  obtain ⟨n, rfl⟩ : ∃ i, fu = i + 1 + 1 + 1 := ⟨fu - 3, by omega⟩
  have t1 := m_turn (fu := n + 1 + 1 + 1) (n := n + 1 + 1) (A := nI p) (v := 0) (mx := mx) (TX_w h W0) (show p < 2 ^ 30 by omega) (by omega) (by omega) (mput_at _ _ _ _)
  rw [if_pos rfl, if_pos rfl] at t1
  rw [t1]
  by_cases e : nF (cT L C) p
  · have W1 : W3 w (mput (mput w 359 8 0) 359 8 (nI (10 * 0 + (cT L C p - 48)))) := W3_tr W0 (W3_put (Or.inr (Or.inr rfl)))
    have e' := e
    unfold nF at e'
    have t2 := m_turn (fu := n + 1 + 1 + 1) (n := n + 1) (A := nI p) (v := cT L C p - 48) (mx := mx) (TX_w h W1) (show p + 1 < 2 ^ 30 by omega) (by omega) (by omega) (by rw [mput_at, show 10 * 0 + (cT L C p - 48) = cT L C p - 48 by omega])
    rw [if_neg (show ¬ cT L C p - 48 = 0 by omega), if_neg (show ¬ cT L C p - 48 = 0 by omega)] at t2
    rw [if_pos (show 49 ≤ cT L C p ∧ cT L C p ≤ 57 ∧ 10 * 0 + (cT L C p - 48) ≤ mx by omega), t2]
    by_cases e2 : n2 (cT L C) p mx
    · have e2' := e2
      unfold n2 at e2'
      rw [if_pos e2']
      have W2 := W3_tr W1 (W3_put (s := 8) (v := nI (10 * (cT L C p - 48) + (cT L C (p + 1) - 48))) (Or.inr (Or.inr rfl)))
      have t3 := m_turn (fu := n + 1 + 1 + 1) (n := n) (A := nI p) (v := 10 * (cT L C p - 48) + (cT L C (p + 1) - 48)) (mx := mx) (TX_w h W2) (show p + 1 + 1 < 2 ^ 30 by omega) (by omega) (by omega) (mput_at _ _ _ _)
      rw [t3, if_neg (show ¬ 10 * (cT L C p - 48) + (cT L C (p + 1) - 48) = 0 by omega), if_neg (by omega), if_neg (show ¬ 10 * (cT L C p - 48) + (cT L C (p + 1) - 48) = 0 by omega)]
      refine ⟨_, _, rfl, W2, ?_, ?_, Or.inr ⟨e, ?_, ?_⟩⟩
      · rw [mput_ne _ _ (by omega), mput_ne _ _ (by omega), mput_ne _ _ (by omega)]
      · rw [mput_ne _ _ (by omega), mput_ne _ _ (by omega), mput_ne _ _ (by omega)]
      · unfold nE; rw [if_pos e2']
      · unfold nN; rw [if_pos e2', mput_at]
    · have e2' : ¬ (48 ≤ cT L C (p + 1) ∧ cT L C (p + 1) ≤ 57 ∧ 10 * (cT L C p - 48) + (cT L C (p + 1) - 48) ≤ mx) := e2
      rw [if_neg e2']
      refine ⟨_, _, rfl, W1, ?_, ?_, Or.inr ⟨e, ?_, ?_⟩⟩
      · rw [mput_ne _ _ (by omega), mput_ne _ _ (by omega)]
      · rw [mput_ne _ _ (by omega), mput_ne _ _ (by omega)]
      · unfold nE; rw [if_neg e2']
      · unfold nN; rw [if_neg e2', mput_at, show 10 * 0 + (cT L C p - 48) = cT L C p - 48 by omega]
  · rw [if_neg (fun q => e ⟨q.1, q.2.1⟩)]
    exact ⟨_, _, rfl, W0, mput_ne _ _ (by omega), mput_ne _ _ (by omega), Or.inl ⟨e, rfl⟩⟩
theorem m_step {fu L a : Nat} {C : Nat → Nat} {m w : Mem} (h : TX L C m w) (ha : a ≤ 80) (hf : 3 < fu) : ∃ r w', F_X7_readStep fu (nI a) w = some (r, w') ∧ W3 w w' ∧ ((∃ f, sF (cT L C) a = some f ∧ r = ng f) ∨ (sF (cT L C) a = none ∧ r = nI (sE (cT L C) a) ∧ w' 359 8 = nI (sN (cT L C) a) ∧ (cT L C a = 43 → w' 359 6 = -1) ∧ (¬ cT L C a = 43 → w' 359 6 = nI (cT L C a - 48) ∧ w' 359 7 = nI (cT L C (a + 1) - 97)))) := by
  obtain ⟨c1, -, -⟩ := cT_le h a
  obtain ⟨c2, -, -⟩ := cT_le h (a + 1)
  have W0 : W3 w (mput w 359 6 (-1)) := W3_put (Or.inl rfl)
  have h0 := TX_w h W0
  unfold F_X7_readStep
  rw [bd_s, m_at h0 (by omega), ob_s]
  unfold sF sE sN sP sM
  by_cases e : cT L C a = 43
  · rw [if_pos (show nI (cT L C a) = 43 by rw [e]; rfl), bd_s, nI_1, if_pos e, if_pos e, if_pos e]
    obtain ⟨r, w', k1, k2, k3, k4, k5⟩ := m_num (fu := fu) (p := a + 1) (mx := 99) h0 (by omega) (Or.inr rfl) hf
    rw [show F_X7_readNumber fu (nI (a + 1)) 99 (mput w 359 6 (-1)) = some (r, w') from k1, ob_s]
    refine ⟨r, w', rfl, W3_tr W0 k2, ?_⟩
    rcases k5 with ⟨q1, q2⟩ | ⟨q1, q2, q3⟩
    · rw [if_neg (show ¬ (49 ≤ cT L C (a + 1) ∧ cT L C (a + 1) ≤ 57) from q1)]; exact Or.inl ⟨_, rfl, q2⟩
    · rw [if_pos (show 49 ≤ cT L C (a + 1) ∧ cT L C (a + 1) ≤ 57 from q1)]; exact Or.inr ⟨rfl, q2, q3, fun _ => by rw [k3, mput_at], fun q => absurd e q⟩
  · rw [if_neg (show ¬ nI (cT L C a) = 43 from fun q => e ((nI_eq (b := 43) (by omega) (by decide)).mp q)), if_neg e, if_neg e, if_neg e, m_at h0 (by omega), ob_s, in_r, ob_s, show (48 : Int32) = nI 48 from rfl, show (50 : Int32) = nI 50 from rfl, inr_b (by omega) (by omega) (by omega)]
    by_cases e1 : 48 ≤ cT L C a ∧ cT L C a ≤ 50
    · rw [if_pos e1, if_neg (show ¬ (1 : Int32) = 0 by decide), bd_s, nI_1, m_at h0 (by omega), ob_s, in_r, ob_s, show (97 : Int32) = nI 97 from rfl, show (101 : Int32) = nI 101 from rfl, inr_b (by omega) (by omega) (by omega), if_pos e1]
      by_cases e2 : 97 ≤ cT L C (a + 1) ∧ cT L C (a + 1) ≤ 101
      · have h1 : ∀ v, TX L C m (mput (mput w 359 6 (-1)) 359 6 v) := fun v => TX_w h0 (W3_put (Or.inl rfl))
        have h2 : ∀ v u, TX L C m (mput (mput (mput w 359 6 (-1)) 359 6 v) 359 7 u) := fun v u => TX_w (h1 v) (W3_put (Or.inr (Or.inl rfl)))
        rw [if_pos e2, if_neg (show ¬ (1 : Int32) = 0 by decide), m_at h0 (by omega), ob_s, bd_s, pk_sub (by omega), bd_s, bd_s, m_at (h1 _) (by omega), ob_s, bd_s, pk_sub (by omega), bd_s, bd_s, show (2 : Int32) = nI 2 from rfl, nI_add, if_pos e2]
        obtain ⟨r, w', k1, k2, k3, k4, k5⟩ := m_num (fu := fu) (p := a + 2) (mx := 60) (h2 (nI (cT L C a - 48)) (nI (cT L C (a + 1) - 97))) (by omega) (Or.inl rfl) hf
        rw [show F_X7_readNumber fu (nI (a + 2)) 60 _ = some (r, w') from k1, ob_s]
        refine ⟨r, w', rfl, W3_tr W0 (W3_tr (W3_put (Or.inl rfl)) (W3_tr (W3_put (Or.inr (Or.inl rfl))) k2)), ?_⟩
        rcases k5 with ⟨q1, q2⟩ | ⟨q1, q2, q3⟩
        · rw [if_neg (show ¬ (49 ≤ cT L C (a + 2) ∧ cT L C (a + 2) ≤ 57) from q1)]; exact Or.inl ⟨_, rfl, q2⟩
        · rw [if_pos (show 49 ≤ cT L C (a + 2) ∧ cT L C (a + 2) ≤ 57 from q1)]; exact Or.inr ⟨rfl, q2, q3, fun q => absurd q e, fun _ => ⟨by rw [k3, mput_ne _ _ (by omega), mput_at], by rw [k4, mput_at]⟩⟩
      · rw [if_neg e2, if_pos (show (0 : Int32) = 0 from rfl), bd_s, ng_2 (by omega), if_neg e2]
        exact ⟨_, _, rfl, W0, Or.inl ⟨_, rfl, rfl⟩⟩
    · rw [if_neg e1, if_pos (show (0 : Int32) = 0 from rfl), bd_s, if_neg e1]
      exact ⟨_, _, rfl, W0, Or.inl ⟨_, rfl, rfl⟩⟩
