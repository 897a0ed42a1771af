/-! ===== pure rows: the functions by values ===== -/
theorem bd_s {α β : Type} (x : α) (f : α → Option β) : bd x f = f x := Eq.trans rfl rfl
theorem gd_t {β : Type} (x : Option β) : gd true x = x := Eq.trans rfl rfl
theorem ob_s {ρ β : Type} (r : ρ) (m : Mem) (f : ρ → Mem → Option β) : ob (some (r, m)) f = f r m := Eq.trans rfl rfl
theorem ov_s {β : Type} (m : Mem) (f : Mem → Option β) : ov (some m) f = f m := Eq.trans rfl rfl
theorem oq_s {β : Type} (c : Nat) (m : Mem) (fn : Mem → Option β) (fs : Nat → Mem → Option β) : oq (some (some c, m)) fn fs = fs c m := Eq.trans rfl rfl
theorem oq_n {β : Type} (m : Mem) (fn : Mem → Option β) (fs : Nat → Mem → Option β) : oq (some (none, m)) fn fs = fn m := Eq.trans rfl rfl
theorem inb_nI {i n : Nat} (h : i < n) (hn : n < 2 ^ 31) : inb (nI i) n = true := by
  unfold inb
  exact decide_eq_true (nI_in h hn)
theorem isZ_0 : isZ 0 = true := rfl
theorem isZ_1 : isZ 1 = true := rfl
theorem upd_s (z : Nat → Int32) (i : Nat) (v : Int32) : upd z i v i = v := if_pos rfl
theorem upd_n (z : Nat → Int32) {i j : Nat} (v : Int32) (h : j ≠ i) : upd z i v j = z j := if_neg h
theorem upd_self (z : Nat → Int32) (i : Nat) : upd z i (z i) = z := by
  funext j
  by_cases h : j = i
  · subst h; exact upd_s z j _
  · exact upd_n z _ h
theorem upd_same (z : Nat → Int32) {i : Nat} {v : Int32} (h : z i = v) : upd z i v = z := by rw [← h]; exact upd_self z i
theorem mput_at (m : Mem) (o k : Nat) (v : Int32) : mput m o k v o k = v := by rw [mput_same]; exact upd_s _ _ _
theorem mput_ne (m : Mem) {o k a j : Nat} (v : Int32) (h : a ≠ o ∨ j ≠ k) : mput m o k v a j = m a j := by
  by_cases e : a = o
  · subst e
    rw [mput_same]
    exact upd_n _ _ (h.resolve_left (fun g => g rfl))
  · rw [mput_other _ _ _ e]
/-- where a number of the reference's array is in the block of a server: the code from its base on, and the slot -/
def lo (i : Nat) : Nat :=
  if i < 4 then 2 else if i < 16 then 5 + 7 * ((i - 4) / 4) + 2 else if i < 19 then 5 + 7 * (i - 16) else if i < 22 then 5 + 7 * (i - 19) else if i < 25 then 5 + 7 * (i - 22) else if i < 28 then 5 + 7 * (i - 25) else if i < 52 then 5 + 7 * ((i - 28) / 8) + 6 else if i < 67 then 5 + 7 * ((i - 52) / 5) + 4 else if i < 70 then 0 else if i < 75 then 4 else 27 + (i - 75) / 10
def lt (i : Nat) : Nat :=
  if i < 4 then i else if i < 16 then (i - 4) % 4 else if i < 19 then 4 else if i < 22 then 5 else if i < 25 then 6 else if i < 28 then 3 else if i < 52 then (i - 28) % 8 else if i < 67 then (i - 52) % 5 + 1 else if i = 67 then 9 else if i = 68 then 10 else if i = 69 then 6 else if i < 75 then i - 70 else if (i - 75) % 10 < 8 then (i - 75) % 10 + 1 else if (i - 75) % 10 = 8 then 10 else 9
def lx (o s : Nat) : Nat :=
  if o = 0 then (if s = 9 then 67 else if s = 10 then 68 else 69) else if o = 2 then s else if o = 4 then 70 + s else if o < 26 then
    (if (o - 5) % 7 = 0 then (if s = 4 then 16 + (o - 5) / 7 else if s = 5 then 19 + (o - 5) / 7 else if s = 6 then 22 + (o - 5) / 7 else 25 + (o - 5) / 7) else if (o - 5) % 7 = 2 then 4 + 4 * ((o - 5) / 7) + s else if (o - 5) % 7 = 4 then 52 + 5 * ((o - 5) / 7) + s - 1 else 28 + 8 * ((o - 5) / 7) + s)
  else (if s < 9 then 75 + 10 * (o - 27) + s - 1 else if s = 10 then 83 + 10 * (o - 27) else 84 + 10 * (o - 27))
theorem lx_lo : ∀ i, i < 395 → lx (lo i) (lt i) = i := by decide +kernel
theorem lo_inj {i j : Nat} (hi : i < 395) (hj : j < 395) (h : i ≠ j) : lo i ≠ lo j ∨ lt i ≠ lt j := by
  by_cases e : lo i = lo j
  · refine Or.inr (fun e2 => h ?_)
    rw [← lx_lo i hi, ← lx_lo j hj, e, e2]
  · exact Or.inl e
theorem lo_set : ∀ i, i < 4 → lo i = 2 ∧ lt i = i := by decide +kernel
theorem lo_cls : ∀ k, k < 3 → ∀ i, i < 4 → lo (4 + 4 * k + i) = 5 + 7 * k + 2 ∧ lt (4 + 4 * k + i) = i := by decide +kernel
theorem lo_tok : ∀ k, k < 3 → lo (16 + k) = 5 + 7 * k ∧ lt (16 + k) = 4 := by decide +kernel
theorem lo_pass : ∀ k, k < 3 → lo (19 + k) = 5 + 7 * k ∧ lt (19 + k) = 5 := by decide +kernel
theorem lo_wk : ∀ k, k < 3 → lo (22 + k) = 5 + 7 * k ∧ lt (22 + k) = 6 := by decide +kernel
theorem lo_len : ∀ k, k < 3 → lo (25 + k) = 5 + 7 * k ∧ lt (25 + k) = 3 := by decide +kernel
theorem lo_que : ∀ k, k < 3 → ∀ p, p < 8 → lo (28 + 8 * k + p) = 5 + 7 * k + 6 ∧ lt (28 + 8 * k + p) = p := by decide +kernel
theorem lo_ref : ∀ k, k < 3 → ∀ j, j < 5 → lo (52 + 5 * k + j) = 5 + 7 * k + 4 ∧ lt (52 + 5 * k + j) = j + 1 := by decide +kernel
theorem lo_est : ∀ s, s < 5 → lo (70 + s) = 4 ∧ lt (70 + s) = s := by decide +kernel
theorem lo_req : ∀ r, r < 32 → ∀ g, g < 8 → lo (75 + 10 * r + g) = 27 + r ∧ lt (75 + 10 * r + g) = g + 1 := by decide +kernel
theorem lo_tick : ∀ r, r < 32 → lo (83 + 10 * r) = 27 + r ∧ lt (83 + 10 * r) = 10 := by decide +kernel
theorem lo_adm : ∀ r, r < 32 → lo (84 + 10 * r) = 27 + r ∧ lt (84 + 10 * r) = 9 := by decide +kernel
theorem lo_lt : ∀ i, i < 395 → lo i < 59 := by decide +kernel
