/-! ===== a quotient of two ints is a number ===== -/
def okD (p : Nat) (qm : Int) : FP.Core.Datum → Prop
  | .nan => False
  | .inf _ => True
  | .fin _ c q => c < 2 ^ p ∧ q ≤ qm
theorem b32_p : FP.Core.b32.p = 24 := rfl
theorem b32_t : FP.Core.b32.tails = 8388608 := by decide
theorem b32_e : FP.Core.b32.exps = 256 := by decide
theorem b32_mn : FP.Core.b32.qmin = -149 := by decide
theorem b32_mx : FP.Core.b32.qmax = 104 := by decide
theorem b64_p : FP.Core.b64.p = 53 := rfl
theorem b64_t : FP.Core.b64.tails = 4503599627370496 := by decide
theorem b64_e : FP.Core.b64.exps = 2048 := by decide
theorem b64_mn : FP.Core.b64.qmin = -1074 := by decide
theorem b64_mx : FP.Core.b64.qmax = 971 := by decide
theorem bd_ok {f : FP.Core.Fmt} {s : Bool} {c : Nat} {q : Int} (h : c < 2 ^ f.p) : okD f.p f.qmax (FP.Core.bound f s c q) := by
  unfold FP.Core.bound
  by_cases e : q ≤ f.qmax
  · rw [if_pos e]; exact ⟨h, e⟩
  · rw [if_neg e]; exact trivial
theorem rr_ok {f : FP.Core.Fmt} {s : Bool} {num den : Nat} {e : Int} (h1 : f.tails < 2 ^ f.p) (h2 : f.qmin ≤ f.qmax) : okD f.p f.qmax (FP.Core.roundRatio f s num den e) := by
  unfold FP.Core.roundRatio
  by_cases n0 : num = 0
  · rw [if_pos n0]; exact ⟨Nat.pow_pos (by omega), h2⟩
  · rw [if_neg n0]
    unfold FP.Core.roundAt FP.Core.settle
    by_cases c : FP.Core.nearest (FP.Core.unitsNum num e (FP.Core.quantum f num den e)) (FP.Core.unitsDen den e (FP.Core.quantum f num den e)) < 2 ^ f.p
    · rw [if_pos c]; exact bd_ok c
    · rw [if_neg c]; exact bd_ok h1
theorem en32 {d : FP.Core.Datum} (h : okD 24 104 d) : FP.Core.encode FP.Core.b32 d % 2147483648 ≤ 2139095040 := by
  cases d with
  | nan => exact absurd h id
  | inf s =>
    unfold FP.Core.encode FP.Core.assemble
    rw [b32_e, b32_t]
    cases s <;> decide
  | fin s c q =>
    obtain ⟨h1, h2⟩ := h
    have hs : s.toNat ≤ 1 := Bool.toNat_le s
    unfold FP.Core.encode
    dsimp only
    rw [b32_t, b32_mn]
    by_cases e : c < 8388608
    · rw [if_pos e]
      unfold FP.Core.assemble
      rw [b32_e, b32_t]
      omega
    · rw [if_neg e]
      unfold FP.Core.assemble
      rw [b32_e, b32_t]
      have : (q - -149).toNat + 1 ≤ 254 := by omega
      omega
theorem en64 {d : FP.Core.Datum} (h : okD 53 971 d) : FP.Core.encode FP.Core.b64 d % 9223372036854775808 ≤ 9218868437227405312 := by
  cases d with
  | nan => exact absurd h id
  | inf s =>
    unfold FP.Core.encode FP.Core.assemble
    rw [b64_e, b64_t]
    cases s <;> decide
  | fin s c q =>
    obtain ⟨h1, h2⟩ := h
    have hs : s.toNat ≤ 1 := Bool.toNat_le s
    unfold FP.Core.encode
    dsimp only
    rw [b64_t, b64_mn]
    by_cases e : c < 4503599627370496
    · rw [if_pos e]
      unfold FP.Core.assemble
      rw [b64_e, b64_t]
      omega
    · rw [if_neg e]
      unfold FP.Core.assemble
      rw [b64_e, b64_t]
      have : (q - -1074).toNat + 1 ≤ 2046 := by omega
      omega
theorem rr32 {s : Bool} {num den : Nat} {e : Int} : okD 24 104 (FP.Core.roundRatio FP.Core.b32 s num den e) := rr_ok (f := FP.Core.b32) (by decide) (by decide)
theorem rr64 {s : Bool} {num den : Nat} {e : Int} : okD 53 971 (FP.Core.roundRatio FP.Core.b64 s num den e) := rr_ok (f := FP.Core.b64) (by decide) (by decide)
theorem nn_nat (r : UInt32) : nn32 r = true ↔ r.toNat % 2147483648 ≤ 2139095040 := by
  unfold nn32
  rw [decide_eq_true_iff, UInt32.le_iff_toNat_le, UInt32.toNat_and]
  have h1 : (0x7fffffff : UInt32).toNat = 2 ^ 31 - 1 := by decide
  have h2 : (0x7f800000 : UInt32).toNat = 2139095040 := by decide
  rw [h1, h2, Nat.and_two_pow_sub_one_eq_mod]
theorem n64_nat (r : UInt64) : vf_n64 r ↔ r.toNat % 9223372036854775808 ≤ 9218868437227405312 := by
  unfold vf_n64
  rw [UInt64.le_iff_toNat_le, UInt64.toNat_and]
  have h1 : (0x7fffffffffffffff : UInt64).toNat = 2 ^ 63 - 1 := by decide
  have h2 : (0x7ff0000000000000 : UInt64).toNat = 9218868437227405312 := by decide
  rw [h1, h2, Nat.and_two_pow_sub_one_eq_mod]
theorem de32 {n : Nat} (h : n % 2147483648 ≤ 2139095040) : FP.Core.decode FP.Core.b32 n ≠ .nan := by
  unfold FP.Core.decode FP.Core.fieldE FP.Core.fieldT
  rw [b32_e, b32_t]
  by_cases c : n / 8388608 % 256 = 256 - 1
  · rw [if_pos c, if_pos (by omega)]
    exact fun q => by cases q
  · rw [if_neg c]
    by_cases d : n / 8388608 % 256 = 0
    · rw [if_pos d]; exact fun q => by cases q
    · rw [if_neg d]; exact fun q => by cases q
theorem de32f {n : Nat} (h : n % 2147483648 < 2139095040) : ∃ s c q, FP.Core.decode FP.Core.b32 n = .fin s c q ∧ (n % 2147483648 ≠ 0 → c ≠ 0) := by
  unfold FP.Core.decode FP.Core.fieldE FP.Core.fieldT
  rw [b32_e, b32_t, if_neg (by omega)]
  by_cases d : n / 8388608 % 256 = 0
  · rw [if_pos d]
    exact ⟨_, _, _, rfl, fun q => by omega⟩
  · rw [if_neg d]
    exact ⟨_, _, _, rfl, fun q => by omega⟩
theorem log_le {n : Nat} (h0 : n ≠ 0) (h : n < 4294967296) : n.log2 ≤ 31 := by
  have := (Nat.log2_lt h0 (k := 32)).mpr (by omega)
  omega
theorem near1 (n : Nat) : FP.Core.nearest n 1 = n := by
  unfold FP.Core.nearest
  rw [if_pos (by omega), Nat.div_one]
theorem near_ge {n d : Nat} (hd : 0 < d) (h : d ≤ n) : 1 ≤ FP.Core.nearest n d := by
  have : 1 ≤ n / d := (Nat.one_le_div_iff hd).mpr h
  unfold FP.Core.nearest
  split
  · exact this
  · split
    · omega
    · omega
theorem i2f_r {s : Bool} {n : Nat} (h0 : n ≠ 0) (h : n < 4294967296) : 0 < FP.Core.encode FP.Core.b32 (FP.Core.roundRatio FP.Core.b32 s n 1 0) % 2147483648 ∧ FP.Core.encode FP.Core.b32 (FP.Core.roundRatio FP.Core.b32 s n 1 0) % 2147483648 < 2139095040 := by
  have hl := log_le h0 h
  have hs : s.toNat ≤ 1 := Bool.toNat_le s
  obtain ⟨L, hL⟩ : ∃ L, L = FP.Core.leading n 1 := ⟨_, rfl⟩
  have hL2 : L ≤ (n.log2 : Int) := by
    rw [hL]
    unfold FP.Core.leading
    dsimp only
    have l1 : Nat.log2 1 = 0 := by decide
    rw [l1]
    split <;> omega
  obtain ⟨q, hq⟩ : ∃ q, q = FP.Core.quantum FP.Core.b32 n 1 0 := ⟨_, rfl⟩
  have hq2 : q = max (-149) (L + 0 - (24 - 1)) := by
    rw [hq, hL]
    unfold FP.Core.quantum
    rw [b32_mn, b32_p]
    rfl
  have hq3 : q ≤ 8 := by omega
  obtain ⟨c, hc⟩ : ∃ c, c = FP.Core.nearest (FP.Core.unitsNum n 0 q) (FP.Core.unitsDen 1 0 q) := ⟨_, rfl⟩
  have hc1 : 1 ≤ c := by
    rw [hc]
    unfold FP.Core.unitsNum FP.Core.unitsDen
    refine near_ge (Nat.mul_pos (by omega) (Nat.pow_pos (by omega))) ?_
    have hn2 : 2 ^ n.log2 ≤ n := Nat.log2_self_le h0
    by_cases g : q ≤ 0
    · rw [show (q - 0).toNat = 0 by omega, Nat.pow_zero, Nat.mul_one]
      exact Nat.mul_pos (by omega) (Nat.pow_pos (by omega))
    · rw [show (0 - q).toNat = 0 by omega, Nat.pow_zero, Nat.mul_one, Nat.one_mul]
      refine Nat.le_trans (Nat.pow_le_pow_right (by omega) ?_) hn2
      omega
  unfold FP.Core.roundRatio
  rw [if_neg h0]
  unfold FP.Core.roundAt FP.Core.settle
  rw [← hq, ← hc, b32_p]
  unfold FP.Core.bound
  rw [b32_mx, if_pos (show q ≤ 104 by omega), if_pos (show q + 1 ≤ 104 by omega), b32_t]
  by_cases e : c < 2 ^ 24
  · rw [if_pos e]
    unfold FP.Core.encode
    dsimp only
    rw [b32_t, b32_mn]
    by_cases e2 : c < 8388608
    · rw [if_pos e2]
      unfold FP.Core.assemble
      rw [b32_e, b32_t]
      omega
    · rw [if_neg e2]
      unfold FP.Core.assemble
      rw [b32_e, b32_t]
      have : (q - -149).toNat + 1 ≤ 158 := by omega
      omega
  · rw [if_neg e]
    unfold FP.Core.encode
    dsimp only
    rw [b32_t, b32_mn, if_neg (by omega)]
    unfold FP.Core.assemble
    rw [b32_e, b32_t]
    have : (q + 1 - -149).toNat + 1 ≤ 159 := by omega
    omega
theorem i2f_d (v : Int32) : ∃ s c q, FP.Core.decode FP.Core.b32 (FP.i2f v).toNat = .fin s c q ∧ (v ≠ 0 → c ≠ 0) := by
  by_cases h : v = 0
  · subst h
    exact ⟨false, 0, -149, by decide +kernel, fun q => absurd rfl q⟩
  · have h1 := Int32.toInt_lt v
    have h2 := Int32.le_toInt v
    have h0 : v.toInt.natAbs ≠ 0 := fun q => h (Int32.toInt_inj.mp (by rw [Int32.toInt_zero]; omega))
    obtain ⟨a, b⟩ := i2f_r (s := decide (v.toInt < 0)) h0 (by omega)
    have e : (FP.i2f v).toNat % 2147483648 = FP.Core.encode FP.Core.b32 (FP.Core.roundRatio FP.Core.b32 (decide (v.toInt < 0)) v.toInt.natAbs 1 0) % 2147483648 := by
      show (UInt32.ofNat (FP.Core.encode FP.Core.b32 (FP.Core.round FP.Core.b32 (FP.Core.ofInt v.toInt)))).toNat % 2147483648 = _
      rw [UInt32.toNat_ofNat']
      show FP.Core.encode FP.Core.b32 (FP.Core.roundRatio FP.Core.b32 (decide (v.toInt < 0)) v.toInt.natAbs 1 0) % 2 ^ 32 % 2147483648 = _
      omega
    obtain ⟨s, c, q, x1, x2⟩ := de32f (n := (FP.i2f v).toNat) (by rw [e]; exact b)
    exact ⟨s, c, q, x1, fun _ => x2 (by omega)⟩
theorem nn_div {u v : Int32} (h : ¬ v = 0) : nn32 (FP.fdiv (FP.i2f u) (FP.i2f v)) = true := by
  rw [nn_nat]
  obtain ⟨s, c, q, e1, -⟩ := i2f_d u
  obtain ⟨t, d, r, e2, e3⟩ := i2f_d v
  show (UInt32.ofNat (FP.Core.encode FP.Core.b32 (FP.Core.quotient FP.Core.b32 (FP.Core.decode FP.Core.b32 (FP.i2f u).toNat) (FP.Core.decode FP.Core.b32 (FP.i2f v).toNat)))).toNat % 2147483648 ≤ 2139095040
  rw [e1, e2, UInt32.toNat_ofNat']
  unfold FP.Core.quotient
  dsimp only
  rw [if_neg (e3 h)]
  have := en32 (rr32 (s := s != t) (num := c) (den := d) (e := q - r))
  omega
theorem n_f2d {r : UInt32} (h : nn32 r = true) : vf_n64 (FP.f2d r) := by
  rw [nn_nat] at h
  have hd := de32 h
  have hn : FP.Core.fIsNaN r = false := decide_eq_false hd
  unfold FP.f2d
  rw [hn, n64_nat]
  show (UInt64.ofNat (FP.Core.encode FP.Core.b64 (FP.Core.round FP.Core.b64 (FP.Core.decode FP.Core.b32 r.toNat)))).toNat % 9223372036854775808 ≤ 9218868437227405312
  rw [UInt64.toNat_ofNat']
  have : okD 53 971 (FP.Core.round FP.Core.b64 (FP.Core.decode FP.Core.b32 r.toNat)) := by
    cases e : FP.Core.decode FP.Core.b32 r.toNat with
    | nan => exact absurd e hd
    | inf s => exact trivial
    | fin s c q => exact rr64
  have := en64 this
  omega
/-- the share of the work, on both sides -/
theorem ok_share (fu : Nat) (x : Int32) {m : Mem} (g : GR m m) : ∃ r, F_X6_workShare fu x m = some (r, m) ∧ F_X7_workShare fu x m = some (r, m) ∧ vf_n64 (FP.f2d r) := by
  obtain ⟨M, c, h, hi, hc⟩ := g.1
  obtain ⟨z, ez⟩ : ∃ z, z = m 360 := ⟨_, rfl⟩
  have em : zs m z = m := by rw [ez, zs_self]
  rw [← ez] at h hi
  unfold F_X6_workShare F_X7_workShare
  rcases pk_ix x (n := 3) (by decide) with e | e | ⟨j, hj, rfl⟩
  · obtain ⟨e1, e2⟩ := isKind_no (fu := fu) (m := m) (w := m) (Or.inl e)
    rw [e1, e2, ob_s, ob_s, if_pos (show (0 : Int32) = 0 from rfl), if_pos (show (0 : Int32) = 0 from rfl)]
    exact ⟨_, rfl, rfl, n_f2d (by decide)⟩
  · obtain ⟨e1, e2⟩ := isKind_no (fu := fu) (m := m) (w := m) (Or.inr e)
    rw [e1, e2, ob_s, ob_s, if_pos (show (0 : Int32) = 0 from rfl), if_pos (show (0 : Int32) = 0 from rfl)]
    exact ⟨_, rfl, rfl, n_f2d (by decide)⟩
  · obtain ⟨e1, e2⟩ := isKind_yes (fu := fu) (m := m) (w := m) hj
    have g22 : ∀ {β : Type} (y : Option β), gd (inb 22 395) y = y := fun y => gd_in (i := 22) y (by decide) (by decide)
    have g23 : ∀ {β : Type} (y : Option β), gd (inb 23 395) y = y := fun y => gd_in (i := 23) y (by decide) (by decide)
    have g24 : ∀ {β : Type} (y : Option β), gd (inb 24 395) y = y := fun y => gd_in (i := 24) y (by decide) (by decide)
    have t22 : (22 : Int32).toNatClampNeg = 22 := tn 22 (by decide)
    have t23 : (23 : Int32).toNatClampNeg = 23 := tn 23 (by decide)
    have t24 : (24 : Int32).toNatClampNeg = 24 := tn 24 (by decide)
    have k0 : F_X4_lane fu 1 0 m = some (some (1 + (5 + 7 * 0)), m) := ln_v (k := 0) (by omega)
    have k1 : F_X4_lane fu 1 1 m = some (some (1 + (5 + 7 * 1)), m) := ln_v (k := 1) (by omega)
    have k2 : F_X4_lane fu 1 2 m = some (some (1 + (5 + 7 * 2)), m) := ln_v (k := 2) (by omega)
    rw [e1, e2, ob_s, ob_s, if_neg (show ¬ (1 : Int32) = 0 by decide), if_neg (show ¬ (1 : Int32) = 0 by decide), k0, oq_s, k1, oq_s, bd_s, k2, oq_s, bd_s, v_wk h (k := 0) (by omega), v_wk h (k := 1) (by omega), v_wk h (k := 2) (by omega), g22, g23, bd_s, g24, bd_s, t22, t23, t24, ← ez]
    by_cases s0 : z (22 + 0) + z (22 + 1) + z (22 + 2) = 0
    · rw [if_pos s0, if_pos (show z 22 + z 23 + z 24 = 0 from s0)]
      exact ⟨_, rfl, rfl, n_f2d (by decide)⟩
    · rw [if_neg s0, if_neg (show ¬ z 22 + z 23 + z 24 = 0 from s0), ln_v hj, oq_s, v_wk h hj, bd_s, show (22 : Int32) = nI 22 from rfl, nI_add, gd_in _ (by omega) (by omega), tn (22 + j) (by omega), show FP.fdiv (FP.i2f (z (22 + j))) (FP.i2f (z (22 + 0) + z (22 + 1) + z (22 + 2))) = FP.fdiv (FP.i2f (z (22 + j))) (FP.i2f (z 22 + z 23 + z 24)) from rfl, nn_div s0, gd_t]
      exact ⟨_, rfl, rfl, n_f2d (nn_div s0)⟩
