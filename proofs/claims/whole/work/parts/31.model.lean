/-! ===== the reference's array alone: its functions by their values ===== -/
def zs (w : Mem) (z : Nat → Int32) : Mem := fun a => if a = 360 then z else w a
theorem zs_at (w : Mem) (z : Nat → Int32) : zs w z 360 = z := if_pos rfl
theorem zs_ne (w : Mem) (z : Nat → Int32) {a : Nat} (h : a ≠ 360) : zs w z a = w a := if_neg h
theorem zs_self (w : Mem) : zs w (w 360) = w := by
  funext a
  by_cases h : a = 360
  · subst h; exact zs_at _ _
  · exact zs_ne _ _ h
theorem zs_zs (w : Mem) (z z2 : Nat → Int32) : zs (zs w z) z2 = zs w z2 := by
  funext a
  by_cases h : a = 360
  · subst h; rw [zs_at, zs_at]
  · rw [zs_ne _ _ h, zs_ne _ _ h, zs_ne _ _ h]
theorem mput_zs (w : Mem) (z : Nat → Int32) (i : Nat) (v : Int32) : mput (zs w z) 360 i v = zs w (upd z i v) := by
  funext a
  by_cases h : a = 360
  · subst h; rw [mput_same, zs_at, zs_at]
  · rw [mput_other _ _ _ h, zs_ne _ _ h, zs_ne _ _ h]
theorem tn (n : Nat) (h : n < 2 ^ 31) : (nI n).toNatClampNeg = n := nI_clamp h
theorem il_0 : (0 : Int32) = nI 0 := rfl
theorem il_1 : (1 : Int32) = nI 1 := rfl
theorem il_2 : (2 : Int32) = nI 2 := rfl
theorem il_3 : (3 : Int32) = nI 3 := rfl
theorem il_4 : (4 : Int32) = nI 4 := rfl
theorem il_5 : (5 : Int32) = nI 5 := rfl
theorem il_8 : (8 : Int32) = nI 8 := rfl
theorem il_10 : (10 : Int32) = nI 10 := rfl
theorem il_16 : (16 : Int32) = nI 16 := rfl
theorem il_19 : (19 : Int32) = nI 19 := rfl
theorem il_22 : (22 : Int32) = nI 22 := rfl
theorem il_25 : (25 : Int32) = nI 25 := rfl
theorem il_28 : (28 : Int32) = nI 28 := rfl
theorem il_52 : (52 : Int32) = nI 52 := rfl
theorem il_70 : (70 : Int32) = nI 70 := rfl
theorem il_75 : (75 : Int32) = nI 75 := rfl
theorem il_395 : (395 : Int32) = nI 395 := rfl
theorem ia_4 (k : Nat) : (4 : Int32) + nI k = nI (4 + k) := by rw [show (4 : Int32) = nI 4 from rfl, nI_add]
theorem ia_16 (k : Nat) : (16 : Int32) + nI k = nI (16 + k) := by rw [show (16 : Int32) = nI 16 from rfl, nI_add]
theorem ia_19 (k : Nat) : (19 : Int32) + nI k = nI (19 + k) := by rw [show (19 : Int32) = nI 19 from rfl, nI_add]
theorem ia_22 (k : Nat) : (22 : Int32) + nI k = nI (22 + k) := by rw [show (22 : Int32) = nI 22 from rfl, nI_add]
theorem ia_25 (k : Nat) : (25 : Int32) + nI k = nI (25 + k) := by rw [show (25 : Int32) = nI 25 from rfl, nI_add]
theorem ia_28 (k : Nat) : (28 : Int32) + nI k = nI (28 + k) := by rw [show (28 : Int32) = nI 28 from rfl, nI_add]
theorem ia_52 (k : Nat) : (52 : Int32) + nI k = nI (52 + k) := by rw [show (52 : Int32) = nI 52 from rfl, nI_add]
theorem ia_70 (k : Nat) : (70 : Int32) + nI k = nI (70 + k) := by rw [show (70 : Int32) = nI 70 from rfl, nI_add]
theorem ia_75 (k : Nat) : (75 : Int32) + nI k = nI (75 + k) := by rw [show (75 : Int32) = nI 75 from rfl, nI_add]
theorem ia_395 (k : Nat) : (395 : Int32) + nI k = nI (395 + k) := by rw [show (395 : Int32) = nI 395 from rfl, nI_add]
theorem ia_0 (k : Nat) : (0 : Int32) + nI k = nI (0 + k) := by rw [show (0 : Int32) = nI 0 from rfl, nI_add]
theorem im_4 (k : Nat) : (4 : Int32) * nI k = nI (4 * k) := by rw [show (4 : Int32) = nI 4 from rfl, pk_mul]
theorem im_5 (k : Nat) : (5 : Int32) * nI k = nI (5 * k) := by rw [show (5 : Int32) = nI 5 from rfl, pk_mul]
theorem im_8 (k : Nat) : (8 : Int32) * nI k = nI (8 * k) := by rw [show (8 : Int32) = nI 8 from rfl, pk_mul]
theorem im_10 (k : Nat) : (10 : Int32) * nI k = nI (10 * k) := by rw [show (10 : Int32) = nI 10 from rfl, pk_mul]
theorem im_395 (k : Nat) : (395 : Int32) * nI k = nI (395 * k) := by rw [show (395 : Int32) = nI 395 from rfl, pk_mul]
theorem of_v {fu r g : Nat} {w : Mem} {z : Nat → Int32} (hr : r < 32) (hg : g < 10) : F_X7_of fu (nI r) (nI g) (zs w z) = some (z (75 + 10 * r + g), zs w z) := by
  unfold F_X7_of
  simp only [bd_s, im_10, ia_75, nI_add]
  rw [inb_nI (by omega) (by omega), gd_t, tn _ (by omega), zs_at]
theorem put_v {fu r g : Nat} {v : Int32} {w : Mem} {z : Nat → Int32} (hr : r < 32) (hg : g < 10) : F_X7_put fu (nI r) (nI g) v (zs w z) = some (zs w (upd z (75 + 10 * r + g) v)) := by
  unfold F_X7_put
  simp only [bd_s, im_10, ia_75, nI_add]
  rw [inb_nI (by omega) (by omega), gd_t, tn _ (by omega), mput_zs]
theorem ofc_v {fu k s : Nat} {w : Mem} {z : Nat → Int32} (hk : k < 3) (hs : s < 4) : F_X7_ofClass fu (nI k) (nI s) (zs w z) = some (z (4 + 4 * k + s), zs w z) := by
  unfold F_X7_ofClass
  simp only [bd_s, im_4, ia_4, nI_add]
  rw [inb_nI (by omega) (by omega), gd_t, tn _ (by omega), zs_at]
theorem inq_v {fu k p : Nat} {w : Mem} {z : Nat → Int32} (hk : k < 3) (hp : p < 8) : F_X7_inQueue fu (nI k) (nI p) (zs w z) = some (z (28 + 8 * k + p), zs w z) := by
  unfold F_X7_inQueue
  simp only [bd_s, im_8, ia_28, nI_add]
  rw [inb_nI (by omega) (by omega), gd_t, tn _ (by omega), zs_at]
theorem of_0 {fu r : Nat} {w : Mem} {z : Nat → Int32} (hr : r < 32) : F_X7_of fu (nI r) 0 (zs w z) = some (z (75 + 10 * r), zs w z) := by
  have h := of_v (fu := fu) (w := w) (z := z) hr (show 0 < 10 by decide)
  rw [show 75 + 10 * r + 0 = 75 + 10 * r by omega] at h
  exact h
theorem put_0 {fu r : Nat} {v : Int32} {w : Mem} {z : Nat → Int32} (hr : r < 32) : F_X7_put fu (nI r) 0 v (zs w z) = some (zs w (upd z (75 + 10 * r) v)) := by
  have h := put_v (fu := fu) (v := v) (w := w) (z := z) hr (show 0 < 10 by decide)
  rw [show 75 + 10 * r + 0 = 75 + 10 * r by omega] at h
  exact h
theorem of_1 {fu r : Nat} {w : Mem} {z : Nat → Int32} (hr : r < 32) : F_X7_of fu (nI r) 1 (zs w z) = some (z (76 + 10 * r), zs w z) := by
  have h := of_v (fu := fu) (w := w) (z := z) hr (show 1 < 10 by decide)
  rw [show 75 + 10 * r + 1 = 76 + 10 * r by omega] at h
  exact h
theorem put_1 {fu r : Nat} {v : Int32} {w : Mem} {z : Nat → Int32} (hr : r < 32) : F_X7_put fu (nI r) 1 v (zs w z) = some (zs w (upd z (76 + 10 * r) v)) := by
  have h := put_v (fu := fu) (v := v) (w := w) (z := z) hr (show 1 < 10 by decide)
  rw [show 75 + 10 * r + 1 = 76 + 10 * r by omega] at h
  exact h
theorem of_2 {fu r : Nat} {w : Mem} {z : Nat → Int32} (hr : r < 32) : F_X7_of fu (nI r) 2 (zs w z) = some (z (77 + 10 * r), zs w z) := by
  have h := of_v (fu := fu) (w := w) (z := z) hr (show 2 < 10 by decide)
  rw [show 75 + 10 * r + 2 = 77 + 10 * r by omega] at h
  exact h
theorem put_2 {fu r : Nat} {v : Int32} {w : Mem} {z : Nat → Int32} (hr : r < 32) : F_X7_put fu (nI r) 2 v (zs w z) = some (zs w (upd z (77 + 10 * r) v)) := by
  have h := put_v (fu := fu) (v := v) (w := w) (z := z) hr (show 2 < 10 by decide)
  rw [show 75 + 10 * r + 2 = 77 + 10 * r by omega] at h
  exact h
theorem of_3 {fu r : Nat} {w : Mem} {z : Nat → Int32} (hr : r < 32) : F_X7_of fu (nI r) 3 (zs w z) = some (z (78 + 10 * r), zs w z) := by
  have h := of_v (fu := fu) (w := w) (z := z) hr (show 3 < 10 by decide)
  rw [show 75 + 10 * r + 3 = 78 + 10 * r by omega] at h
  exact h
theorem put_3 {fu r : Nat} {v : Int32} {w : Mem} {z : Nat → Int32} (hr : r < 32) : F_X7_put fu (nI r) 3 v (zs w z) = some (zs w (upd z (78 + 10 * r) v)) := by
  have h := put_v (fu := fu) (v := v) (w := w) (z := z) hr (show 3 < 10 by decide)
  rw [show 75 + 10 * r + 3 = 78 + 10 * r by omega] at h
  exact h
theorem of_4 {fu r : Nat} {w : Mem} {z : Nat → Int32} (hr : r < 32) : F_X7_of fu (nI r) 4 (zs w z) = some (z (79 + 10 * r), zs w z) := by
  have h := of_v (fu := fu) (w := w) (z := z) hr (show 4 < 10 by decide)
  rw [show 75 + 10 * r + 4 = 79 + 10 * r by omega] at h
  exact h
theorem put_4 {fu r : Nat} {v : Int32} {w : Mem} {z : Nat → Int32} (hr : r < 32) : F_X7_put fu (nI r) 4 v (zs w z) = some (zs w (upd z (79 + 10 * r) v)) := by
  have h := put_v (fu := fu) (v := v) (w := w) (z := z) hr (show 4 < 10 by decide)
  rw [show 75 + 10 * r + 4 = 79 + 10 * r by omega] at h
  exact h
theorem of_5 {fu r : Nat} {w : Mem} {z : Nat → Int32} (hr : r < 32) : F_X7_of fu (nI r) 5 (zs w z) = some (z (80 + 10 * r), zs w z) := by
  have h := of_v (fu := fu) (w := w) (z := z) hr (show 5 < 10 by decide)
  rw [show 75 + 10 * r + 5 = 80 + 10 * r by omega] at h
  exact h
theorem put_5 {fu r : Nat} {v : Int32} {w : Mem} {z : Nat → Int32} (hr : r < 32) : F_X7_put fu (nI r) 5 v (zs w z) = some (zs w (upd z (80 + 10 * r) v)) := by
  have h := put_v (fu := fu) (v := v) (w := w) (z := z) hr (show 5 < 10 by decide)
  rw [show 75 + 10 * r + 5 = 80 + 10 * r by omega] at h
  exact h
theorem of_6 {fu r : Nat} {w : Mem} {z : Nat → Int32} (hr : r < 32) : F_X7_of fu (nI r) 6 (zs w z) = some (z (81 + 10 * r), zs w z) := by
  have h := of_v (fu := fu) (w := w) (z := z) hr (show 6 < 10 by decide)
  rw [show 75 + 10 * r + 6 = 81 + 10 * r by omega] at h
  exact h
theorem put_6 {fu r : Nat} {v : Int32} {w : Mem} {z : Nat → Int32} (hr : r < 32) : F_X7_put fu (nI r) 6 v (zs w z) = some (zs w (upd z (81 + 10 * r) v)) := by
  have h := put_v (fu := fu) (v := v) (w := w) (z := z) hr (show 6 < 10 by decide)
  rw [show 75 + 10 * r + 6 = 81 + 10 * r by omega] at h
  exact h
theorem of_7 {fu r : Nat} {w : Mem} {z : Nat → Int32} (hr : r < 32) : F_X7_of fu (nI r) 7 (zs w z) = some (z (82 + 10 * r), zs w z) := by
  have h := of_v (fu := fu) (w := w) (z := z) hr (show 7 < 10 by decide)
  rw [show 75 + 10 * r + 7 = 82 + 10 * r by omega] at h
  exact h
theorem put_7 {fu r : Nat} {v : Int32} {w : Mem} {z : Nat → Int32} (hr : r < 32) : F_X7_put fu (nI r) 7 v (zs w z) = some (zs w (upd z (82 + 10 * r) v)) := by
  have h := put_v (fu := fu) (v := v) (w := w) (z := z) hr (show 7 < 10 by decide)
  rw [show 75 + 10 * r + 7 = 82 + 10 * r by omega] at h
  exact h
theorem of_8 {fu r : Nat} {w : Mem} {z : Nat → Int32} (hr : r < 32) : F_X7_of fu (nI r) 8 (zs w z) = some (z (83 + 10 * r), zs w z) := by
  have h := of_v (fu := fu) (w := w) (z := z) hr (show 8 < 10 by decide)
  rw [show 75 + 10 * r + 8 = 83 + 10 * r by omega] at h
  exact h
theorem put_8 {fu r : Nat} {v : Int32} {w : Mem} {z : Nat → Int32} (hr : r < 32) : F_X7_put fu (nI r) 8 v (zs w z) = some (zs w (upd z (83 + 10 * r) v)) := by
  have h := put_v (fu := fu) (v := v) (w := w) (z := z) hr (show 8 < 10 by decide)
  rw [show 75 + 10 * r + 8 = 83 + 10 * r by omega] at h
  exact h
theorem of_9 {fu r : Nat} {w : Mem} {z : Nat → Int32} (hr : r < 32) : F_X7_of fu (nI r) 9 (zs w z) = some (z (84 + 10 * r), zs w z) := by
  have h := of_v (fu := fu) (w := w) (z := z) hr (show 9 < 10 by decide)
  rw [show 75 + 10 * r + 9 = 84 + 10 * r by omega] at h
  exact h
theorem put_9 {fu r : Nat} {v : Int32} {w : Mem} {z : Nat → Int32} (hr : r < 32) : F_X7_put fu (nI r) 9 v (zs w z) = some (zs w (upd z (84 + 10 * r) v)) := by
  have h := put_v (fu := fu) (v := v) (w := w) (z := z) hr (show 9 < 10 by decide)
  rw [show 75 + 10 * r + 9 = 84 + 10 * r by omega] at h
  exact h
theorem ofc_0 {fu k : Nat} {w : Mem} {z : Nat → Int32} (hk : k < 3) : F_X7_ofClass fu (nI k) 0 (zs w z) = some (z (4 + 4 * k), zs w z) := by
  have h := ofc_v (fu := fu) (w := w) (z := z) hk (show 0 < 4 by decide)
  rw [show 4 + 4 * k + 0 = 4 + 4 * k by omega] at h
  exact h
theorem ofc_1 {fu k : Nat} {w : Mem} {z : Nat → Int32} (hk : k < 3) : F_X7_ofClass fu (nI k) 1 (zs w z) = some (z (5 + 4 * k), zs w z) := by
  have h := ofc_v (fu := fu) (w := w) (z := z) hk (show 1 < 4 by decide)
  rw [show 4 + 4 * k + 1 = 5 + 4 * k by omega] at h
  exact h
theorem ofc_2 {fu k : Nat} {w : Mem} {z : Nat → Int32} (hk : k < 3) : F_X7_ofClass fu (nI k) 2 (zs w z) = some (z (6 + 4 * k), zs w z) := by
  have h := ofc_v (fu := fu) (w := w) (z := z) hk (show 2 < 4 by decide)
  rw [show 4 + 4 * k + 2 = 6 + 4 * k by omega] at h
  exact h
theorem ofc_3 {fu k : Nat} {w : Mem} {z : Nat → Int32} (hk : k < 3) : F_X7_ofClass fu (nI k) 3 (zs w z) = some (z (7 + 4 * k), zs w z) := by
  have h := ofc_v (fu := fu) (w := w) (z := z) hk (show 3 < 4 by decide)
  rw [show 4 + 4 * k + 3 = 7 + 4 * k by omega] at h
  exact h
theorem ofc0_0 {fu : Nat} {w : Mem} {z : Nat → Int32} : F_X7_ofClass fu 0 0 (zs w z) = some (z 4, zs w z) := ofc_0 (k := 0) (by decide)
theorem ofc0_1 {fu : Nat} {w : Mem} {z : Nat → Int32} : F_X7_ofClass fu 1 0 (zs w z) = some (z 8, zs w z) := ofc_0 (k := 1) (by decide)
theorem ofc0_2 {fu : Nat} {w : Mem} {z : Nat → Int32} : F_X7_ofClass fu 2 0 (zs w z) = some (z 12, zs w z) := ofc_0 (k := 2) (by decide)
theorem inq_0 {fu k : Nat} {w : Mem} {z : Nat → Int32} (hk : k < 3) : F_X7_inQueue fu (nI k) 0 (zs w z) = some (z (28 + 8 * k), zs w z) := inq_v (p := 0) hk (by decide)
/-! what is done with the array -/
def zCost (z : Nat → Int32) (s : Nat) : Int32 := if 1 ≤ z (70 + s) / 16 then z (70 + s) / 16 else 1
def zLeft (z : Nat → Int32) (q : Nat) : Int32 := if 1 ≤ z (79 + 10 * q) - z (80 + 10 * q) then z (79 + 10 * q) - z (80 + 10 * q) else 1
def zBack (z : Nat → Int32) (k : Nat) : Nat → Nat → Int32 → Int32
  | _, 0, s => s
  | p, n + 1, s => zBack z k (p + 1) n (s + zLeft z (z (28 + 8 * k + p)).toNatClampNeg)
def ln (z : Nat → Int32) (k : Nat) : Nat := (z (25 + k)).toNatClampNeg
def zWhy (z : Nat → Int32) (k : Nat) (p : Int32) : Int32 :=
  if p ≤ z (7 + 4 * k) then
    (if z (25 + k) = 8 then 2
     else if (zBack z k 0 (ln z k) 0 + p) * (z 4 + z 8 + z 12) / (z (4 + 4 * k) * z 0) ≤ z 1 then (if p ≤ z (16 + k) then 0 else 4) else 3)
  else 1
def zAdd (z : Nat → Int32) (k : Nat) (a : Int32) : Nat → Int32 :=
  upd z (16 + k) (if z (16 + k) ≤ z (6 + 4 * k) then (if z (6 + 4 * k) ≤ z (16 + k) + a then z (6 + 4 * k) else z (16 + k) + a) else z (16 + k))
def zRefuse (z : Nat → Int32) (r k j : Nat) : Nat → Int32 :=
  let z1 := upd (upd z (51 + 5 * k + j) (z (51 + 5 * k + j) + 1)) (82 + 10 * r) (nI j)
  if z 3 < z (81 + 10 * r) then upd (upd z1 (78 + 10 * r) 4) (83 + 10 * r) (-100005)
  else upd (upd z1 (78 + 10 * r) 3) (83 + 10 * r) (z 67 + (z 2 <<< ((z (81 + 10 * r) - 1) &&& 31)))
/-- the least pass of the other classes whose queues hold something, as far as the class j, or -100005 -/
def zLst (z : Nat → Int32) (k : Nat) : Nat → Int32
  | 0 => -100005
  | j + 1 => if j = k then zLst z k j else if z (25 + j) ≤ 0 then zLst z k j else if zLst z k j < 0 then z (19 + j) else if zLst z k j ≤ z (19 + j) then zLst z k j else z (19 + j)
def zCatch (z : Nat → Int32) (k : Nat) : Nat → Int32 :=
  if z (25 + k) = 0 then (if zLst z k 3 ≤ z (19 + k) then z else upd z (19 + k) (zLst z k 3)) else z
/-- a request is put at the end of its class's queue -/
def zJoin (z : Nat → Int32) (r k : Nat) : Nat → Int32 :=
  upd (upd (upd (upd (upd z (28 + 8 * k + ln z k) (nI r)) (25 + k) (z (25 + k) + 1)) (78 + 10 * r) 0) (84 + 10 * r) (z 67)) (83 + 10 * r) (-100005)
def zAdmit (z : Nat → Int32) (r k : Nat) : Nat → Int32 := zJoin (zCatch (upd z (16 + k) (z (16 + k) - z (79 + 10 * r))) k) r k
def zOffer (z : Nat → Int32) (r k s : Nat) : Int32 × (Nat → Int32) :=
  let z1 := upd (upd z (81 + 10 * r) (z (81 + 10 * r) + 1)) (79 + 10 * r) (zCost z s)
  let j := zWhy z1 k (zCost z s)
  (j, if j ≤ 0 then zAdmit z1 r k else zRefuse z1 r k j.toNatClampNeg)
/-- n places move down, from the place p on -/
def zShift (z : Nat → Int32) (k : Nat) : Nat → Nat → (Nat → Int32)
  | _, 0 => z
  | p, n + 1 => zShift (upd z (28 + 8 * k + p) (z (28 + 8 * k + (p + 1)))) k (p + 1) n
def zLeave (z : Nat → Int32) (k p : Nat) : Nat → Int32 := zShift (upd z (25 + k) (z (25 + k) - 1)) k p (ln z k - 1 - p)
def kd (z : Nat → Int32) (r : Nat) : Nat := (z (75 + 10 * r)).toNatClampNeg
def sd (z : Nat → Int32) (r : Nat) : Nat := (z (76 + 10 * r)).toNatClampNeg
def zLate (z : Nat → Int32) (k : Nat) : Nat → Nat → (Nat → Int32)
  | _, 0 => z
  | p, n + 1 =>
    let q := (z (28 + 8 * k + p)).toNatClampNeg
    if z (78 + 10 * q) = 0 then
      (if z 67 - z (84 + 10 * q) < z 1 then zLate z k (p + 1) n
       else zLate (zAdd (zRefuse (zLeave z k p) q (kd z q) 5) k (z (79 + 10 * q))) k p n)
    else zLate z k (p + 1) n
/-- the class whose turn it is, of the first j -/
def zNext (z : Nat → Int32) : Nat → Option Nat
  | 0 => none
  | j + 1 => if z (25 + j) ≤ 0 then zNext z j else match zNext z j with
    | none => some j
    | some b => if z (19 + b) ≤ z (19 + j) then some b else some j
def zDone (z : Nat → Int32) (q k s : Nat) : Nat → Int32 :=
  let z1 := upd (upd (zLeave z k 0) (78 + 10 * q) 2) (83 + 10 * q) (z 67)
  let z2 := upd z1 (70 + s) (z (70 + s) + (16 * z (77 + 10 * q) - z (70 + s)) / 4)
  if z (79 + 10 * q) - z (77 + 10 * q) ≤ 0 then upd z2 (16 + k) (z (16 + k) + (z (79 + 10 * q) - z (77 + 10 * q))) else zAdd z2 k (z (79 + 10 * q) - z (77 + 10 * q))
def zStep (z : Nat → Int32) (q k : Nat) : Nat → Int32 :=
  upd (upd (upd (upd z (78 + 10 * q) 1) (80 + 10 * q) (z (80 + 10 * q) + 1)) (22 + k) (z (22 + k) + 1)) (19 + k) (z (19 + k) + 2520 / z (4 + 4 * k))
def zWork (z : Nat → Int32) (k : Nat) : Int32 × (Nat → Int32) :=
  let q := (z (28 + 8 * k)).toNatClampNeg
  if z (77 + 10 * q) ≤ z (80 + 10 * q) + 1 then (1, zDone (zStep z q k) q k (sd z q)) else (0, zStep z q k)
def zUnit (z : Nat → Int32) : Int32 × (Nat → Int32) := match zNext z 3 with
  | none => (0, upd z 68 (z 68 + 1))
  | some k => zWork z k
def zUnits : Nat → Int32 → (Nat → Int32) → Int32 × (Nat → Int32)
  | 0, d, z => (d, z)
  | n + 1, d, z => zUnits n (d + (zUnit z).1) (zUnit z).2
/-- the requests that are due are offered, n of them from r on -/
def zDue : Nat → Nat → (Nat → Int32) → (Nat → Int32)
  | _, 0, z => z
  | r, n + 1, z => zDue (r + 1) n (if z (78 + 10 * r) = 3 then (if z 67 < z (83 + 10 * r) then z else (zOffer z r (kd z r) (sd z r)).2) else z)
def zGain : Nat → (Nat → Int32) → (Nat → Int32)
  | 0, z => z
  | k + 1, z => zAdd (zGain k z) k (zGain k z (5 + 4 * k))
def zLates : Nat → (Nat → Int32) → (Nat → Int32)
  | 0, z => z
  | k + 1, z => zLate (zLates k z) k 0 (ln (zLates k z) k)
def zTick0 (z : Nat → Int32) (M : Nat) : Nat → Int32 := zLates 3 (zDue 0 M (zGain 3 z))
def zTick (z : Nat → Int32) (M : Nat) : Int32 × (Nat → Int32) :=
  let u := zUnits (z 0).toNatClampNeg 0 (zTick0 z M)
  (u.1, upd u.2 67 (u.2 67 + 1))
def zPass : Nat → Int32 → (Nat → Int32) → Nat → Int32 × (Nat → Int32)
  | 0, d, z, _ => (d, z)
  | n + 1, d, z, M => zPass n (d + (zTick z M).1) (zTick z M).2 M
