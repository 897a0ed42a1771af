set_option maxRecDepth 20000 in
theorem m_work {fu k M c B : Nat} {w : Mem} {z : Nat → Int32} (h : Inv z M c B 99) (hk : k < 3) (hL : ¬ z (25 + k) ≤ 0) (hf : 9 < fu) : F_X7_work fu (nI k) (zs w z) = some ((zWork z k).1, zs w (zWork z k).2) := by
  obtain ⟨hL0, q, q1, q2, q3, q4⟩ := Inv_first h hk hL
  have hM := h.1.2.1
  have hq : q < 32 := by omega
  obtain ⟨-, -, s1, s2⟩ := Inv_kd h q1
  obtain ⟨x1, x2, -⟩ := h.2.2.1 k hk
  obtain ⟨n, n1, n2, n3⟩ := (h.2.1.2.2.2.2.1 k hk).1
  obtain ⟨L, hLe⟩ : ∃ L, ln z k = L + 1 := ⟨ln z k - 1, by omega⟩
  have hnz : ¬ z (4 + 4 * k) = 0 := by rw [n3]; exact nI_ne0 n1 (by omega)
  unfold F_X7_work zWork
  rw [q3, inq_0 hk, ob_s, q2, put_3 hq, ov_s, of_5 hq, ob_s, bd_s, put_5 hq, ov_s, bd_s, ia_22, gd_in _ (by omega) (by omega), tn (22 + k) (by omega), zs_at, bd_s, gd_in _ (by omega) (by omega), mput_zs, bd_s, bd_s, ia_19, gd_in _ (by omega) (by omega), ofc_0 hk, ob_s]
  rw [upd_n _ _ (show 80 + 10 * q ≠ 78 + 10 * q by omega), upd_n _ _ (show 22 + k ≠ 80 + 10 * q by omega), upd_n _ _ (show 22 + k ≠ 78 + 10 * q by omega), upd_n _ _ (show 4 + 4 * k ≠ 22 + k by omega), upd_n _ _ (show 4 + 4 * k ≠ 80 + 10 * q by omega), upd_n _ _ (show 4 + 4 * k ≠ 78 + 10 * q by omega), nz_of hnz, gd_t, bd_s, bd_s, tn (19 + k) (by omega), zs_at, upd_n _ _ (show 19 + k ≠ 22 + k by omega), upd_n _ _ (show 19 + k ≠ 80 + 10 * q by omega), upd_n _ _ (show 19 + k ≠ 78 + 10 * q by omega), gd_in _ (by omega) (by omega), bd_s, mput_zs]
  rw [show upd (upd (upd (upd z (78 + 10 * q) 1) (80 + 10 * q) (z (80 + 10 * q) + 1)) (22 + k) (z (22 + k) + 1)) (19 + k) (z (19 + k) + 2520 / z (4 + 4 * k)) = zStep z q k from rfl]
  have y80 : zStep z q k (80 + 10 * q) = z (80 + 10 * q) + 1 := by
    unfold zStep
    rw [upd_n _ _ (show 80 + 10 * q ≠ 19 + k by omega), upd_n _ _ (show 80 + 10 * q ≠ 22 + k by omega), upd_s]
  have yo : ∀ i, i ≠ 78 + 10 * q → i ≠ 80 + 10 * q → i ≠ 22 + k → i ≠ 19 + k → zStep z q k i = z i := fun i a b c d => zStep_o a b c d
  have y77 := yo (77 + 10 * q) (by omega) (by omega) (by omega) (by omega)
  have y25 := yo (25 + k) (by omega) (by omega) (by omega) (by omega)
  have y76 := yo (76 + 10 * q) (by omega) (by omega) (by omega) (by omega)
  rw [of_5 hq, ob_s, of_2 hq, ob_s, y80, y77]
  by_cases c1 : z (77 + 10 * q) ≤ z (80 + 10 * q) + 1
  · rw [if_pos c1]
    show _ = some ((if z (77 + 10 * q) ≤ z (80 + 10 * q) + 1 then ((1 : Int32), zDone (zStep z q k) q k (sd z q)) else (0, zStep z q k)).1, zs w (if z (77 + 10 * q) ≤ z (80 + 10 * q) + 1 then ((1 : Int32), zDone (zStep z q k) q k (sd z q)) else (0, zStep z q k)).2)
    rw [if_pos c1]
    show _ = some ((1 : Int32), zs w (zDone (zStep z q k) q k (sd z q)))
    have ly : ln (zStep z q k) k = L + 1 := by rw [ln_c y25, hLe]
    generalize zStep z q k = y at *
    have o : ∀ i, 52 ≤ i → zLeave y k 0 i = y i := fun i hi => zLeave_o hk (by omega) (by omega) (by omega)
    have o16 : zLeave y k 0 (16 + k) = y (16 + k) := zLeave_o hk (by omega) (by omega) (by omega)
    rw [show (0 : Int32) = nI 0 from rfl, m_leave hk (show L ≤ 7 by omega) (by rw [y25, x1, hLe]) (by omega) hf, ov_s, put_3 hq, ov_s, gl_67, tl_67, zs_at, put_8 hq, ov_s, of_1 hq, ob_s, bd_s]
    rw [upd_n _ _ (show 67 ≠ 78 + 10 * q by omega), o _ (by omega), upd_n _ _ (show 76 + 10 * q ≠ 83 + 10 * q by omega), upd_n _ _ (show 76 + 10 * q ≠ 78 + 10 * q by omega), o _ (by omega), y76, s2, ia_70, gd_in _ (by omega) (by omega), of_2 hq, ob_s, bd_s, gd_in _ (by omega) (by omega), bd_s, bd_s, bd_s, tn (70 + sd z q) (by omega), zs_at, gd_in _ (by omega) (by omega), bd_s, mput_zs]
    rw [upd_n _ _ (show 77 + 10 * q ≠ 83 + 10 * q by omega), upd_n _ _ (show 77 + 10 * q ≠ 78 + 10 * q by omega), o _ (by omega), upd_n _ _ (show 70 + sd z q ≠ 83 + 10 * q by omega), upd_n _ _ (show 70 + sd z q ≠ 78 + 10 * q by omega), o _ (by omega), of_4 hq, ob_s, of_2 hq, ob_s, bd_s]
    rw [upd_n _ _ (show 79 + 10 * q ≠ 70 + sd z q by omega), upd_n _ _ (show 79 + 10 * q ≠ 83 + 10 * q by omega), upd_n _ _ (show 79 + 10 * q ≠ 78 + 10 * q by omega), o _ (by omega), upd_n _ _ (show 77 + 10 * q ≠ 70 + sd z q by omega), upd_n _ _ (show 77 + 10 * q ≠ 83 + 10 * q by omega), upd_n _ _ (show 77 + 10 * q ≠ 78 + 10 * q by omega), o _ (by omega)]
    unfold zDone
    show _ = some ((1 : Int32), zs w (if y (79 + 10 * q) - y (77 + 10 * q) ≤ 0 then upd (upd (upd (upd (zLeave y k 0) (78 + 10 * q) 2) (83 + 10 * q) (y 67)) (70 + sd z q) (y (70 + sd z q) + (16 * y (77 + 10 * q) - y (70 + sd z q)) / 4)) (16 + k) (y (16 + k) + (y (79 + 10 * q) - y (77 + 10 * q))) else zAdd (upd (upd (upd (zLeave y k 0) (78 + 10 * q) 2) (83 + 10 * q) (y 67)) (70 + sd z q) (y (70 + sd z q) + (16 * y (77 + 10 * q) - y (70 + sd z q)) / 4)) k (y (79 + 10 * q) - y (77 + 10 * q))))
    by_cases c2 : y (79 + 10 * q) - y (77 + 10 * q) ≤ 0
    · rw [if_pos (show y (79 + 10 * q) - y (77 + 10 * q) ≤ nI 0 from c2), if_pos c2, bd_s, ia_16, gd_in _ (by omega) (by omega), tn (16 + k) (by omega), zs_at, bd_s, gd_in _ (by omega) (by omega), bd_s, mput_zs, upd_n _ _ (show 16 + k ≠ 70 + sd z q by omega), upd_n _ _ (show 16 + k ≠ 83 + 10 * q by omega), upd_n _ _ (show 16 + k ≠ 78 + 10 * q by omega), o16]
    · rw [if_neg (show ¬ y (79 + 10 * q) - y (77 + 10 * q) ≤ nI 0 from c2), if_neg c2, m_add hk, ov_s]
  · rw [if_neg c1]
    show _ = some ((if z (77 + 10 * q) ≤ z (80 + 10 * q) + 1 then ((1 : Int32), zDone (zStep z q k) q k (sd z q)) else (0, zStep z q k)).1, zs w (if z (77 + 10 * q) ≤ z (80 + 10 * q) + 1 then ((1 : Int32), zDone (zStep z q k) q k (sd z q)) else (0, zStep z q k)).2)
    rw [if_neg c1]
theorem zWork_1 (z : Nat → Int32) (k : Nat) : (zWork z k).1 = 1 ∨ (zWork z k).1 = 0 := by
  unfold zWork
  show (if z (77 + 10 * (z (28 + 8 * k)).toNatClampNeg) ≤ z (80 + 10 * (z (28 + 8 * k)).toNatClampNeg) + 1 then ((1 : Int32), zDone (zStep z (z (28 + 8 * k)).toNatClampNeg k) (z (28 + 8 * k)).toNatClampNeg k (sd z (z (28 + 8 * k)).toNatClampNeg)) else (0, zStep z (z (28 + 8 * k)).toNatClampNeg k)).1 = 1 ∨ _
  split
  · exact Or.inl rfl
  · exact Or.inr (by rename_i h; rw [if_neg h])
