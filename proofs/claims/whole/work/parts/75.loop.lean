set_option maxHeartbeats 8000000 in
set_option maxRecDepth 100000 in
theorem law_loop {p : Program} {e : Env} {s : State} {m : MethodId} {below : List Frame} {meth : Method} {c : Code} {l : Launch} {b L : Nat} {xs : Nat → Int32} {D : va_G} {ad : Nat → Nat} {cI cR : ClassId} {Q : State → Prop} (C : LC p s m c b L xs D ad cI cR) (kend : ∀ (H : Heap) (locs : List Loc) (ls : Array Slot), va_S (fun q : Nat => s.heap.size ≤ q) s.heap H locs → W p l e room_1 s m #[Value.ref b] below meth c H locs 364 5491 Q (F0 m 1002 ls [])) : ∀ (d n : Nat), L < n + d → n ≤ 2052 → ∀ (H : Heap) (locs : List Loc) (ls : Array Slot) (mm : Mem), GR mm mm → va_P D vwCl (cw ad cI cR mm) H → va_S (fun q : Nat => s.heap.size ≤ q) s.heap H locs → lv_has ls 8 (lwl b ad n) → W p l e room_1 s m #[Value.ref b] below meth c H locs 364 5491 Q (F0 m 18 ls []) := by
  intro d
  induction d with
  | zero =>
    intro n hd hn9 H locs ls mm g hP hS hl
    obtain ⟨hx, hb, hml, hown, hts, hX, hbl, hi, hA, hK, hN, hL⟩ := C
    have hbA : ¬ s.heap.size ≤ b := Nat.not_le.mpr hbl
    refine lv_iload_n hx hb dL_law_18 rfl (lv_at hl 3 rfl) ?_
    refine lv_aload_n hx hb dL_law_19 rfl (lv_at hl 0 rfl) ?_
    refine va_slen hx hb hX hbl hbA hS dL_law_20 ?_
    refine lv_iconst (v := 4) hx hb dL_law_21 (by decide) ?_
    refine lv_isub hx hb dL_law_22 ?_
    refine lv_icmp_gt (tgt := 1002) hx hb dL_law_23 (by decide) (fun _ => kend _ _ ls hS) (fun c9 => ?_)
    exfalso
    apply c9
    rw [Int32.lt_iff_toInt_lt, show (4 : Int32) = nI 4 from rfl, show Int32.ofNat L = nI L from rfl, pk_sub_toInt (by omega) (by omega), nI_toInt (by omega)]
    omega
  | succ d ih =>
    intro n hd hn9 H locs ls mm g hP hS hl
    have C' := C
    obtain ⟨hx, hb, hml, hown, hts, hX, hbl, hi, hA, hK, hN, hL⟩ := C'
    have hbA : ¬ s.heap.size ≤ b := Nat.not_le.mpr hbl
    refine lv_iload_n hx hb dL_law_18 rfl (lv_at hl 3 rfl) ?_
    refine lv_aload_n hx hb dL_law_19 rfl (lv_at hl 0 rfl) ?_
    refine va_slen hx hb hX hbl hbA hS dL_law_20 ?_
    refine lv_iconst (v := 4) hx hb dL_law_21 (by decide) ?_
    refine lv_isub hx hb dL_law_22 ?_
    refine lv_icmp_gt (tgt := 1002) hx hb dL_law_23 (by decide) (fun _ => kend _ _ ls hS) (fun c9 => ?_)
    have hn : n + 4 ≤ L := by
      rw [Int32.lt_iff_toInt_lt, show (4 : Int32) = nI 4 from rfl, show Int32.ofNat L = nI L from rfl, pk_sub_toInt (by omega) (by omega), nI_toInt (by omega)] at c9
      omega
    have K : ∀ (H : Heap) (locs : List Loc) (ls : Array Slot) (mm : Mem), GR mm mm → va_P D vwCl (cw ad cI cR mm) H → va_S (fun q : Nat => s.heap.size ≤ q) s.heap H locs → lv_has ls 8 (lwl b ad n) → W p l e room_1 s m #[Value.ref b] below meth c H locs 364 5491 Q (F0 m 996 ls []) := by
      intro H locs ls mm g hP hS hl
      refine lv_iinc (v := nI (n + 4)) (lv' := [(3, .int (nI (n + 4))), (0, .ref b), (1, .ref (ad 0)), (2, .ref (ad 359))]) hx hb dL_law_996 hl (k := 3) rfl (nI_add n 4) (by decide) rfl (fun ls hl => ?_)
      refine lv_goto (tgt := 18) hx hb dL_law_999 (by decide) ?_
      exact ih (n + 4) (by omega) (by omega) H locs ls mm g hP hS (lv_sub hl [1, 2, 3, 0] rfl)
    refine lv_aload_n hx hb dL_law_26 rfl (lv_at hl 0 rfl) ?_
    refine lv_iload_n hx hb dL_law_27 rfl (lv_at hl 3 rfl) ?_
    refine va_sld hx hb hX hbl hbA hS (vp_in_nI (show n < L by omega) (by omega)) dL_law_28 ?_
    refine lv_bipush (v := 63) hx hb dL_law_29 (by decide) ?_
    refine lv_iand hx hb dL_law_31 ?_
    refine lv_topi (fun v ev => ?_)
    by_cases ot : v.toInt < 0 ∨ 33 < v.toInt
    · exact lv_tableOut (tgt := 996) hx hb dL_law_32 ot (by decide) (K _ _ ls mm g hP hS hl)
    · have h0 : ¬ v.toInt < 0 := fun q => ot (Or.inl q)
      have h33 : ¬ 33 < v.toInt := fun q => ot (Or.inr q)
      obtain ⟨k, hk, hk2⟩ : ∃ k : Nat, v.toInt = k ∧ k ≤ 33 := ⟨v.toInt.toNat, by omega, by omega⟩
      have go : ∀ (off : Int) (tgt : Nat), (#[152, 185, 228, 271, 294, 317, 330, 343, 356, 369, 392, 425, 438, 461, 484, 507, 530, 563, 586, 609, 642, 655, 708, 721, 744, 767, 790, 813, 836, 859, 892, 905, 928, 941] : Array Int)[k]? = some off → (32 : Int) + off = (tgt : Int) → W p l e room_1 s m #[Value.ref b] below meth c H locs 364 5491 Q (F0 m tgt ls []) → W p l e room_1 s m #[Value.ref b] below meth c H locs 364 5491 Q (F0 m 32 ls [.int v]) := fun off tgt ho ht kk => lv_tableIn hx hb dL_law_32 h0 h33 (by rw [hk, show ((k : Int) - 0).toNat = k by omega]; exact ho) ht kk
      rcases (show k = 0 ∨ k = 1 ∨ k = 2 ∨ k = 3 ∨ k = 4 ∨ k = 5 ∨ k = 6 ∨ k = 7 ∨ k = 8 ∨ k = 9 ∨ k = 10 ∨ k = 11 ∨ k = 12 ∨ k = 13 ∨ k = 14 ∨ k = 15 ∨ k = 16 ∨ k = 17 ∨ k = 18 ∨ k = 19 ∨ k = 20 ∨ k = 21 ∨ k = 22 ∨ k = 23 ∨ k = 24 ∨ k = 25 ∨ k = 26 ∨ k = 27 ∨ k = 28 ∨ k = 29 ∨ k = 30 ∨ k = 31 ∨ k = 32 ∨ k = 33 by omega) with rfl | rfl | rfl | rfl | rfl | rfl | rfl | rfl | rfl | rfl | rfl | rfl | rfl | rfl | rfl | rfl | rfl | rfl | rfl | rfl | rfl | rfl | rfl | rfl | rfl | rfl | rfl | rfl | rfl | rfl | rfl | rfl | rfl | rfl
      · exact go 152 184 rfl (by decide) (lc_0 C hn g hP hS hl K)
      · exact go 185 217 rfl (by decide) (lc_1 C hn g hP hS hl K)
      · exact go 228 260 rfl (by decide) (lc_2 C hn g hP hS hl K)
      · exact go 271 303 rfl (by decide) (lc_3 C hn g hP hS hl K)
      · exact go 294 326 rfl (by decide) (lc_4 C hn g hP hS hl K)
      · exact go 317 349 rfl (by decide) (lc_5 C hn g hP hS hl K)
      · exact go 330 362 rfl (by decide) (lc_6 C hn g hP hS hl K)
      · exact go 343 375 rfl (by decide) (lc_7 C hn g hP hS hl K)
      · exact go 356 388 rfl (by decide) (lc_8 C hn g hP hS hl K)
      · exact go 369 401 rfl (by decide) (lc_9 C hn g hP hS hl K)
      · exact go 392 424 rfl (by decide) (lc_10 C hn g hP hS hl K)
      · exact go 425 457 rfl (by decide) (lc_11 C hn g hP hS hl K)
      · exact go 438 470 rfl (by decide) (lc_12 C hn g hP hS hl K)
      · exact go 461 493 rfl (by decide) (lc_13 C hn g hP hS hl K)
      · exact go 484 516 rfl (by decide) (lc_14 C hn g hP hS hl K)
      · exact go 507 539 rfl (by decide) (lc_15 C hn g hP hS hl K)
      · exact go 530 562 rfl (by decide) (lc_16 C hn g hP hS hl K)
      · exact go 563 595 rfl (by decide) (lc_17 C hn g hP hS hl K)
      · exact go 586 618 rfl (by decide) (lc_18 C hn g hP hS hl K)
      · exact go 609 641 rfl (by decide) (lc_19 C hn g hP hS hl K)
      · exact go 642 674 rfl (by decide) (lc_20 C hn g hP hS hl K)
      · exact go 655 687 rfl (by decide) (lc_21 C hn g hP hS hl K)
      · exact go 708 740 rfl (by decide) (lc_22 C hn g hP hS hl K)
      · exact go 721 753 rfl (by decide) (lc_23 C hn g hP hS hl K)
      · exact go 744 776 rfl (by decide) (lc_24 C hn g hP hS hl K)
      · exact go 767 799 rfl (by decide) (lc_25 C hn g hP hS hl K)
      · exact go 790 822 rfl (by decide) (lc_26 C hn g hP hS hl K)
      · exact go 813 845 rfl (by decide) (lc_27 C hn g hP hS hl K)
      · exact go 836 868 rfl (by decide) (lc_28 C hn g hP hS hl K)
      · exact go 859 891 rfl (by decide) (lc_29 C hn g hP hS hl K)
      · exact go 892 924 rfl (by decide) (lc_30 C hn g hP hS hl K)
      · exact go 905 937 rfl (by decide) (lc_31 C hn g hP hS hl K)
      · exact go 928 960 rfl (by decide) (lc_32 C hn g hP hS hl K)
      · exact go 941 973 rfl (by decide) (lc_33 C hn g hP hS hl K)
