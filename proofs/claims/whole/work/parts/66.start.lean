/-! ===== the world after the constructors ===== -/
def lR : Nat → Int32 := fun s => if s = 4 then 30 else 0
def mS (j : Nat) : Nat → Int32 := if 27 ≤ j then (fun s => if s = 0 then nI (j - 27) else 0) else match j with
  | 2 => rowS
  | 4 => fE 5
  | 5 => lR
  | 7 => rowL
  | 12 => lR
  | 14 => rowL
  | 19 => lR
  | 21 => rowL
  | _ => z0
def mH : Nat → Int32 := fun s => if s = 0 then nI 120 else if s = 1 then nI 179 else if s = 2 then nI 238 else if s = 3 then nI 297 else 0
def mem0 : Mem := fun a => if a = 0 then z0 else if a < 60 then mS (a - 1) else if a < 119 then mS (a - 60) else if a < 120 then mH else if a < 179 then mS (a - 120) else if a < 238 then mS (a - 179) else if a < 297 then mS (a - 238) else if a < 356 then mS (a - 297) else if a = 360 then zE 5 else z0
def sA (q : Nat) (u : Nat → Nat) (j : Nat) : Nat := if j = 0 then q else u j
theorem vq_cg {cR : ClassId} {f g : Nat → Option Nat} (h : ∀ i, i < 32 → f i = g i) : vp_cell cR (32, .inr (.inr (.inr (.inr f)))) = vp_cell cR (32, .inr (.inr (.inr (.inr g)))) := by
  rw [vp_cell_q, vp_cell_q]
  unfold arrV
  congr 2
  funext j
  show va_rf (f j.val) = va_rf (g j.val)
  rw [h j.val j.isLt]
theorem srvX_len (cI cR : ClassId) (h : Nat) (u : Nat → Nat) (f : Nat → Option Nat) : (srvX cI cR h u f).length = 27 := rfl
theorem srvW_len (cI cR : ClassId) (h : Nat) (u : Nat → Nat) : (srvW cI cR h u).length = 59 := by
  unfold srvW
  rw [List.length_append, srvX_len, reqW_len]
set_option maxRecDepth 20000 in
set_option maxHeartbeats 4000000 in
theorem srv_at {D : va_G} {H : Heap} {cI cR : ClassId} {q : Nat} {u : Nat → Nat} {j : Nat} (hj : j < 59) : ∃ e, (srvW cI cR q u)[j]? = some (sA q u j, e) ∧ (va_at D vwCl (sA q u j, e) H → va_at D vwCl (sA q u j, shS (sA q u) cI cR 0 j (mS j)) H) := by
  by_cases h27 : j < 27
  · have : (srvX cI cR q u (sq (fun i => u (27 + i)) 32))[j]? = (srvW cI cR q u)[j]? := by
      unfold srvW
      rw [List.getElem?_append_left (by rw [srvX_len]; exact h27)]
    rw [← this]
    by_cases h26 : j = 26
    · subst h26
      refine ⟨_, rfl, fun h => ?_⟩
      have h' : H[u 26]? = some (vp_cell cR (32, .inr (.inr (.inr (.inr (sq (fun i => u (27 + i)) 32)))))) := h
      rw [vq_cg (g := fun i => some (sA q u (0 + 27 + i))) (fun i hi => by
        unfold sq sA
        rw [if_pos hi, if_neg (by omega), Nat.zero_add])] at h'
      exact h'
    · have c : j = 0 ∨ j = 1 ∨ j = 2 ∨ j = 3 ∨ j = 4 ∨ j = 5 ∨ j = 6 ∨ j = 7 ∨ j = 8 ∨ j = 9 ∨ j = 10 ∨ j = 11 ∨ j = 12 ∨ j = 13 ∨ j = 14 ∨ j = 15 ∨ j = 16 ∨ j = 17 ∨ j = 18 ∨ j = 19 ∨ j = 20 ∨ j = 21 ∨ j = 22 ∨ j = 23 ∨ j = 24 ∨ j = 25 := by omega
      rcases c with rfl | rfl | rfl | rfl | rfl | rfl | rfl | rfl | rfl | rfl | rfl | rfl | rfl | rfl | rfl | rfl | rfl | rfl | rfl | rfl | rfl | rfl | rfl | rfl | rfl | rfl <;> exact ⟨_, rfl, fun h => h⟩
  · obtain ⟨r, rfl⟩ : ∃ r, j = 27 + r := ⟨j - 27, by omega⟩
    refine ⟨reqE (nI r), ?_, fun h => ?_⟩
    · unfold srvW
      rw [List.getElem?_append_right (by rw [srvX_len]; omega), srvX_len, show 27 + r - 27 = r by omega]
      unfold reqW sA
      rw [List.getElem?_map, List.getElem?_range (by omega), if_neg (by omega)]
      rfl
    · have e : shS (sA q u) cI cR 0 (27 + r) (mS (27 + r)) = reqE (nI r) := by
        rw [shS_req _ _ _ _ (by omega)]
        unfold mS
        rw [if_pos (by omega), show 27 + r - 27 = r by omega]
        rfl
      rw [e]
      exact h
set_option maxRecDepth 20000 in
set_option maxHeartbeats 4000000 in
theorem at_cg {D : va_G} {H : Heap} {ad ad' : Nat → Nat} {cI cR : ClassId} {b j x : Nat} {row : Nat → Int32} (hh : ∀ k, k < 59 → ad (b + k) = ad' k) (hj : j < 59) (h : va_at D vwCl (x, shS ad' cI cR 0 j row) H) : va_at D vwCl (x, shS ad cI cR b j row) H := by
  have h2 : ∀ k k', k + k' < 59 → ad (b + k + k') = ad' (0 + k + k') := fun k k' hk => by rw [Nat.add_assoc, hh _ hk, Nat.zero_add]
  have h1 : ∀ k, k < 59 → ad (b + k) = ad' (0 + k) := fun k hk => by rw [hh _ hk, Nat.zero_add]
  by_cases h27 : 27 ≤ j
  · rw [shS_req _ _ _ _ h27] at h ⊢
    exact h
  · by_cases h26 : j = 26
    · subst h26
      have h' : H[x]? = some (vp_cell cR (32, .inr (.inr (.inr (.inr (fun i => some (ad' (0 + 27 + i)))))))) := h
      rw [vq_cg (g := fun i => some (ad (b + 27 + i))) (fun i hi => by rw [h2 27 i (by omega)])] at h'
      exact h'
    · have e : shS ad cI cR b j row = shS ad' cI cR 0 j row := by
        have c : j = 0 ∨ j = 1 ∨ j = 2 ∨ j = 3 ∨ j = 4 ∨ j = 5 ∨ j = 6 ∨ j = 7 ∨ j = 8 ∨ j = 9 ∨ j = 10 ∨ j = 11 ∨ j = 12 ∨ j = 13 ∨ j = 14 ∨ j = 15 ∨ j = 16 ∨ j = 17 ∨ j = 18 ∨ j = 19 ∨ j = 20 ∨ j = 21 ∨ j = 22 ∨ j = 23 ∨ j = 24 ∨ j = 25 := by omega
        rcases c with rfl | rfl | rfl | rfl | rfl | rfl | rfl | rfl | rfl | rfl | rfl | rfl | rfl | rfl | rfl | rfl | rfl | rfl | rfl | rfl | rfl | rfl | rfl | rfl | rfl | rfl
        · show Sum.inr (4, [Value.ref (ad (b + 1)), .ref (ad (b + 3)), .ref (ad (b + 5)), .ref (ad (b + 12)), .ref (ad (b + 19)), .ref (ad (b + 26)), .int (row 6), .int (row 7), .int (row 8), .int (row 9), .int (row 10)]) = _
          rw [h1 1 (by omega), h1 3 (by omega), h1 5 (by omega), h1 12 (by omega), h1 19 (by omega), h1 26 (by omega)]
          rfl
        · show Sum.inr (3, [Value.ref (ad (b + 2))]) = _
          rw [h1 2 (by omega)]; rfl
        · rfl
        · show Sum.inr (3, [Value.ref (ad (b + 4))]) = _
          rw [h1 4 (by omega)]; rfl
        · rfl
        · show Sum.inr (1, [Value.ref (ad (b + 5 + 1)), .ref (ad (b + 5 + 3)), .ref (ad (b + 5 + 5)), .int (row 3), .int (row 4), .int (row 5), .int (row 6)]) = _
          rw [h2 5 1 (by omega), h2 5 3 (by omega), h2 5 5 (by omega)]; rfl
        · show Sum.inr (3, [Value.ref (ad (b + 5 + 2))]) = _
          rw [h2 5 2 (by omega)]; rfl
        · rfl
        · show Sum.inr (3, [Value.ref (ad (b + 5 + 4))]) = _
          rw [h2 5 4 (by omega)]; rfl
        · rfl
        · show Sum.inr (3, [Value.ref (ad (b + 5 + 6))]) = _
          rw [h2 5 6 (by omega)]; rfl
        · rfl
        · show Sum.inr (1, [Value.ref (ad (b + 12 + 1)), .ref (ad (b + 12 + 3)), .ref (ad (b + 12 + 5)), .int (row 3), .int (row 4), .int (row 5), .int (row 6)]) = _
          rw [h2 12 1 (by omega), h2 12 3 (by omega), h2 12 5 (by omega)]; rfl
        · show Sum.inr (3, [Value.ref (ad (b + 12 + 2))]) = _
          rw [h2 12 2 (by omega)]; rfl
        · rfl
        · show Sum.inr (3, [Value.ref (ad (b + 12 + 4))]) = _
          rw [h2 12 4 (by omega)]; rfl
        · rfl
        · show Sum.inr (3, [Value.ref (ad (b + 12 + 6))]) = _
          rw [h2 12 6 (by omega)]; rfl
        · rfl
        · show Sum.inr (1, [Value.ref (ad (b + 19 + 1)), .ref (ad (b + 19 + 3)), .ref (ad (b + 19 + 5)), .int (row 3), .int (row 4), .int (row 5), .int (row 6)]) = _
          rw [h2 19 1 (by omega), h2 19 3 (by omega), h2 19 5 (by omega)]; rfl
        · show Sum.inr (3, [Value.ref (ad (b + 19 + 2))]) = _
          rw [h2 19 2 (by omega)]; rfl
        · rfl
        · show Sum.inr (3, [Value.ref (ad (b + 19 + 4))]) = _
          rw [h2 19 4 (by omega)]; rfl
        · rfl
        · show Sum.inr (3, [Value.ref (ad (b + 19 + 6))]) = _
          rw [h2 19 6 (by omega)]; rfl
        · rfl
      rw [e]
      exact h
theorem srv_in {D : va_G} {H : Heap} {ad : Nat → Nat} {cI cR : ClassId} {q : Nat} {u : Nat → Nat} {pre suf : va_W} {n i : Nat} (hn : pre.length = n) (h1 : n ≤ i) (h2 : i < n + 59) (ha : ∀ k, k < 59 → ad (n + k) = sA q u k) : ∃ e, ((pre ++ srvW cI cR q u) ++ suf)[i]? = some (ad i, e) ∧ (va_at D vwCl (ad i, e) H → va_at D vwCl (ad i, shS ad cI cR n (i - n) (mS (i - n))) H) := by
  obtain ⟨j, rfl⟩ : ∃ j, i = n + j := ⟨i - n, by omega⟩
  obtain ⟨e, e1, e2⟩ := srv_at (D := D) (H := H) (cI := cI) (cR := cR) (q := q) (u := u) (show j < 59 by omega)
  rw [ha j (by omega), show n + j - n = j by omega]
  refine ⟨e, app_l ?_, fun h => at_cg ha (by omega) (e2 h)⟩
  have := app_r (w1 := pre) e1
  rw [hn] at this
  exact this
def ad0 (a : Nat) (v : acS) (b : Nat) (w : Nat → Nat) (i : Nat) : Nat := if i = 0 then a else if i < 60 then sA (v.1 0) v.2.1 (i - 1) else if i < 119 then sA (v.1 1) v.2.2.1 (i - 60) else if i < 120 then v.1 2 else if i < 179 then sA (v.2.2.2.1.1 0) (v.2.2.2.1.2 0) (i - 120) else if i < 238 then sA (v.2.2.2.1.1 1) (v.2.2.2.1.2 1) (i - 179) else if i < 297 then sA (v.2.2.2.1.1 2) (v.2.2.2.1.2 2) (i - 238) else if i < 356 then sA (v.2.2.2.1.1 3) (v.2.2.2.1.2 3) (i - 297) else if i < 357 then v.1 3 else if i < 359 then v.2.2.2.2 (i - 356) else if i < 360 then b else w (i - 360)
set_option maxRecDepth 20000 in
set_option maxHeartbeats 8000000 in
theorem w_all {D : va_G} {H : Heap} {cI cR : ClassId} {a b : Nat} {v : acS} {w : Nat → Nat} {i : Nat} (hi : i < 364) : ∃ e, (acW cI cR a v ++ modW cI b w)[i]? = some (ad0 a v b w i, e) ∧ (va_at D vwCl (ad0 a v b w i, e) H → va_at D vwCl (ad0 a v b w i, sh (ad0 a v b w) cI cR i (mem0 i)) H) := by
  obtain ⟨ad, had⟩ : ∃ ad, ad = ad0 a v b w := ⟨_, rfl⟩
  rw [← had]
  obtain ⟨c0, hc0⟩ : ∃ c0 : va_W, c0 = [(a, .inr (6, [.ref (v.1 0), .ref (v.1 1), .ref (v.1 2), .ref (v.1 3)]))] := ⟨_, rfl⟩
  obtain ⟨c1, hc1⟩ : ∃ c1 : va_W, c1 = [(v.1 2, .inr (0, [.ref (v.2.2.2.1.1 0), .ref (v.2.2.2.1.1 1), .ref (v.2.2.2.1.1 2), .ref (v.2.2.2.1.1 3), .int 0]))] := ⟨_, rfl⟩
  have l0 : c0.length = 1 := by rw [hc0]; rfl
  have l1 : c1.length = 1 := by rw [hc1]; rfl
  have E : acW cI cR a v ++ modW cI b w = c0 ++ srvW cI cR (v.1 0) v.2.1 ++ srvW cI cR (v.1 1) v.2.2.1 ++ (c1 ++ srvW cI cR (v.2.2.2.1.1 0) (v.2.2.2.1.2 0) ++ srvW cI cR (v.2.2.2.1.1 1) (v.2.2.2.1.2 1) ++ srvW cI cR (v.2.2.2.1.1 2) (v.2.2.2.1.2 2) ++ srvW cI cR (v.2.2.2.1.1 3) (v.2.2.2.1.2 3)) ++ textW cI (v.1 3) v.2.2.2.2 ++ modW cI b w := by
    rw [hc0, hc1]
    rfl
  rw [E]
  by_cases i0 : i = 0
  · subst i0
    rw [hc0, had]
    exact ⟨_, rfl, fun h => h⟩
  by_cases i1 : i < 60
  · obtain ⟨e, e1, e2⟩ := srv_in (D := D) (H := H) (ad := ad) (cI := cI) (cR := cR) (q := v.1 0) (u := v.2.1) (pre := c0) (suf := srvW cI cR (v.1 1) v.2.2.1 ++ (c1 ++ srvW cI cR (v.2.2.2.1.1 0) (v.2.2.2.1.2 0) ++ srvW cI cR (v.2.2.2.1.1 1) (v.2.2.2.1.2 1) ++ srvW cI cR (v.2.2.2.1.1 2) (v.2.2.2.1.2 2) ++ srvW cI cR (v.2.2.2.1.1 3) (v.2.2.2.1.2 3)) ++ textW cI (v.1 3) v.2.2.2.2 ++ modW cI b w) (n := 1) (i := i) l0 (by omega) (by omega) (fun k hk => by
      rw [had]; unfold ad0
      rw [if_neg (by omega), if_pos (by omega), show 1 + k - 1 = k by omega])
    refine ⟨e, ?_, fun h => ?_⟩
    · rw [← e1]; simp only [List.append_assoc]
    · have := e2 h
      unfold sh mem0
      rw [if_neg i0, if_pos i1, if_neg i0, if_pos i1]
      exact this
  by_cases i2 : i < 119
  · obtain ⟨e, e1, e2⟩ := srv_in (D := D) (H := H) (ad := ad) (cI := cI) (cR := cR) (q := v.1 1) (u := v.2.2.1) (pre := c0 ++ srvW cI cR (v.1 0) v.2.1) (suf := (c1 ++ srvW cI cR (v.2.2.2.1.1 0) (v.2.2.2.1.2 0) ++ srvW cI cR (v.2.2.2.1.1 1) (v.2.2.2.1.2 1) ++ srvW cI cR (v.2.2.2.1.1 2) (v.2.2.2.1.2 2) ++ srvW cI cR (v.2.2.2.1.1 3) (v.2.2.2.1.2 3)) ++ textW cI (v.1 3) v.2.2.2.2 ++ modW cI b w) (n := 60) (i := i) (by rw [List.length_append, l0, srvW_len]) (by omega) (by omega) (fun k hk => by
      rw [had]; unfold ad0
      rw [if_neg (by omega), if_neg (by omega), if_pos (by omega), show 60 + k - 60 = k by omega])
    refine ⟨e, ?_, fun h => ?_⟩
    · rw [← e1]; simp only [List.append_assoc]
    · have := e2 h
      unfold sh mem0
      rw [if_neg i0, if_neg i1, if_pos i2, if_neg i0, if_neg i1, if_pos i2]
      exact this
  by_cases i3 : i = 119
  · subst i3
    have lp : (c0 ++ srvW cI cR (v.1 0) v.2.1 ++ srvW cI cR (v.1 1) v.2.2.1).length = 119 := by rw [List.length_append, List.length_append, l0, srvW_len, srvW_len]
    refine ⟨.inr (0, [.ref (v.2.2.2.1.1 0), .ref (v.2.2.2.1.1 1), .ref (v.2.2.2.1.1 2), .ref (v.2.2.2.1.1 3), .int 0]), ?_, fun h => ?_⟩
    · have := app_r (w1 := c0 ++ srvW cI cR (v.1 0) v.2.1 ++ srvW cI cR (v.1 1) v.2.2.1) (w2 := (c1 ++ srvW cI cR (v.2.2.2.1.1 0) (v.2.2.2.1.2 0) ++ srvW cI cR (v.2.2.2.1.1 1) (v.2.2.2.1.2 1) ++ srvW cI cR (v.2.2.2.1.1 2) (v.2.2.2.1.2 2) ++ srvW cI cR (v.2.2.2.1.1 3) (v.2.2.2.1.2 3)) ++ textW cI (v.1 3) v.2.2.2.2 ++ modW cI b w) (k := 0) (q := (v.1 2, .inr (0, [.ref (v.2.2.2.1.1 0), .ref (v.2.2.2.1.1 1), .ref (v.2.2.2.1.1 2), .ref (v.2.2.2.1.1 3), .int 0]))) (by rw [hc1]; rfl)
      rw [lp] at this
      rw [show ad 119 = v.1 2 by rw [had]; rfl, ← this]
      simp only [List.append_assoc]
    · have e : sh ad cI cR 119 (mem0 119) = .inr (0, [.ref (ad 120), .ref (ad 179), .ref (ad 238), .ref (ad 297), .int 0]) := by
        show Sum.inr (0, [Value.ref (ad (nI 120).toNatClampNeg), .ref (ad (nI 179).toNatClampNeg), .ref (ad (nI 238).toNatClampNeg), .ref (ad (nI 297).toNatClampNeg), .int 0]) = _
        rw [tn 120 (by decide), tn 179 (by decide), tn 238 (by decide), tn 297 (by decide)]
      rw [e, show ad 120 = v.2.2.2.1.1 0 by rw [had]; rfl, show ad 179 = v.2.2.2.1.1 1 by rw [had]; rfl, show ad 238 = v.2.2.2.1.1 2 by rw [had]; rfl, show ad 297 = v.2.2.2.1.1 3 by rw [had]; rfl]
      exact h
  have P : ∀ (q : Nat) (u : Nat → Nat) (pre suf : va_W) (n : Nat), c0 ++ srvW cI cR (v.1 0) v.2.1 ++ srvW cI cR (v.1 1) v.2.2.1 ++ (c1 ++ srvW cI cR (v.2.2.2.1.1 0) (v.2.2.2.1.2 0) ++ srvW cI cR (v.2.2.2.1.1 1) (v.2.2.2.1.2 1) ++ srvW cI cR (v.2.2.2.1.1 2) (v.2.2.2.1.2 2) ++ srvW cI cR (v.2.2.2.1.1 3) (v.2.2.2.1.2 3)) ++ textW cI (v.1 3) v.2.2.2.2 ++ modW cI b w = (pre ++ srvW cI cR q u) ++ suf → pre.length = n → n ≤ i → i < n + 59 → (∀ k, k < 59 → ad (n + k) = sA q u k) → sh ad cI cR i (mem0 i) = shS ad cI cR n (i - n) (mS (i - n)) → ∃ e, (c0 ++ srvW cI cR (v.1 0) v.2.1 ++ srvW cI cR (v.1 1) v.2.2.1 ++ (c1 ++ srvW cI cR (v.2.2.2.1.1 0) (v.2.2.2.1.2 0) ++ srvW cI cR (v.2.2.2.1.1 1) (v.2.2.2.1.2 1) ++ srvW cI cR (v.2.2.2.1.1 2) (v.2.2.2.1.2 2) ++ srvW cI cR (v.2.2.2.1.1 3) (v.2.2.2.1.2 3)) ++ textW cI (v.1 3) v.2.2.2.2 ++ modW cI b w)[i]? = some (ad i, e) ∧ (va_at D vwCl (ad i, e) H → va_at D vwCl (ad i, sh ad cI cR i (mem0 i)) H) := by
    intro q u pre suf n x1 x2 x3 x4 x5 x6
    rw [x1, x6]
    exact srv_in x2 x3 x4 x5
  by_cases i4 : i < 179
  · refine P (v.2.2.2.1.1 0) (v.2.2.2.1.2 0) (c0 ++ srvW cI cR (v.1 0) v.2.1 ++ srvW cI cR (v.1 1) v.2.2.1 ++ c1) (srvW cI cR (v.2.2.2.1.1 1) (v.2.2.2.1.2 1) ++ srvW cI cR (v.2.2.2.1.1 2) (v.2.2.2.1.2 2) ++ srvW cI cR (v.2.2.2.1.1 3) (v.2.2.2.1.2 3) ++ textW cI (v.1 3) v.2.2.2.2 ++ modW cI b w) 120 (by simp only [List.append_assoc]) (by rw [List.length_append, List.length_append, List.length_append, l0, l1, srvW_len, srvW_len]) (by omega) (by omega) (fun k hk => ?_) ?_
    · rw [had]; unfold ad0
      rw [if_neg (by omega), if_neg (by omega), if_neg (by omega), if_neg (by omega), if_pos (by omega), show 120 + k - 120 = k by omega]
    · unfold sh mem0
      rw [if_neg i0, if_neg i1, if_neg i2, if_neg (by omega), if_pos i4, if_neg i0, if_neg i1, if_neg i2, if_neg (by omega), if_pos i4]
  by_cases i5 : i < 238
  · refine P (v.2.2.2.1.1 1) (v.2.2.2.1.2 1) (c0 ++ srvW cI cR (v.1 0) v.2.1 ++ srvW cI cR (v.1 1) v.2.2.1 ++ c1 ++ srvW cI cR (v.2.2.2.1.1 0) (v.2.2.2.1.2 0)) (srvW cI cR (v.2.2.2.1.1 2) (v.2.2.2.1.2 2) ++ srvW cI cR (v.2.2.2.1.1 3) (v.2.2.2.1.2 3) ++ textW cI (v.1 3) v.2.2.2.2 ++ modW cI b w) 179 (by simp only [List.append_assoc]) (by rw [List.length_append, List.length_append, List.length_append, List.length_append, l0, l1, srvW_len, srvW_len, srvW_len]) (by omega) (by omega) (fun k hk => ?_) ?_
    · rw [had]; unfold ad0
      rw [if_neg (by omega), if_neg (by omega), if_neg (by omega), if_neg (by omega), if_neg (by omega), if_pos (by omega), show 179 + k - 179 = k by omega]
    · unfold sh mem0
      rw [if_neg i0, if_neg i1, if_neg i2, if_neg (by omega), if_neg i4, if_pos i5, if_neg i0, if_neg i1, if_neg i2, if_neg (by omega), if_neg i4, if_pos i5]
  by_cases i6 : i < 297
  · refine P (v.2.2.2.1.1 2) (v.2.2.2.1.2 2) (c0 ++ srvW cI cR (v.1 0) v.2.1 ++ srvW cI cR (v.1 1) v.2.2.1 ++ c1 ++ srvW cI cR (v.2.2.2.1.1 0) (v.2.2.2.1.2 0) ++ srvW cI cR (v.2.2.2.1.1 1) (v.2.2.2.1.2 1)) (srvW cI cR (v.2.2.2.1.1 3) (v.2.2.2.1.2 3) ++ textW cI (v.1 3) v.2.2.2.2 ++ modW cI b w) 238 (by simp only [List.append_assoc]) (by rw [List.length_append, List.length_append, List.length_append, List.length_append, List.length_append, l0, l1, srvW_len, srvW_len, srvW_len, srvW_len]) (by omega) (by omega) (fun k hk => ?_) ?_
    · rw [had]; unfold ad0
      rw [if_neg (by omega), if_neg (by omega), if_neg (by omega), if_neg (by omega), if_neg (by omega), if_neg (by omega), if_pos (by omega), show 238 + k - 238 = k by omega]
    · unfold sh mem0
      rw [if_neg i0, if_neg i1, if_neg i2, if_neg (by omega), if_neg i4, if_neg i5, if_pos i6, if_neg i0, if_neg i1, if_neg i2, if_neg (by omega), if_neg i4, if_neg i5, if_pos i6]
  by_cases i7 : i < 356
  · refine P (v.2.2.2.1.1 3) (v.2.2.2.1.2 3) (c0 ++ srvW cI cR (v.1 0) v.2.1 ++ srvW cI cR (v.1 1) v.2.2.1 ++ c1 ++ srvW cI cR (v.2.2.2.1.1 0) (v.2.2.2.1.2 0) ++ srvW cI cR (v.2.2.2.1.1 1) (v.2.2.2.1.2 1) ++ srvW cI cR (v.2.2.2.1.1 2) (v.2.2.2.1.2 2)) (textW cI (v.1 3) v.2.2.2.2 ++ modW cI b w) 297 (by simp only [List.append_assoc]) (by rw [List.length_append, List.length_append, List.length_append, List.length_append, List.length_append, List.length_append, l0, l1, srvW_len, srvW_len, srvW_len, srvW_len, srvW_len]) (by omega) (by omega) (fun k hk => ?_) ?_
    · rw [had]; unfold ad0
      rw [if_neg (by omega), if_neg (by omega), if_neg (by omega), if_neg (by omega), if_neg (by omega), if_neg (by omega), if_neg (by omega), if_pos (by omega), show 297 + k - 297 = k by omega]
    · unfold sh mem0
      rw [if_neg i0, if_neg i1, if_neg i2, if_neg (by omega), if_neg i4, if_neg i5, if_neg i6, if_pos i7, if_neg i0, if_neg i1, if_neg i2, if_neg (by omega), if_neg i4, if_neg i5, if_neg i6, if_pos i7]
  · have lp : (c0 ++ srvW cI cR (v.1 0) v.2.1 ++ srvW cI cR (v.1 1) v.2.2.1 ++ (c1 ++ srvW cI cR (v.2.2.2.1.1 0) (v.2.2.2.1.2 0) ++ srvW cI cR (v.2.2.2.1.1 1) (v.2.2.2.1.2 1) ++ srvW cI cR (v.2.2.2.1.1 2) (v.2.2.2.1.2 2) ++ srvW cI cR (v.2.2.2.1.1 3) (v.2.2.2.1.2 3))).length = 356 := by rw [List.length_append, List.length_append, List.length_append, List.length_append, List.length_append, List.length_append, List.length_append, l0, l1, srvW_len, srvW_len, srvW_len, srvW_len, srvW_len, srvW_len]
    generalize c0 ++ srvW cI cR (v.1 0) v.2.1 ++ srvW cI cR (v.1 1) v.2.2.1 ++ (c1 ++ srvW cI cR (v.2.2.2.1.1 0) (v.2.2.2.1.2 0) ++ srvW cI cR (v.2.2.2.1.1 1) (v.2.2.2.1.2 1) ++ srvW cI cR (v.2.2.2.1.1 2) (v.2.2.2.1.2 2) ++ srvW cI cR (v.2.2.2.1.1 3) (v.2.2.2.1.2 3)) = pre at lp ⊢
    rw [List.append_assoc]
    have Q : ∀ (j : Nat) (q : Nat × va_E), (textW cI (v.1 3) v.2.2.2.2 ++ modW cI b w)[j]? = some q → (pre ++ (textW cI (v.1 3) v.2.2.2.2 ++ modW cI b w))[356 + j]? = some q := fun j q h => by
      have := app_r (w1 := pre) h
      rw [lp] at this
      exact this
    subst had
    rcases (show i = 356 ∨ i = 357 ∨ i = 358 ∨ i = 359 ∨ i = 360 ∨ i = 361 ∨ i = 362 ∨ i = 363 by omega) with rfl | rfl | rfl | rfl | rfl | rfl | rfl | rfl
    · exact ⟨_, Q 0 _ rfl, fun h => h⟩
    · exact ⟨_, Q 1 _ rfl, fun h => h⟩
    · exact ⟨_, Q 2 _ rfl, fun h => h⟩
    · exact ⟨_, Q 3 _ rfl, fun h => h⟩
    · exact ⟨_, Q 4 _ rfl, fun h => h⟩
    · exact ⟨_, Q 5 _ rfl, fun h => h⟩
    · exact ⟨_, Q 6 _ rfl, fun h => h⟩
    · exact ⟨_, Q 7 _ rfl, fun h => h⟩
theorem w_cw {D : va_G} {H : Heap} {A : Nat → Prop} {cI cR : ClassId} {a b : Nat} {v : acS} {w : Nat → Nat} (hP : va_P D vwCl (acW cI cR a v ++ modW cI b w) H) (hD : va_D A (acW cI cR a v ++ modW cI b w)) : va_P D vwCl (cw (ad0 a v b w) cI cR mem0) H ∧ inj (ad0 a v b w) ∧ ∀ q, AA (ad0 a v b w) q → A q := by
  refine ⟨fun k q hk => ?_, fun i j hi hj e => ?_, fun q hq => ?_⟩
  · obtain ⟨hk', -⟩ := cw_in hk
    rw [cw_at hk'] at hk
    cases hk
    obtain ⟨e, e1, e2⟩ := w_all (D := D) (H := H) (cI := cI) (cR := cR) (a := a) (b := b) (v := v) (w := w) hk'
    exact e2 (hP _ _ e1)
  · obtain ⟨e1, x1, -⟩ := w_all (D := D) (H := H) (cI := cI) (cR := cR) (a := a) (b := b) (v := v) (w := w) hi
    obtain ⟨e2, x2, -⟩ := w_all (D := D) (H := H) (cI := cI) (cR := cR) (a := a) (b := b) (v := v) (w := w) hj
    exact hD.1 i j _ _ x1 x2 e
  · obtain ⟨i, hi, rfl⟩ := hq
    obtain ⟨e1, x1, -⟩ := w_all (D := D) (H := H) (cI := cI) (cR := cR) (a := a) (b := b) (v := v) (w := w) hi
    exact hD.2 i _ x1
