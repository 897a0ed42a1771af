/-! ===== the relation at the start ===== -/
theorem zE_lo : ∀ i, i < 75 → mem0 (1 + lo i) (lt i) = mem0 360 i := by decide +kernel
theorem m0_RN : ∀ b, (b = 1 ∨ b = 60 ∨ b = 120 ∨ b = 179 ∨ b = 238 ∨ b = 297) → RN b mem0 := by
  intro b hb
  unfold RN
  rcases hb with rfl | rfl | rfl | rfl | rfl | rfl <;> decide +kernel
theorem m0_360 : mem0 360 = zE 5 := rfl
theorem zE_ln : ∀ k, k < 3 → ln (zE 5) k = 0 ∧ zE 5 (25 + k) = nI 0 := by decide +kernel
theorem zE_v : zE 5 0 = nI 4 ∧ zE 5 1 = nI 20 ∧ zE 5 2 = nI 3 ∧ zE 5 3 = nI 1 ∧ (∀ k, k < 3 → zE 5 (4 + 4 * k) = nI 1 ∧ zE 5 (5 + 4 * k) = nI 2 ∧ zE 5 (6 + 4 * k) = nI 30 ∧ zE 5 (7 + 4 * k) = nI 40) ∧ (∀ s, s < 5 → zE 5 (70 + s) = nI 128) ∧ (∀ k, k < 3 → zE 5 (19 + k) = nI 0) ∧ zE 5 69 = nI 0 ∧ zE 5 67 = nI 0 := by decide +kernel
theorem Inv_0 : Inv (zE 5) 0 0 (pB 0) 99 := by
  obtain ⟨v0, v1, v2, v3, v4, v5, v6, v7, v8⟩ := zE_v
  refine ⟨⟨v7, by omega, v8, by omega⟩, ⟨⟨4, by omega, by omega, v0⟩, ⟨20, by omega, by omega, v1⟩, ⟨3, by omega, by omega, v2⟩, ⟨1, by omega, by omega, v3⟩, fun k hk => ?_, fun s hs => ⟨128, by omega, by omega, v5 s hs⟩⟩, fun k hk => ?_, fun k k' hk hk' p p' hp => ?_, fun r hr => absurd hr (by omega), fun k hk => ⟨0, by omega, by omega, v6 k hk⟩⟩
  · obtain ⟨a, b, c, d⟩ := v4 k hk
    exact ⟨⟨1, by omega, by omega, a⟩, ⟨2, by omega, by omega, b⟩, ⟨30, by omega, by omega, c⟩, ⟨40, by omega, by omega, d⟩⟩
  · obtain ⟨a, b⟩ := zE_ln k hk
    exact ⟨by rw [a]; exact b, by omega, fun p hp => absurd hp (by omega)⟩
  · obtain ⟨a, b⟩ := zE_ln k hk
    exact absurd hp (by omega)
theorem Rel_0 : Rel 1 mem0 (mem0 360) 0 99 := ⟨zE_lo, fun r hr => absurd hr (by omega), fun r hr => absurd hr (by omega), ⟨rfl, rfl⟩, m0_RN 1 (by omega)⟩
theorem GR_0 : GR mem0 mem0 := by
  refine ⟨⟨0, 0, Rel_0, by rw [m0_360]; exact Inv_0, by omega⟩, fun b hb => m0_RN b (isSb_or hb), ⟨0, fun j => if j = 0 then 120 else if j = 1 then 179 else if j = 2 then 238 else 297, by omega, rfl, rfl, fun j hj => ?_, fun i j hi hj e => ?_, fun i hi => absurd hi (by omega)⟩, ⟨0, by omega, rfl, rfl, fun i hi => absurd hi (by omega)⟩⟩
  · rcases (show j = 0 ∨ j = 1 ∨ j = 2 ∨ j = 3 by omega) with rfl | rfl | rfl | rfl <;> exact ⟨rfl, rfl⟩
  · rcases (show i = 0 ∨ i = 1 ∨ i = 2 ∨ i = 3 by omega) with rfl | rfl | rfl | rfl <;> rcases (show j = 0 ∨ j = 1 ∨ j = 2 ∨ j = 3 by omega) with rfl | rfl | rfl | rfl <;> simp at e ⊢
