/-! A new object. -/
theorem fk_M0_f {i : Nat} (h : i < 12) : fk_M0 (3 + 6 * i) 0 = nI (4 + 6 * i) ∧ ∀ j, j ≠ 0 → fk_M0 (3 + 6 * i) j = 0 := by
  refine ⟨?_, fun j hj => ?_⟩
  · unfold fk_M0
    rw [if_neg (by omega), if_pos ⟨⟨by omega, by omega, by omega⟩, rfl⟩, show 3 + 6 * i + 1 = 4 + 6 * i by omega]
  · unfold fk_M0
    rw [if_neg (by omega), if_neg (by omega), if_neg (by omega)]
theorem fk_M0_z {k j : Nat} (h : k ≠ 0 ∧ ¬ (3 ≤ k ∧ k < 75 ∧ (k - 3) % 6 = 0) ∧ k ≠ 79 ∧ k ≠ 89) : fk_M0 k j = 0 := by rw [fk_M0_0 h]
theorem fk_M0_x {x i : Nat} (h : fk_X x) (hi : i < 5) : ∀ j, fk_M0 (x + i) j = 0 := by
  intro j
  refine fk_M0_z ?_
  rcases h with rfl | ⟨z, hz, rfl⟩
  · omega
  · refine ⟨by omega, fun q => ?_, by omega, by omega⟩
    have h1 : 4 + 6 * z + i - 3 = 6 * z + (1 + i) := by omega
    rw [h1] at q
    have h2 : (6 * z + (1 + i)) % 6 = 1 + i := by omega
    omega
theorem fk_R0 (Gd : fk_Gt) : fk_Rel Gd fk_M0 := by
  have hP : ∀ j, j < 12 → fk_X (4 + 6 * j) := fun j hj => Or.inr ⟨j, hj, rfl⟩
  have e79 : fk_M0 79 4 = 0 := by decide +kernel
  refine ⟨0, fun _ => 0, fun j => 4 + 6 * j, fun _ => 0, fun _ => 0, fun _ _ => 0, fun _ _ => 0, fun _ _ => 1, 84, 0, fun _ => 0, ⟨⟨by decide +kernel, by decide, fun j hj => ?_⟩, ⟨by decide, by decide +kernel, fun f hf => by omega⟩, fun f hf => by omega⟩, ⟨Or.inl rfl, by decide +kernel, fun j hj => by show 4 + 6 * j ≠ 84; omega, fun i j hi hj h => by have h : 4 + 6 * i = 4 + 6 * j := h; omega, by decide +kernel, by decide +kernel, by decide, fun i hi => by omega, fun i hi => ⟨0, by decide, ?_⟩⟩, ⟨fun f hf => ?_, fun f hf => by omega, fun f hf => by omega⟩, ⟨by decide +kernel, by decide +kernel, by decide +kernel, by decide +kernel, fun f hf => by omega, 0, by decide, by decide +kernel, fun h => absurd e79 h⟩, fun h => absurd e79 h⟩
  · obtain ⟨a, b⟩ := fk_M0_f hj
    have q0 := fk_M0_x (hP j hj) (i := 0) (by decide)
    have q3 := fk_M0_x (hP j hj) (i := 3) (by decide)
    rw [Nat.add_zero] at q0
    refine ⟨hP j hj, a, by rw [b 3 (by decide)]; exact nI_0.symm, by show 0 < 25; decide, by rw [q0 4]; exact nI_0.symm, by show 0 ≤ 40; decide, fun i hi => absurd hi (Nat.not_lt_zero _), fun i hi => ⟨0, by decide, by rw [q3 i]; exact nI_0.symm⟩, fun h => absurd h (Nat.lt_irrefl _), Or.inl (b 1 (by decide)), Or.inl (b 2 (by decide)), fun _ => rfl⟩
  · rw [fk_M0_z (by decide)]
    exact nI_0.symm
  · obtain ⟨a, b⟩ := fk_M0_f hf
    rw [b 1 (by decide), b 2 (by decide), b 4 (by decide), fk_M0_z (k := 90) (by decide), fk_M0_z (k := 91) (by decide), fk_M0_z (k := 93) (by decide), fk_M0_z (k := 98) (by decide), fk_M0_z (k := 99) (by decide)]
    exact ⟨rfl, rfl, rfl, nI_0.symm, fun _ => ⟨rfl, rfl, rfl⟩⟩
