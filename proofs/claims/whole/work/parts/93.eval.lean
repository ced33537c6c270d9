/-! One node: the reference's value and the class's. -/
/-- flow w, as both sides know it at this instant -/
def z_gw (C : fk_M) (vl bl : Nat → Int32) (ck : Nat → Nat) (w : Nat) : Prop := (¬ C (3 + 6 * w) 5 = 0 ↔ fk_hi C (ck w) = true) ∧ (fk_hi C (ck w) = true → C (3 + 6 * w) 6 = vl w ∧ (¬ bl w = 0 → vl w = 0 ∨ vl w = nI 1))
theorem z_hi1 {C : fk_M} {w : Nat} : fk_hi C (2 * w + 1) = true ↔ ¬ C (3 + 6 * w) 5 = 0 ∧ C (3 + 6 * w) 6 = nI 1 := by
  unfold fk_hi
  rw [decide_eq_true_eq, show (2 * w + 1 - 1) / 2 = w by omega, show (2 * w + 1) % 2 = 1 by omega]
  constructor
  · rintro (q | q)
    · omega
    · exact q
  · exact Or.inr
theorem z_hi2 {C : fk_M} {w : Nat} : fk_hi C (2 * w + 2) = true ↔ ¬ C (3 + 6 * w) 5 = 0 ∧ C (3 + 6 * w) 6 = nI 0 := by
  unfold fk_hi
  rw [decide_eq_true_eq, show (2 * w + 2 - 1) / 2 = w by omega, show (2 * w + 2) % 2 = 0 by omega]
  constructor
  · rintro (q | q)
    · omega
    · exact q
  · exact Or.inr
theorem z_kind {C : fk_M} {vl kp st bl : Nat → Int32} {ck : Nat → Nat} {x i w k a : Nat} {A0 T0 : Int32} {v u Ac Tc : Nat → Int32} (hk : k ≤ 18) (hw : (k = 3 ∨ 15 < k) → z_gw C vl bl ck w ∧ ck w < 25 ∧ w < 12) (hoc : fk_oc ck k w A0 = A0) (hcp : ∀ j, j < fk_ar k → Ac j = fk_cpt ck k w j A0) (hty : fk_ris bl k w T0 = T0 ∧ (15 < k → ¬ bl w = 0)) (htp : ∀ j, j < fk_ar k → Tc j = if k = 13 ∧ j = 0 then nI 1 else fk_wv k T0) (hA : C (x + 3) i = A0) (h14 : k = 14 → C (x + 4) i = kp a ∧ (T0 = nI 1 → C (x + 4) i = 0 ∨ C (x + 4) i = nI 1)) (h15 : k = 15 → (st a = 0 ↔ C 83 A0.toNatClampNeg = 0)) (hv : k ≠ 14 → ∀ j, j < fk_ar k → fk_hi C (Ac j).toNatClampNeg = true → u j = v j ∧ (Tc j = nI 1 → u j = 0 ∨ u j = nI 1)) (hi : fk_hi C A0.toNatClampNeg = true) :
    fk_rvl vl kp st k a w (if 0 < fk_ar k then u 0 else nI 0) (if 1 < fk_ar k then u 1 else nI 0) (if 2 < fk_ar k then u 2 else nI 0) = fk_ek C x k w i (v 0) (v 1) (v 2) ∧ (T0 = nI 1 → fk_ek C x k w i (v 0) (v 1) (v 2) = 0 ∨ fk_ek C x k w i (v 0) (v 1) (v 2) = nI 1) := by
  have n01 : ¬ nI 0 = nI 1 := by decide
  -- parts on the same clock
  have same : k < 16 → k ≠ 14 → ∀ j, j < fk_ar k → u j = v j ∧ (Tc j = nI 1 → u j = 0 ∨ u j = nI 1) := fun h16 hn14 j hj => by
    refine hv hn14 j hj ?_
    rw [hcp j hj]
    have : fk_cpt ck k w j A0 = A0 := by
      unfold fk_cpt
      split
      · omega
      · omega
      · omega
      · rfl
    rw [this]
    exact hi
  rcases (by omega : k = 0 ∨ k = 1 ∨ k = 2 ∨ k = 3 ∨ k = 4 ∨ k = 5 ∨ k = 6 ∨ k = 7 ∨ k = 8 ∨ k = 9 ∨ k = 10 ∨ k = 11 ∨ k = 12 ∨ k = 13 ∨ k = 14 ∨ k = 15 ∨ k = 16 ∨ k = 17 ∨ k = 18) with rfl | rfl | rfl | rfl | rfl | rfl | rfl | rfl | rfl | rfl | rfl | rfl | rfl | rfl | rfl | rfl | rfl | rfl | rfl
  · have q : nI 0 = T0 := hty.1
    exact ⟨rfl, fun e => absurd (q.trans e) n01⟩
  · exact ⟨rfl, fun _ => Or.inr rfl⟩
  · exact ⟨rfl, fun _ => Or.inl nI_0⟩
  · obtain ⟨⟨g1, g2⟩, c25, -⟩ := hw (Or.inl rfl)
    have q : nI (ck w) = A0 := hoc
    rw [← q, nI_clamp (by omega)] at hi
    obtain ⟨g3, g4⟩ := g2 hi
    show vl w = C (3 + 6 * w) 6 ∧ (T0 = nI 1 → C (3 + 6 * w) 6 = 0 ∨ C (3 + 6 * w) 6 = nI 1)
    rw [g3]
    refine ⟨rfl, fun e => g4 (fun z => ?_)⟩
    have q2 : nI (decide (¬ bl w = 0)).toNat = T0 := hty.1
    rw [e, decide_eq_false (fun r => r z)] at q2
    exact n01 q2
  · obtain ⟨s1, s2⟩ := same (by decide) (by decide) 0 (by decide)
    have s3 := s2 (htp 0 (by decide))
    show nI 1 - u 0 = nI 1 - v 0 ∧ (T0 = nI 1 → nI 1 - v 0 = 0 ∨ nI 1 - v 0 = nI 1)
    rw [← s1]
    refine ⟨rfl, fun _ => ?_⟩
    rcases s3 with s3 | s3 <;> rw [s3] <;> decide
  · obtain ⟨s1, s2⟩ := same (by decide) (by decide) 0 (by decide)
    have q : nI 0 = T0 := hty.1
    refine ⟨?_, fun e => absurd (q.trans e) n01⟩
    show -u 0 = -v 0
    rw [s1]
  · have s1 := (same (by decide) (by decide) 0 (by decide)).1
    have s2 := (same (by decide) (by decide) 1 (by decide)).1
    have q : nI 0 = T0 := hty.1
    refine ⟨?_, fun e => absurd (q.trans e) n01⟩
    show u 0 + u 1 = v 0 + v 1
    rw [s1, s2]
  · have s1 := (same (by decide) (by decide) 0 (by decide)).1
    have s2 := (same (by decide) (by decide) 1 (by decide)).1
    have q : nI 0 = T0 := hty.1
    refine ⟨?_, fun e => absurd (q.trans e) n01⟩
    show u 0 - u 1 = v 0 - v 1
    rw [s1, s2]
  · have s1 := (same (by decide) (by decide) 0 (by decide)).1
    have s2 := (same (by decide) (by decide) 1 (by decide)).1
    have q : nI 0 = T0 := hty.1
    refine ⟨?_, fun e => absurd (q.trans e) n01⟩
    show u 0 * u 1 = v 0 * v 1
    rw [s1, s2]
  · have s1 := (same (by decide) (by decide) 0 (by decide)).1
    have s2 := (same (by decide) (by decide) 1 (by decide)).1
    refine ⟨?_, fun _ => z_bit _⟩
    show nI (decide (u 0 < u 1)).toNat = nI (decide (v 0 < v 1)).toNat
    rw [s1, s2]
  · have s1 := (same (by decide) (by decide) 0 (by decide)).1
    have s2 := (same (by decide) (by decide) 1 (by decide)).1
    refine ⟨?_, fun _ => z_bit _⟩
    show nI (decide (u 0 = u 1)).toNat = nI (decide (v 0 = v 1)).toNat
    rw [s1, s2]
  · obtain ⟨s1, t1⟩ := same (by decide) (by decide) 0 (by decide)
    obtain ⟨s2, t2⟩ := same (by decide) (by decide) 1 (by decide)
    have t1 := t1 (htp 0 (by decide))
    have t2 := t2 (htp 1 (by decide))
    show u 0 * u 1 = v 0 &&& v 1 ∧ (T0 = nI 1 → v 0 &&& v 1 = 0 ∨ v 0 &&& v 1 = nI 1)
    rw [← s1, ← s2]
    rcases t1 with t1 | t1 <;> rcases t2 with t2 | t2 <;> rw [t1, t2] <;> exact ⟨by decide, fun _ => by decide⟩
  · obtain ⟨s1, t1⟩ := same (by decide) (by decide) 0 (by decide)
    obtain ⟨s2, t2⟩ := same (by decide) (by decide) 1 (by decide)
    have t1 := t1 (htp 0 (by decide))
    have t2 := t2 (htp 1 (by decide))
    show nI (decide (¬ u 0 + u 1 ≤ 0)).toNat = v 0 ||| v 1 ∧ (T0 = nI 1 → v 0 ||| v 1 = 0 ∨ v 0 ||| v 1 = nI 1)
    rw [← s1, ← s2]
    rcases t1 with t1 | t1 <;> rcases t2 with t2 | t2 <;> rw [t1, t2] <;> exact ⟨by decide, fun _ => by decide⟩
  · obtain ⟨s1, t1⟩ := same (by decide) (by decide) 0 (by decide)
    obtain ⟨s2, t2⟩ := same (by decide) (by decide) 1 (by decide)
    obtain ⟨s3, t3⟩ := same (by decide) (by decide) 2 (by decide)
    have e2 : Tc 1 = T0 := htp 1 (by decide)
    have e3 : Tc 2 = T0 := htp 2 (by decide)
    show (if u 0 = nI 1 then u 1 else u 2) = (if v 0 = nI 1 then v 1 else v 2) ∧ (T0 = nI 1 → (if v 0 = nI 1 then v 1 else v 2) = 0 ∨ (if v 0 = nI 1 then v 1 else v 2) = nI 1)
    rw [← s1, ← s2, ← s3]
    refine ⟨rfl, fun e => ?_⟩
    split
    · exact t2 (e2.trans e)
    · exact t3 (e3.trans e)
  · obtain ⟨q1, q2⟩ := h14 rfl
    exact ⟨q1.symm, q2⟩
  · obtain ⟨s1, t1⟩ := same (by decide) (by decide) 0 (by decide)
    obtain ⟨s2, t2⟩ := same (by decide) (by decide) 1 (by decide)
    have e1 : Tc 0 = T0 := htp 0 (by decide)
    have e2 : Tc 1 = T0 := htp 1 (by decide)
    have q := h15 rfl
    show (if st a = 0 then u 0 else u 1) = (if C 83 (C (x + 3) i).toNatClampNeg = 0 then v 0 else v 1) ∧ (T0 = nI 1 → (if C 83 (C (x + 3) i).toNatClampNeg = 0 then v 0 else v 1) = 0 ∨ (if C 83 (C (x + 3) i).toNatClampNeg = 0 then v 0 else v 1) = nI 1)
    rw [hA, ← s1, ← s2]
    by_cases hz : C 83 A0.toNatClampNeg = 0
    · rw [if_pos hz, if_pos (q.mpr hz)]
      exact ⟨rfl, fun e => t1 (e1.trans e)⟩
    · rw [if_neg hz, if_neg (fun r => hz (q.mp r))]
      exact ⟨rfl, fun e => t2 (e2.trans e)⟩
  · obtain ⟨⟨g1, g2⟩, c25, w12⟩ := hw (Or.inr (by decide))
    have q : nI (2 * w + 1) = A0 := hoc
    rw [← q, nI_clamp (by omega), z_hi1] at hi
    have e0 : Ac 0 = nI (ck w) := hcp 0 (by decide)
    obtain ⟨s1, t1⟩ := hv (by decide) 0 (by decide) (by rw [e0, nI_clamp (by omega)]; exact g1.mp hi.1)
    have e1 : Tc 0 = T0 := htp 0 (by decide)
    show u 0 = v 0 ∧ (T0 = nI 1 → v 0 = 0 ∨ v 0 = nI 1)
    rw [← s1]
    exact ⟨rfl, fun e => t1 (e1.trans e)⟩
  · obtain ⟨⟨g1, g2⟩, c25, w12⟩ := hw (Or.inr (by decide))
    have q : nI (2 * w + 2) = A0 := hoc
    rw [← q, nI_clamp (by omega), z_hi2] at hi
    have e0 : Ac 0 = nI (ck w) := hcp 0 (by decide)
    obtain ⟨s1, t1⟩ := hv (by decide) 0 (by decide) (by rw [e0, nI_clamp (by omega)]; exact g1.mp hi.1)
    have e1 : Tc 0 = T0 := htp 0 (by decide)
    show u 0 = v 0 ∧ (T0 = nI 1 → v 0 = 0 ∨ v 0 = nI 1)
    rw [← s1]
    exact ⟨rfl, fun e => t1 (e1.trans e)⟩
  · obtain ⟨⟨g1, g2⟩, c25, w12⟩ := hw (Or.inr (by decide))
    have q : nI (ck w) = A0 := hoc
    rw [← q, nI_clamp (by omega)] at hi
    obtain ⟨g3, g4⟩ := g2 hi
    have g5 := g4 (hty.2 (by decide))
    have e0 : Ac 0 = nI (2 * w + 1) := hcp 0 (by decide)
    have e1 : Ac 1 = nI (2 * w + 2) := hcp 1 (by decide)
    have f0 : Tc 0 = T0 := htp 0 (by decide)
    have f1 : Tc 1 = T0 := htp 1 (by decide)
    show (if 18 = 18 ∧ vl w = 0 then u 1 else u 0) = (if C (3 + 6 * w) 6 = nI 1 then v 0 else v 1) ∧ (T0 = nI 1 → (if C (3 + 6 * w) 6 = nI 1 then v 0 else v 1) = 0 ∨ (if C (3 + 6 * w) 6 = nI 1 then v 0 else v 1) = nI 1)
    rw [g3]
    rcases g5 with g5 | g5
    · obtain ⟨s1, t1⟩ := hv (by decide) 1 (by decide) (by rw [e1, nI_clamp (by omega), z_hi2]; exact ⟨g1.mpr hi, by rw [g3, g5]; exact nI_0.symm⟩)
      rw [g5, if_pos ⟨rfl, rfl⟩, if_neg (by decide), ← s1]
      exact ⟨rfl, fun e => t1 (f1.trans e)⟩
    · obtain ⟨s1, t1⟩ := hv (by decide) 0 (by decide) (by rw [e0, nI_clamp (by omega), z_hi1]; exact ⟨g1.mpr hi, by rw [g3, g5]⟩)
      rw [g5, if_neg (by decide), if_pos rfl, ← s1]
      exact ⟨rfl, fun e => t1 (f0.trans e)⟩
