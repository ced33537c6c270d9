/-! Rule 2: the types, class against reference. -/
section
variable {b : Nat → Nat} {n cnt : Nat} {E : Nat → Int32} {sp sl : Nat → Nat} {N : Nat}
/-- what the class writes for the parts -/
theorem fk_wt_at {k : Nat} {v : Int32} {q0 : Nat} : ∀ d q y A, (∀ j, j < d → fk_ir E j y < fk_ir E (j + 1) y) → (∀ j, j < d → fk_wt E k v d q y A (fk_ir E j y) = if k = 13 ∧ q + j = 0 then nI 1 else v) ∧ (∀ z, (z < y ∨ fk_ir E d y ≤ z) → fk_wt E k v d q y A z = A z) := by
  intro d
  induction d with
  | zero => intro q y A _; exact ⟨fun j hj => by omega, fun _ _ => rfl⟩
  | succ d ih =>
    intro q y A hm
    obtain ⟨g1, g2⟩ := ih (q + 1) (E y).toNatClampNeg (upd A y (if k = 13 ∧ q = 0 then nI 1 else v)) (fun j hj => hm (j + 1) (by omega))
    have hlt : ∀ j, j ≤ d → y < fk_ir E (j + 1) y := by
      intro j
      induction j with
      | zero => intro _; exact hm 0 (by omega)
      | succ j ihj => intro hj; have h1 := ihj (by omega); have h2 := hm (j + 1) (by omega); omega
    refine ⟨fun j hj => ?_, fun z hz => ?_⟩
    · show fk_wt E k v d (q + 1) (E y).toNatClampNeg _ _ = _
      cases j with
      | zero =>
        rw [g2 (fk_ir E 0 y) (Or.inl (hm 0 (by omega)))]
        show upd A y _ y = _
        rw [pk_us, Nat.add_zero]
      | succ j =>
        have h1 := g1 j (by omega)
        rw [show q + (j + 1) = q + 1 + j by omega]
        exact h1
    · show fk_wt E k v d (q + 1) (E y).toNatClampNeg _ z = _
      have h1 := hm 0 (by omega)
      have h1 : y < (E y).toNatClampNeg := h1
      have h2 := hlt d (Nat.le_refl _)
      rw [g2 z (by
        rcases hz with h | h
        · exact Or.inl (by omega)
        · exact Or.inr h), pk_un (by rcases hz with h | h <;> omega)]
/-- the class at a node -/
theorem fk_tf_node (M : fk_M) (h : fk_NW b n cnt E sp sl N) {p : Nat} (hp : p < N) (A : Nat → Int32) : fk_tf M b E (n - sp p) (sp p) A = if fk_it M (b (sp p)) (b (sp p + 1)) (A (sp p)) = true then fk_tf M b E (n - sp (p + 1)) (sp (p + 1)) (fk_wt E (b (sp p)) (fk_wv (b (sp p)) (A (sp p))) (fk_ar (b (sp p))) 0 (sp p + fk_hd (b (sp p))) A) else (some (sp p), A) := by
  obtain ⟨e, hk9, a1, a2, a3, a4, a5, -, -⟩ := h.node hp
  have hs := h.2.2.2.1 p hp
  have hh := fk_hd_pos (b (sp p))
  have ho := hk9.2.2.1
  obtain ⟨d, hd⟩ : ∃ d, n - sp p = d + 1 := ⟨n - sp p - 1, by omega⟩
  rw [hd, fk_tf_S, if_neg (by simpa using a2)]
  by_cases hi : fk_it M (b (sp p)) (b (sp p + 1)) (A (sp p)) = true
  · rw [if_pos hi, if_pos hi, hs]
    rcases (by omega : fk_hd (b (sp p)) = 1 ∨ fk_hd (b (sp p)) = 2) with h1 | h2
    · rw [h1]
      congr 1
      omega
    · rw [h2]
      obtain ⟨d', hd'⟩ : ∃ d', d = d' + 1 := ⟨d - 1, by omega⟩
      subst hd'
      rw [fk_tf_S, if_pos (by rw [a5 h2]; exact fk_irr)]
      congr 1
      omega
  · rw [if_neg hi, if_neg hi]
theorem fk_rty_stay {bl : Nat → Int32} (h : fk_NW b n cnt E sp sl N) {i : Nat} : ∀ d p S, p + d = N → i ≤ sp p → (fk_rty b sp sl bl d p S (nI i)).2 = nI i := by
  intro d
  induction d with
  | zero => intro p S _ _; rfl
  | succ d ih =>
    intro p S hp hi
    have hm := h.mono p (p + 1) (by omega) (by omega)
    obtain ⟨e, hk9, -⟩ := h.node (p := p) (by omega)
    have hn := h.1
    have hlt := hk9.1
    rw [fk_rty_S, fk_nt_stay hi (by omega), ite_self]
    exact ih (p + 1) _ (by omega) (by omega)
/-- the verdict on a node is one -/
theorem fk_ty_eq {M : fk_M} (hbl : ∀ w, w < cnt → M (3 + 6 * w) 1 = M 90 w) {k w : Nat} (hk : k ≤ 18) (hw : (k = 3 ∨ 15 < k) → w < cnt) (v : Int32) : fk_it M k w v = true ↔ ¬ (¬ fk_ris (M 90) k w v = v ∨ (15 < k ∧ M 90 w = 0)) := by
  unfold fk_it fk_ris
  by_cases h3 : k = 3
  · rw [if_pos h3, if_pos h3, decide_eq_true_eq]
    unfold fk_ty1
    rw [hbl w (hw (Or.inl h3))]
    constructor
    · intro h q
      rcases q with q | q
      · exact q h
      · omega
    · intro h
      exact Decidable.byContradiction (fun q => h (Or.inl q))
  · rw [if_neg h3, if_neg h3]
    by_cases h15 : 15 < k
    · rw [if_pos h15, if_pos (by omega), decide_eq_true_eq]
      unfold fk_ty1
      rw [hbl w (hw (Or.inr h15))]
      by_cases hz : M 90 w = 0
      · rw [show decide (¬ M 90 w = 0) = false from decide_eq_false (fun q => q hz)]
        constructor
        · intro q; exact absurd q (by decide)
        · intro q; exact absurd (Or.inr ⟨h15, hz⟩) q
      · rw [show decide (¬ M 90 w = 0) = true from decide_eq_true hz]
        constructor
        · intro _ q
          rcases q with q | q
          · exact q rfl
          · exact hz q.2
        · intro _; rfl
    · rw [if_neg h15, decide_eq_true_eq]
      unfold fk_rt fk_gv
      by_cases h12 : 12 < k
      · rw [if_pos h12, if_neg (by omega), if_pos (Or.inr h12)]
        constructor
        · intro _ q
          rcases q with q | q
          · exact q rfl
          · omega
        · intro _; exact Or.inl rfl
      · rw [if_neg h12]
        by_cases hg : k = 1 ∨ k = 2 ∨ k = 4 ∨ (8 < k ∧ k < 13)
        · rw [if_pos hg, if_pos hg]
          constructor
          · intro q r
            rcases q with q | q
            · omega
            · rcases r with r | r
              · exact r q
              · omega
          · intro q
            exact Or.inr (Decidable.byContradiction (fun r => q (Or.inl r)))
        · rw [if_neg hg, if_neg hg, if_neg (by omega)]
          constructor
          · intro q r
            rcases q with q | q
            · omega
            · rcases r with r | r
              · exact r q
              · omega
          · intro q
            exact Or.inr (Decidable.byContradiction (fun r => q (Or.inl r)))
theorem fk_ty_want {k : Nat} (hk : 4 ≤ k) (v : Int32) : fk_wv k v = fk_rtk k v := by
  unfold fk_wv fk_rtk
  by_cases h12 : 12 < k
  · have e : fk_pt k = 2 := by unfold fk_pt; rw [if_neg (by omega), if_pos (Or.inr h12)]
    rw [e, if_pos rfl, if_pos h12]
  · rw [if_neg h12]
    by_cases h : k = 4 ∨ k = 11 ∨ k = 12
    · have e : fk_pt k = 1 := by unfold fk_pt; rw [if_pos h]
      rw [e, if_neg (by decide), if_pos h]
    · have e : fk_pt k = 0 := by unfold fk_pt; rw [if_neg h, if_neg (by omega)]
      rw [e, if_neg (by decide), if_neg h]
theorem fk_ar4 {k : Nat} (h : 0 < fk_ar k) : 4 ≤ k := by
  unfold fk_ar at h
  split at h
  · omega
  · omega
theorem fk_ty_sim {M : fk_M} (h : fk_NW b n cnt E sp sl N) (hbl : ∀ w, w < cnt → M (3 + 6 * w) 1 = M 90 w) {pl : Int32} (hpl : pl < 0) : ∀ d p S A, p + d = N → fk_J9 E sp sl p S A →
    (fk_rty b sp sl (M 90) d p S pl).2 = match (fk_tf M b E (n - sp p) (sp p) A).1 with | none => pl | some i => nI i := by
  intro d
  induction d with
  | zero =>
    intro p S A hp _
    have e : p = N := by omega
    subst e
    rw [h.2.2.2.2.1, Nat.sub_self]
    rfl
  | succ d ih =>
    intro p S A hp hJ
    have hpN : p < N := by omega
    obtain ⟨e, hk9, a1, a2, a3, a4, a5, ⟨q9, a6⟩, a7⟩ := h.node hpN
    obtain ⟨s1, s2⟩ := h.2.2.2.2.2.2 p hpN
    have hn := h.1
    have htop : S (sl p - 1) = A (sp p) := hJ 0 (by omega)
    rw [fk_rty_S, fk_tf_node M h hpN, htop]
    have hv := fk_ty_eq hbl hk9.2.1 hk9.2.2.2 (A (sp p))
    by_cases hi : fk_it M (b (sp p)) (b (sp p + 1)) (A (sp p)) = true
    · rw [if_pos hi, if_neg (hv.mp hi)]
      obtain ⟨t1, t2⟩ := fk_Ts_ir hn _ _ _ a6
      obtain ⟨w1, w2⟩ := fk_wt_at (E := E) (k := b (sp p)) (v := fk_wv (b (sp p)) (A (sp p))) (q0 := 0) (fk_ar (b (sp p))) 0 (sp p + fk_hd (b (sp p))) A (fun j hj => (t2 j hj).2.1)
      obtain ⟨j1, j2⟩ := fk_wj_at (if b (sp p) = 13 then nI 1 else fk_rtk (b (sp p)) (A (sp p))) (fk_rtk (b (sp p)) (A (sp p))) (fk_ar (b (sp p))) (sl p - 1) S
      refine ih (p + 1) _ _ (by omega) (h.sim hpN hJ (w := fun q => if q = 0 then (if b (sp p) = 13 then nI 1 else fk_rtk (b (sp p)) (A (sp p))) else fk_rtk (b (sp p)) (A (sp p))) (fun q hq => ?_) (fun y hy => w2 y (Or.inr hy)) (fun q hq => j1 q hq) (fun j hj => j2 j (Or.inl hj)))
      rw [w1 q hq, Nat.zero_add, fk_ty_want (fk_ar4 (by omega))]
      show _ = if q = 0 then _ else _
      by_cases hq0 : q = 0
      · rw [if_pos hq0]
        by_cases h13 : b (sp p) = 13
        · rw [if_pos ⟨h13, hq0⟩, if_pos h13]
        · rw [if_neg (fun r => h13 r.1), if_neg h13]
      · rw [if_neg hq0, if_neg (fun r => hq0 r.2)]
    · rw [if_neg hi, if_pos (Decidable.byContradiction (fun q => hi (hv.mpr q)))]
      show _ = nI (sp p)
      rw [fk_nt_first (by omega) hpl]
      have hm := h.mono p (p + 1) (by omega) (by omega)
      exact fk_rty_stay h d (p + 1) _ (by omega) (by omega)
end
