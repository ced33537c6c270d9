/-! Rule 4: the beginnings; the names outside every pre. Class against reference. -/
theorem z_bgv {E A S : Nat → Int32} {k y t : Nat} (hS : ∀ q, q < fk_ar k → S (t - 1 - q) = A (fk_ir E q y)) (h01 : ∀ q, q < fk_ar k → A (fk_ir E q y) = 0 ∨ A (fk_ir E q y) = nI 1) : fk_bv k (fk_bo S (fk_ar k) 0 t (nI 0) (nI 0)).1 (fk_bo S (fk_ar k) 0 t (nI 0) (nI 0)).2 = nI (decide (k = 14) || fk_hn E A (fk_as k) y).toNat ∧ (0 < fk_ar k → (fk_bo S (fk_ar k) 0 t (nI 0) (nI 0)).1 = A y) := by
  have e2 : ∀ a, 0 < a → a ≤ 3 → (fk_bo S a 0 t (nI 0) (nI 0)).1 = S (t - 1) := by
    intro a h1 h2
    rcases (by omega : a = 1 ∨ a = 2 ∨ a = 3) with rfl | rfl | rfl <;> rfl
  have har := fk_ar_le k
  refine ⟨?_, fun h => by rw [e2 _ h har]; exact hS 0 h⟩
  unfold fk_bv
  by_cases h14 : k = 14
  · rw [if_pos h14, decide_eq_true h14]
    rfl
  · rw [if_neg h14, decide_eq_false h14, Bool.false_or]
    by_cases h15 : k = 15
    · subst h15
      rw [if_pos rfl, e2 _ (by decide) (by decide), show fk_as 15 = 1 from rfl]
      have a0 := hS 0 (by decide)
      have b0 := h01 0 (by decide)
      show S (t - 1) = nI (if A y = 0 then false else true).toNat
      have a0 : S (t - 1) = A y := a0
      rw [a0]
      rcases b0 with b0 | b0
      · have b0 : A y = 0 := b0
        rw [b0]; decide +kernel
      · have b0 : A y = nI 1 := b0
        rw [b0]; decide +kernel
    · rw [if_neg h15, show fk_as k = fk_ar k from if_neg h15]
      generalize fk_ar k = a at *
      rcases (by omega : a = 0 ∨ a = 1 ∨ a = 2 ∨ a = 3) with rfl | rfl | rfl | rfl
      · show nI 0 ||| nI 0 = nI (false).toNat
        decide +kernel
      · have a0 : S (t - 1) = A y := hS 0 (by decide)
        have b0 : A y = 0 ∨ A y = nI 1 := h01 0 (by decide)
        show S (t - 1) ||| nI 0 = nI (if A y = 0 then false else true).toNat
        rw [a0]
        rcases b0 with b0 | b0 <;> rw [b0] <;> decide +kernel
      · have a0 : S (t - 1) = A y := hS 0 (by decide)
        have a1 : S (t - 1 - 1) = A (E y).toNatClampNeg := hS 1 (by decide)
        have b0 : A y = 0 ∨ A y = nI 1 := h01 0 (by decide)
        have b1 : A (E y).toNatClampNeg = 0 ∨ A (E y).toNatClampNeg = nI 1 := h01 1 (by decide)
        show S (t - 1) ||| (nI 0 ||| S (t - 1 - 1)) = nI (if A y = 0 then (if A (E y).toNatClampNeg = 0 then false else true) else true).toNat
        rw [a0, a1]
        rcases b0 with b0 | b0 <;> rcases b1 with b1 | b1 <;> rw [b0, b1] <;> decide +kernel
      · have a0 : S (t - 1) = A y := hS 0 (by decide)
        have a1 : S (t - 1 - 1) = A (E y).toNatClampNeg := hS 1 (by decide)
        have a2 : S (t - 1 - 1 - 1) = A (E (E y).toNatClampNeg).toNatClampNeg := hS 2 (by decide)
        have b0 : A y = 0 ∨ A y = nI 1 := h01 0 (by decide)
        have b1 : A (E y).toNatClampNeg = 0 ∨ A (E y).toNatClampNeg = nI 1 := h01 1 (by decide)
        have b2 : A (E (E y).toNatClampNeg).toNatClampNeg = 0 ∨ A (E (E y).toNatClampNeg).toNatClampNeg = nI 1 := h01 2 (by decide)
        show S (t - 1) ||| ((nI 0 ||| S (t - 1 - 1)) ||| S (t - 1 - 1 - 1)) = nI (if A y = 0 then (if A (E y).toNatClampNeg = 0 then (if A (E (E y).toNatClampNeg).toNatClampNeg = 0 then false else true) else true) else true).toNat
        rw [a0, a1, a2]
        rcases b0 with b0 | b0 <;> rcases b1 with b1 | b1 <;> rcases b2 with b2 | b2 <;> rw [b0, b1, b2] <;> decide +kernel
section
variable {b : Nat → Nat} {n cnt : Nat} {E : Nat → Int32} {sp sl : Nat → Nat} {N : Nat}
theorem z_bg_node (h : fk_NW b n cnt E sp sl N) {p : Nat} (hp : p < N) (lo : Option Nat) (A : Nat → Int32) : fk_bg b E (sp (p + 1)) lo A = fk_bg b E (sp p) (if (b (sp p) = 14 ∨ b (sp p) = 15) ∧ ¬ A (sp p + fk_hd (b (sp p))) = 0 then some (sp p) else lo) (upd A (sp p) (nI (decide (b (sp p) = 14) || fk_hn E A (fk_as (b (sp p))) (sp p + fk_hd (b (sp p)))).toNat)) := by
  obtain ⟨e, hk9, a1, a2, a3, a4, a5, -, -⟩ := h.node hp
  have hs := h.2.2.2.1 p hp
  have hh := fk_hd_pos (b (sp p))
  rcases (by omega : fk_hd (b (sp p)) = 1 ∨ fk_hd (b (sp p)) = 2) with h1 | h2
  · have e1 : sp (p + 1) = sp p + 1 := by omega
    rw [e1, fk_bg_S, if_neg (fun q => q a2)]
  · have e1 : sp (p + 1) = sp p + 1 + 1 := by omega
    rw [e1, fk_bg_S, if_pos (by rw [a5 h2]; exact fk_irr), fk_bg_S, if_neg (fun q => q a2)]
theorem z_bit (c : Bool) : nI c.toNat = 0 ∨ nI c.toNat = nI 1 := by
  cases c
  · exact Or.inl nI_0
  · exact Or.inr rfl
theorem z_bg_sim (h : fk_NW b n cnt E sp sl N) : ∀ p S A lo, p ≤ N → fk_J9 E sp sl p S A → (∀ k, k < sl p → A (fk_ir E k (sp p)) = 0 ∨ A (fk_ir E k (sp p)) = nI 1) → (∀ j, lo = some j → sp p ≤ j ∧ j < 40) →
    (fk_rbg b sp sl p S (fk_rv lo)).2 = fk_rv (fk_bg b E (sp p) lo A).1 ∧ (fk_rbg b sp sl p S (fk_rv lo)).1 0 = (fk_bg b E (sp p) lo A).2 0 ∧ ((fk_bg b E (sp p) lo A).2 0 = 0 ∨ (fk_bg b E (sp p) lo A).2 0 = nI 1) ∧ ∀ j, (fk_bg b E (sp p) lo A).1 = some j → j < 40 := by
  intro p
  induction p with
  | zero =>
    intro S A lo _ hJ h01 hlo
    have e0 := h.2.2.1
    have s0 := h.2.2.2.2.2.1
    have j0 := hJ 0 (by omega)
    have z0 := h01 0 (by omega)
    rw [s0] at j0
    have j0 : S 0 = A (sp 0) := j0
    rw [e0] at j0 z0 hlo ⊢
    exact ⟨rfl, j0, z0, fun j hj => (hlo j hj).2⟩
  | succ p ih =>
    intro S A lo hp hJ h01 hlo
    have hpN : p < N := by omega
    obtain ⟨e, hk9, a1, a2, a3, a4, a5, ⟨q9, a6⟩, a7⟩ := h.node hpN
    obtain ⟨s1, s2⟩ := h.2.2.2.2.2.2 p hpN
    have hn := h.1
    have hs := h.2.2.2.1 p hpN
    have hh := fk_hd_pos (b (sp p))
    obtain ⟨t1, t2⟩ := fk_Ts_ir hn _ _ _ a6
    have hlt := hk9.1
    rw [fk_rbg_S, z_bg_node h hpN]
    obtain ⟨v1, v2⟩ := z_bgv (E := E) (A := A) (S := S) (k := b (sp p)) (y := sp (p + 1)) (t := sl (p + 1)) (fun q hq => hJ q (by omega)) (fun q hq => h01 q (by omega))
    rw [v1]
    have hlo2 : (if (b (sp p) = 14 ∨ b (sp p) = 15) ∧ (fk_bo S (fk_ar (b (sp p))) 0 (sl (p + 1)) (nI 0) (nI 0)).1 = nI 1 then fk_nt (fk_rv lo) (sp p) else fk_rv lo) = fk_rv (if (b (sp p) = 14 ∨ b (sp p) = 15) ∧ ¬ A (sp p + fk_hd (b (sp p))) = 0 then some (sp p) else lo) := by
      by_cases hc : b (sp p) = 14 ∨ b (sp p) = 15
      · have har : 0 < fk_ar (b (sp p)) := by rcases hc with hc | hc <;> rw [hc] <;> decide
        rw [v2 har, ← hs]
        have z0 : A (sp (p + 1)) = 0 ∨ A (sp (p + 1)) = nI 1 := h01 0 (by omega)
        rcases z0 with z0 | z0
        · rw [z0, if_neg (fun q => absurd q.2 (by decide)), if_neg (fun q => q.2 rfl)]
        · rw [z0, if_pos ⟨hc, rfl⟩, if_pos ⟨hc, by decide⟩]
          show fk_nt (fk_rv lo) (sp p) = nI (sp p)
          cases lo with
          | none => exact fk_nt_first (by omega) (by decide)
          | some j =>
            obtain ⟨l1, l2⟩ := hlo j rfl
            have hm := h.mono p (p + 1) (by omega) (by omega)
            unfold fk_nt
            refine if_pos (Or.inr (fun q => ?_))
            have q := (nI_leI (by omega) (by omega)).mp q
            omega
      · rw [if_neg (fun q => hc q.1), if_neg (fun q => hc q.1)]
    rw [hlo2, hs]
    have er : ∀ k, k + 1 < sl p → fk_ir E (k + 1) (sp p) = fk_ir E (fk_ar (b (sp p)) + k) (sp (p + 1)) := by
      intro k hk
      rw [(a7 k (by omega)).1, fk_ir_add, hs, t1]
    refine ih _ _ _ (by omega) (fun k hk => ?_) (fun k hk => ?_) (fun j hj => ?_)
    · cases k with
      | zero =>
        show upd S (sl p - 1) _ (sl p - 1) = upd A (sp p) _ (sp p)
        rw [pk_us, pk_us]
      | succ k =>
        have c2 := (a7 k (by omega)).2
        rw [pk_un (by omega), pk_un (by rw [(a7 k (by omega)).1]; omega), er k hk, ← hJ (fk_ar (b (sp p)) + k) (by omega)]
        congr 1
        omega
    · cases k with
      | zero =>
        show upd A (sp p) _ (sp p) = 0 ∨ upd A (sp p) _ (sp p) = nI 1
        rw [pk_us]
        exact z_bit _
      | succ k =>
        have c2 := (a7 k (by omega)).2
        rw [pk_un (by rw [(a7 k (by omega)).1]; omega), er k hk]
        exact h01 _ (by omega)
    · by_cases hc : (b (sp p) = 14 ∨ b (sp p) = 15) ∧ ¬ A (sp p + fk_hd (b (sp p))) = 0
      · rw [if_pos hc] at hj
        cases hj
        exact ⟨Nat.le_refl _, by omega⟩
      · rw [if_neg hc] at hj
        obtain ⟨l1, l2⟩ := hlo j hj
        have hm := h.mono p (p + 1) (by omega) (by omega)
        exact ⟨by omega, l2⟩
end
