/-! Both sides walk the same nodes: roots of the forest from a byte on; the class's row against the reference's stack. -/
def fk_ir (E : Nat → Int32) : Nat → Nat → Nat
  | 0, x => x
  | k + 1, x => fk_ir E k (E x).toNatClampNeg
theorem fk_ir_add (E : Nat → Int32) : ∀ a k x, fk_ir E (a + k) x = fk_ir E k (fk_ir E a x) := by
  intro a
  induction a with
  | zero => intro k x; rw [Nat.zero_add]; rfl
  | succ a ih =>
    intro k x
    rw [show a + 1 + k = (a + k) + 1 by omega]
    exact ih k _
section
variable {b : Nat → Nat} {n cnt : Nat} {E : Nat → Int32}
theorem fk_T_e9 {r x e : Nat} (hn : n ≤ 40) (h : fk_T b n cnt E r x e) : E x = nI e ∧ (E x).toNatClampNeg = e ∧ 0 < E x := by
  have hlt := fk_T_lt _ _ _ h
  cases r with
  | zero => exact h.elim
  | succ r =>
    have h1 := h.2.1
    refine ⟨h1, by rw [h1, nI_clamp (by omega)], ?_⟩
    rw [h1]
    exact fk_pos (by omega) (by omega)
/-- the roots of k trees one behind the other -/
theorem fk_Ts_ir {q : Nat} (hn : n ≤ 40) : ∀ k x e, fk_Ts (fk_T b n cnt E q) k x e → fk_ir E k x = e ∧ ∀ j, j < k → x ≤ fk_ir E j x ∧ fk_ir E j x < fk_ir E (j + 1) x ∧ fk_ir E (j + 1) x ≤ e := by
  intro k
  induction k with
  | zero => intro x e h; exact ⟨h, fun j hj => by omega⟩
  | succ k ih =>
    intro x e h
    obtain ⟨y, h1, h2⟩ := h
    have hy := fk_T_lt _ _ _ h1
    have hE := (fk_T_e9 hn h1).2.1
    obtain ⟨g1, g2⟩ := ih y e h2
    have hye : y ≤ e := (fk_Ts_lt (fk_T_lt q) k y e hy.2 h2).1
    refine ⟨by show fk_ir E k (E x).toNatClampNeg = e; rw [hE]; exact g1, fun j hj => ?_⟩
    cases j with
    | zero =>
      refine ⟨Nat.le_refl _, ?_, ?_⟩
      · show x < (E x).toNatClampNeg
        omega
      · show (E x).toNatClampNeg ≤ e
        omega
    | succ j =>
      obtain ⟨g3, g4, g5⟩ := g2 j (by omega)
      have e1 : fk_ir E (j + 1) x = fk_ir E j y := by show fk_ir E j (E x).toNatClampNeg = _; rw [hE]
      have e2 : fk_ir E (j + 1 + 1) x = fk_ir E (j + 1) y := by show fk_ir E (j + 1) (E x).toNatClampNeg = _; rw [hE]
      rw [e1, e2]
      exact ⟨by omega, g4, g5⟩
theorem fk_CT_ir (hn : n ≤ 40) : ∀ (L : List Nat) (x : Nat), fk_CT b n cnt E L x → ∀ j, j ≤ L.length → x ≤ fk_ir E j x := by
  intro L
  induction L with
  | nil =>
    intro x _ j hj
    have hj : j ≤ 0 := hj
    have : j = 0 := by omega
    subst this
    exact Nat.le_refl _
  | cons r L ih =>
    intro x h j hj
    obtain ⟨e, h1, h2⟩ := h
    have hlt := fk_T_lt _ _ _ h1
    have hE := (fk_T_e9 hn h1).2.1
    cases j with
    | zero => exact Nat.le_refl _
    | succ j =>
      show x ≤ fk_ir E j (E x).toNatClampNeg
      rw [hE]
      have := ih e h2 j (by simp at hj; omega)
      omega
end
/-- what is known of an equation's nodes -/
def fk_NW (b : Nat → Nat) (n cnt : Nat) (E : Nat → Int32) (sp sl : Nat → Nat) (N : Nat) : Prop :=
  n ≤ 40 ∧ fk_T b n cnt E 11 0 n ∧ sp 0 = 0 ∧ (∀ p, p < N → sp (p + 1) = sp p + fk_hd (b (sp p))) ∧ sp N = n ∧ sl 0 = 1 ∧ (∀ p, p < N → 1 ≤ sl p ∧ sl (p + 1) + 1 = sl p + fk_ar (b (sp p)))
section
variable {b : Nat → Nat} {n cnt : Nat} {E : Nat → Int32} {sp sl : Nat → Nat} {N : Nat}
theorem fk_NW.CT (h : fk_NW b n cnt E sp sl N) : ∀ p, p ≤ N → ∃ L, fk_CT b n cnt E L (sp p) ∧ L.length = sl p := by
  intro p
  induction p with
  | zero => intro _; exact ⟨[11], by rw [h.2.2.1]; exact ⟨n, h.2.1, rfl⟩, by rw [h.2.2.2.2.2.1]; rfl⟩
  | succ p ih =>
    intro hp
    obtain ⟨L, h1, h2⟩ := ih (by omega)
    obtain ⟨s1, s2⟩ := h.2.2.2.2.2.2 p (by omega)
    cases L with
    | nil => simp at h2; omega
    | cons r L =>
      obtain ⟨q, e, hr, hk, a1, a2, a3, a4, a5, a6, a7⟩ := fk_CT_step h1
      refine ⟨_, by rw [h.2.2.2.1 p (by omega)]; exact a7, ?_⟩
      rw [List.length_append, List.length_replicate]
      simp at h2
      omega
/-- a node: its end, its children, what follows -/
theorem fk_NW.node (h : fk_NW b n cnt E sp sl N) {p : Nat} (hp : p < N) : ∃ e, fk_ok b n cnt (sp p) ∧ E (sp p) = nI e ∧ 0 < E (sp p) ∧ sp p < e ∧ e ≤ n ∧ (fk_hd (b (sp p)) = 2 → E (sp p + 1) = 0) ∧ (∃ q, fk_Ts (fk_T b n cnt E q) (fk_ar (b (sp p))) (sp p + fk_hd (b (sp p))) e) ∧ (∀ k, k < sl p → fk_ir E (k + 1) (sp p) = fk_ir E k e ∧ e ≤ fk_ir E k e) := by
  obtain ⟨L, h1, h2⟩ := h.CT p (by omega)
  obtain ⟨s1, s2⟩ := h.2.2.2.2.2.2 p hp
  cases L with
  | nil => simp at h2; omega
  | cons r L =>
    obtain ⟨q, e, hr, hk, a1, a2, a3, a4, a5, a6, a7⟩ := fk_CT_step h1
    refine ⟨e, hk, a1, by rw [a1]; exact fk_pos (by omega) (by have := h.1; omega), a2, a3, a4, ⟨q, a6⟩, fun k hk9 => ⟨?_, ?_⟩⟩
    · show fk_ir E k (E (sp p)).toNatClampNeg = _
      rw [a1, nI_clamp (by have := h.1; omega)]
    · simp at h2
      exact fk_CT_ir h.1 L e a5 k (by omega)
theorem fk_NW.mono (h : fk_NW b n cnt E sp sl N) : ∀ p q, p < q → q ≤ N → sp p < sp q := by
  intro p q
  induction q with
  | zero => intro h1; omega
  | succ q ih =>
    intro h1 h2
    have h3 := h.2.2.2.1 q (by omega)
    have h4 := fk_hd_pos (b (sp q))
    by_cases e : p = q
    · subst e; omega
    · have := ih (by omega) (by omega)
      omega
/-- the stack holds what the row holds at the roots -/
def fk_J9 (E : Nat → Int32) (sp sl : Nat → Nat) (p : Nat) (S A : Nat → Int32) : Prop := ∀ k, k < sl p → S (sl p - 1 - k) = A (fk_ir E k (sp p))
theorem fk_NW.sim (h : fk_NW b n cnt E sp sl N) {p : Nat} (hp : p < N) {S S' A A' w : Nat → Int32} (hJ : fk_J9 E sp sl p S A) (hw : ∀ q, q < fk_ar (b (sp p)) → A' (fk_ir E q (sp p + fk_hd (b (sp p)))) = w q) (hr : ∀ y, fk_ir E (fk_ar (b (sp p))) (sp p + fk_hd (b (sp p))) ≤ y → A' y = A y)
    (hs : ∀ q, q < fk_ar (b (sp p)) → S' (sl p - 1 + fk_ar (b (sp p)) - 1 - q) = w q) (hl : ∀ j, j < sl p - 1 → S' j = S j) : fk_J9 E sp sl (p + 1) S' A' := by
  intro k hk
  obtain ⟨e, hk9, a1, a2, a3, a4, a5, ⟨q9, a6⟩, a7⟩ := h.node hp
  obtain ⟨s1, s2⟩ := h.2.2.2.2.2.2 p hp
  obtain ⟨t1, -⟩ := fk_Ts_ir h.1 _ _ _ a6
  rw [h.2.2.2.1 p hp]
  have hsl : sl (p + 1) = sl p - 1 + fk_ar (b (sp p)) := by omega
  rw [hsl] at hk ⊢
  by_cases hka : k < fk_ar (b (sp p))
  · rw [hs k hka, hw k hka]
  · obtain ⟨k', rfl⟩ : ∃ k', k = fk_ar (b (sp p)) + k' := ⟨k - fk_ar (b (sp p)), by omega⟩
    obtain ⟨c1, c2⟩ := a7 k' (by omega)
    rw [fk_ir_add, t1, hr _ (by rw [t1]; exact c2), ← c1, ← hJ (k' + 1) (by omega), hl _ (by omega)]
    congr 1
    omega
end
/-- pushes for the parts -/
theorem fk_wj_at (va vb : Int32) : ∀ k t S, (∀ q, q < k → fk_wj va vb k t S (t + k - 1 - q) = if q = 0 then va else vb) ∧ ∀ j, (j < t ∨ t + k ≤ j) → fk_wj va vb k t S j = S j := by
  intro k
  induction k with
  | zero => intro t S; exact ⟨fun q hq => by omega, fun _ _ => rfl⟩
  | succ k ih =>
    intro t S
    obtain ⟨g1, g2⟩ := ih (t + 1) (upd S t (if k = 0 then va else vb))
    refine ⟨fun q hq => ?_, fun j hj => ?_⟩
    · show fk_wj va vb k (t + 1) (upd S t (if k = 0 then va else vb)) _ = _
      by_cases h : q < k
      · rw [show t + (k + 1) - 1 - q = t + 1 + k - 1 - q by omega]
        exact g1 q h
      · have hq2 : q = k := by omega
        subst hq2
        rw [show t + (q + 1) - 1 - q = t by omega, g2 t (by omega), pk_us]
    · show fk_wj va vb k (t + 1) (upd S t (if k = 0 then va else vb)) j = _
      rw [g2 j (by omega), pk_un (by omega)]
/-- a place noted first stays -/
theorem fk_nt_first {i : Nat} (hi : i < 2 ^ 31) {pl : Int32} (h : pl < 0) : fk_nt pl i = nI i := if_pos (Or.inl h)
theorem fk_nt_stay {i j : Nat} (h : i ≤ j) (hj : j < 2 ^ 31) : fk_nt (nI i) j = nI i := by
  unfold fk_nt
  rw [if_neg]
  rintro (q | q)
  · exact nI_pos (by omega) q
  · exact q ((nI_leI (by omega) hj).mpr h)
