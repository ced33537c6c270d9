/-! What a passed check and the instants after it leave: the part of the relation that only instants need. -/
/-- of an equation: types (T: the type wanted of it, bl: which flows are true or false), clocks (class A, reference X), names in the mask m, pasts (class Q, reference K), started (reference St, class's counts Cn) -/
def z_G1 (ck : Nat → Nat) (b : Nat → Nat) (E : Nat → Int32) (sp : Nat → Nat) (N f : Nat) (bl : Nat → Int32) (T m : Int32) (A X Q K St Cn : Nat → Int32) : Prop :=
  (∃ Ty : Nat → Int32, Ty 0 = T ∧ ∀ p, p < N → ((fk_ris bl (b (sp p)) (b (sp p + 1)) (Ty (sp p)) = Ty (sp p) ∧ (15 < b (sp p) → ¬ bl (b (sp p + 1)) = 0)) ∧ ∀ j, j < fk_ar (b (sp p)) → Ty (fk_ir E j (sp p + fk_hd (b (sp p)))) = if b (sp p) = 13 ∧ j = 0 then nI 1 else fk_wv (b (sp p)) (Ty (sp p))) ∧ (b (sp p) = 14 → Ty (sp p) = nI 1 → Q (sp p) = 0 ∨ Q (sp p) = nI 1)) ∧
  z_Ck ck b E sp N f (nI (ck f)) A X ∧ z_Nm b E sp N m ∧ ∀ p, p < N → (b (sp p) = 14 → Q (sp p) = K (40 * f + sp p)) ∧ (b (sp p) = 15 → (St (40 * f + sp p) = 0 ↔ Cn (A (sp p)).toNatClampNeg = 0))
def z_Gd (t : Nat) : fk_Gt := fun n ck P sz Np bb sp _ M =>
  (∀ f, f < n → M (3 + 6 * f) 2 = 0 → 0 < sz f ∧ z_G1 ck (bb f) (M (P f + 2)) (sp f) (Np f) f (M 90) (nI (fk_ty1 M f)) (M 97 f) (M (P f + 3)) (M 102) (M (P f + 4)) (M 103) (M 105) (M 83)) ∧ z_Z n (M 97) ∧ (∀ f, f < n → ck f ≠ 0 → fk_wf (M 97 f) ((ck f - 1) / 2) = true) ∧ (∃ pl, z_T n (M 97) n pl (M 78) ∧ ∀ f, f < n → fk_wf pl f = true) ∧ ∀ c, c < 25 → ∃ q, q ≤ 50 * t ∧ M 83 c = nI q
theorem z_Gd_Gs (t : Nat) : fk_Gs (z_Gd t) := by
  intro n ck P sz Np bb sp sl x M M' hR hX hP hG q
  have h8 := fk_X83 hX (i := 0) (by decide)
  have h9 := fk_X83 hX (i := 1) (by decide)
  have h10 := fk_X83 hX (i := 2) (by decide)
  have hn := hR.1.2.1
  have hk : ∀ k, (k = 78 ∨ k = 83 ∨ 89 < k) → k ≠ 93 → k ≠ 106 → k ≠ 107 → k ≠ 109 → M' k = M k := fun k b1 b2 b3 b4 b5 => q.1 k (by omega) (by omega) (by omega) (by omega) b2 b3 b4 b5 (fun j hj => by omega)
  have hp : ∀ f i, f < n → i < 5 → M' (P f + i) = M (P f + i) := by
    intro f i hf hi
    have a1 := (hR.1.2.2 f (by omega)).1
    have h11 := fk_X83 a1 (i := i) (by omega)
    refine q.1 _ (fun e => hP f (by omega) (fk_XX a1 hX hi (j := 0) (by decide) e)) (fun e => hP f (by omega) (fk_XX a1 hX hi (j := 1) (by decide) e)) (fun e => hP f (by omega) (fk_XX a1 hX hi (j := 2) (by decide) e)) (by omega) (by omega) (by omega) (by omega) (by omega) (fun t ht e => ?_)
    have h12 := fk_X4 a1 ht
    rcases (by omega : i = 0 ∨ i = 1 ∨ i = 2 ∨ i = 3 ∨ i = 4) with rfl | rfl | rfl | rfl | rfl
    · exact h12.2.2.2.2 e
    · exact h12.2.2.2.1 e
    · exact h12.2.2.1 e
    · exact h12.2.1 e
    · exact h12.1 e
  have e78 := hk 78 (by decide) (by decide) (by decide) (by decide) (by decide)
  have e83 := hk 83 (by decide) (by decide) (by decide) (by decide) (by decide)
  have e90 := hk 90 (by decide) (by decide) (by decide) (by decide) (by decide)
  have e97 := hk 97 (by decide) (by decide) (by decide) (by decide) (by decide)
  have e102 := hk 102 (by decide) (by decide) (by decide) (by decide) (by decide)
  have e103 := hk 103 (by decide) (by decide) (by decide) (by decide) (by decide)
  have e105 := hk 105 (by decide) (by decide) (by decide) (by decide) (by decide)
  obtain ⟨g1, g2, g3, g4, g5⟩ := hG
  refine ⟨fun f hf hin => ?_, by rw [e97]; exact g2, by rw [e97]; exact g3, by rw [e97, e78]; exact g4, by rw [e83]; exact g5⟩
  rw [q.2.1 f (by omega) 2 (by decide)] at hin
  obtain ⟨c1, c2⟩ := g1 f hf hin
  have et : fk_ty1 M' f = fk_ty1 M f := by unfold fk_ty1; rw [q.2.1 f (by omega) 1 (by decide)]
  rw [hp f 2 hf (by decide), hp f 3 hf (by decide), hp f 4 hf (by decide), e83, e90, e97, e102, e103, e105, et]
  exact ⟨c1, c2⟩
theorem z_Gd_mono {t t' : Nat} (h : t ≤ t') {n : Nat} {ck P sz Np : Nat → Nat} {bb sp sl : Nat → Nat → Nat} {M : fk_M} (hG : z_Gd t n ck P sz Np bb sp sl M) : z_Gd t' n ck P sz Np bb sp sl M := by
  obtain ⟨g1, g2, g3, g4, g5⟩ := hG
  exact ⟨g1, g2, g3, g4, fun c hc => by obtain ⟨q, q1, q2⟩ := g5 c hc; exact ⟨q, by omega, q2⟩⟩
theorem z_Rel_mono {t t' : Nat} (h : t ≤ t') {M : fk_M} (hR : fk_Rel (z_Gd t) M) : fk_Rel (z_Gd t') M := by
  obtain ⟨n, ck, P, sz, Np, bb, sp, sl, x, dl, db, h1, h2, h3, h4, h5⟩ := hR
  exact ⟨n, ck, P, sz, Np, bb, sp, sl, x, dl, db, h1, h2, h3, h4, fun q => z_Gd_mono h (h5 q)⟩
