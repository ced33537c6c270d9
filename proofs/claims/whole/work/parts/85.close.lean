/-! The closure of the waits: the class's rounds and the reference's come to one. -/
/-- no bit from the twelfth on -/
def z_sm (v : Int32) : Prop := ∀ j, 12 ≤ j → v.toBitVec.getLsbD j = false
theorem z_sm_or {u v : Int32} (hu : z_sm u) (hv : z_sm v) : z_sm (u ||| v) := fun j hj => by
  rw [Int32.toBitVec_or, BitVec.getLsbD_or, hu j hj, hv j hj, Bool.or_false]
theorem z_sm_1 {f : Nat} (hf : f < 12) : z_sm (nI 1 <<< (nI f &&& 31)) := fun j hj => by
  have h : ∀ f : Fin 12, ∀ j : Fin 32, 12 ≤ j.1 → (nI 1 <<< (nI f.1 &&& 31)).toBitVec.getLsbD j.1 = false := by decide +kernel
  by_cases h32 : j < 32
  · exact h ⟨f, hf⟩ ⟨j, h32⟩ hj
  · exact BitVec.getLsbD_of_ge _ _ (by omega)
theorem z_sm_0 : z_sm (nI 0) := fun j hj => by
  have h : ∀ j : Fin 32, 12 ≤ j.1 → (nI 0).toBitVec.getLsbD j.1 = false := by decide +kernel
  by_cases h32 : j < 32
  · exact h ⟨j, h32⟩ hj
  · exact BitVec.getLsbD_of_ge _ _ (by omega)
theorem z_sm_eq {u v : Int32} (hu : z_sm u) (hv : z_sm v) (h : ∀ j, j < 12 → fk_wf u j = fk_wf v j) : u = v := by
  apply Int32.toBitVec_inj.mp
  apply BitVec.eq_of_getLsbD_eq
  intro j hj
  by_cases h12 : j < 12
  · rw [← fk_wf_b u h12, ← fk_wf_b v h12, h j h12]
  · rw [hu j (by omega), hv j (by omega)]
/-- waiting for nothing that isn't there -/
theorem z_ready {m : Int32} (hm : z_sm m) (pl : Int32) : m &&& (pl ^^^ (-1)) = 0 ↔ ∀ j, j < 12 → fk_wf m j = true → fk_wf pl j = true := by
  have hx : ∀ j, j < 32 → (m &&& (pl ^^^ (-1))).toBitVec.getLsbD j = (m.toBitVec.getLsbD j && !pl.toBitVec.getLsbD j) := by
    intro j hj
    have h1 : ∀ j : Fin 32, (-1 : Int32).toBitVec.getLsbD j.1 = true := by decide +kernel
    rw [Int32.toBitVec_and, BitVec.getLsbD_and, Int32.toBitVec_xor, BitVec.getLsbD_xor, h1 ⟨j, hj⟩, Bool.xor_true]
  constructor
  · intro h j hj hw
    have h2 := hx j (by omega)
    rw [h, ← fk_wf_b m hj, ← fk_wf_b pl hj, hw] at h2
    have h0 : ∀ j : Fin 32, (0 : Int32).toBitVec.getLsbD j.1 = false := by decide +kernel
    rw [h0 ⟨j, by omega⟩] at h2
    cases hp : fk_wf pl j
    · rw [hp] at h2; exact absurd h2 (by decide)
    · rfl
  · intro h
    apply Int32.toBitVec_inj.mp
    apply BitVec.eq_of_getLsbD_eq
    intro j hj
    have h0 : ∀ j : Fin 32, (0 : Int32).toBitVec.getLsbD j.1 = false := by decide +kernel
    rw [hx j hj, h0 ⟨j, hj⟩]
    by_cases h12 : j < 12
    · rw [← fk_wf_b m h12, ← fk_wf_b pl h12]
      cases hp : fk_wf m j
      · rfl
      · rw [h j h12 hp]; rfl
    · rw [hm j (by omega)]; rfl
/-- the class's round through k -/
theorem z_t3 {M : fk_M} {k : Nat} (hk : k < 12) : ∀ i a j, j < 12 → (fk_wf (fk_t3 M k i 76 a) j = true ↔ fk_wf (M 76 a) j = true ∨ (a < i ∧ fk_wf (M 76 a) k = true ∧ fk_wf (M 76 k) j = true)) := by
  intro i
  induction i with
  | zero =>
    intro a j hj
    show fk_wf (M 76 a) j = true ↔ _
    exact ⟨Or.inl, fun h => h.elim id (fun h => absurd h.1 (by omega))⟩
  | succ i ih =>
    intro a j hj
    have hrow : fk_t3 M k (i + 1) = if fk_wf (fk_t3 M k i 76 i) k = true then va_up (fk_t3 M k i) 76 (upd (fk_t3 M k i 76) i (fk_t3 M k i 76 i ||| fk_t3 M k i 76 k)) else fk_t3 M k i := rfl
    have hik := ih i k hk
    rw [hrow]
    by_cases hw : fk_wf (fk_t3 M k i 76 i) k = true
    · rw [if_pos hw, va_up_self]
      have hik : fk_wf (M 76 i) k = true := (hik.mp hw).elim id (fun q => absurd q.1 (by omega))
      by_cases ha : a = i
      · subst ha
        rw [pk_us, fk_wf_or _ _ hj, Bool.or_eq_true, ih a j hj, ih k j hj]
        constructor
        · rintro ((q | q) | (q | q))
          · exact Or.inl q
          · omega
          · exact Or.inr ⟨by omega, hik, q⟩
          · exact Or.inr ⟨by omega, hik, q.2.2⟩
        · rintro (q | q)
          · exact Or.inl (Or.inl q)
          · exact Or.inr (Or.inl q.2.2)
      · rw [pk_un ha, ih a j hj]
        constructor
        · rintro (q | q)
          · exact Or.inl q
          · exact Or.inr ⟨by omega, q.2⟩
        · rintro (q | q)
          · exact Or.inl q
          · exact Or.inr ⟨by omega, q.2⟩
    · rw [if_neg hw, ih a j hj]
      constructor
      · rintro (q | q)
        · exact Or.inl q
        · exact Or.inr ⟨by omega, q.2⟩
      · rintro (q | q)
        · exact Or.inl q
        · by_cases ha : a = i
          · subst ha
            exact absurd ((ih a k hk).mpr (Or.inl q.2.1)) hw
          · exact Or.inr ⟨by omega, q.2⟩
theorem z_t2 {M : fk_M} {n : Nat} (hn : n ≤ 12) : ∀ k, k ≤ n → ∀ a j, a < n → j < 12 → (fk_wf (fk_t2 n M k 76 a) j = true ↔ fk_wp (fun a j => fk_wf (M 76 a) j = true) k a j) := by
  intro k
  induction k with
  | zero => intro _ a j _ _; exact Iff.rfl
  | succ k ih =>
    intro hk a j ha hj
    show fk_wf (fk_t3 (fk_t2 n M k) k n 76 a) j = true ↔ _ ∨ _
    rw [z_t3 (by omega) n a j hj, ih (by omega) a j ha hj, ih (by omega) a k ha (by omega), ih (by omega) k j (by omega) hj]
    constructor
    · rintro (q | q)
      · exact Or.inl q
      · exact Or.inr q.2
    · rintro (q | q)
      · exact Or.inl q
      · exact Or.inr ⟨ha, q⟩
theorem z_t3_sm {M : fk_M} {k n : Nat} (h : ∀ a, a < n → z_sm (M 76 a)) (hk : k < n) : ∀ i a, a < n → z_sm (fk_t3 M k i 76 a) := by
  intro i
  induction i with
  | zero => intro a ha; exact h a ha
  | succ i ih =>
    intro a ha
    show z_sm ((if fk_wf (fk_t3 M k i 76 i) k = true then va_up (fk_t3 M k i) 76 (upd (fk_t3 M k i 76) i (fk_t3 M k i 76 i ||| fk_t3 M k i 76 k)) else fk_t3 M k i) 76 a)
    split
    · rw [va_up_self]
      by_cases e : a = i
      · subst e; rw [pk_us]; exact z_sm_or (ih a ha) (ih k hk)
      · rw [pk_un e]; exact ih a ha
    · exact ih a ha
theorem z_t2_sm {M : fk_M} {n : Nat} (h : ∀ a, a < n → z_sm (M 76 a)) : ∀ k, k ≤ n → ∀ a, a < n → z_sm (fk_t2 n M k 76 a) := by
  intro k
  induction k with
  | zero => intro _ a ha; exact h a ha
  | succ k ih => intro hk a ha; exact z_t3_sm (ih (by omega)) (by omega) n a ha
/-- the reference's rounds -/
theorem z_x3_ne {f : Nat} {A : Nat → Int32} : ∀ m a, a ≠ f → fk_x3 f A m a = A a := by
  intro m
  induction m with
  | zero => intro a _; rfl
  | succ m ih => intro a ha; show upd _ f _ a = _; rw [pk_un ha]; exact ih a ha
theorem z_x3_ge {f : Nat} {A : Nat → Int32} : ∀ m a j, j < 12 → fk_wf (A a) j = true → fk_wf (fk_x3 f A m a) j = true := by
  intro m
  induction m with
  | zero => intro a j _ h; exact h
  | succ m ih =>
    intro a j hj h
    show fk_wf (upd (fk_x3 f A m) f _ a) j = true
    by_cases e : a = f
    · subst e
      rw [pk_us]
      split
      · rw [fk_wf_or _ _ hj, ih a j hj h, Bool.true_or]
      · exact ih a j hj h
    · rw [pk_un e]; exact ih a j hj h
theorem z_x3_via {f : Nat} {A : Nat → Int32} {k j : Nat} (hk : k < 12) (hj : j < 12) (h1 : fk_wf (A f) k = true) (h2 : fk_wf (A k) j = true) : ∀ m, k < m → fk_wf (fk_x3 f A m f) j = true := by
  intro m
  induction m with
  | zero => intro h; omega
  | succ m ih =>
    intro hm
    show fk_wf (upd (fk_x3 f A m) f _ f) j = true
    rw [pk_us]
    by_cases e : k = m
    · subst e
      rw [if_pos (z_x3_ge k f k hk h1), fk_wf_or _ _ hj, z_x3_ge k k j hj h2, Bool.or_true]
    · have h3 := ih (by omega)
      split
      · rw [fk_wf_or _ _ hj, h3, Bool.true_or]
      · exact h3
theorem z_x3_le {f n : Nat} {A : Nat → Int32} {U : Nat → Nat → Prop} (hn : n ≤ 12) (hf : f < n) (hU : ∀ a k j, k < n → U a k → U k j → U a j) (h : ∀ a j, a < n → j < 12 → fk_wf (A a) j = true → U a j) : ∀ m, m ≤ n → ∀ a j, a < n → j < 12 → fk_wf (fk_x3 f A m a) j = true → U a j := by
  intro m
  induction m with
  | zero => intro _ a j ha hj q; exact h a j ha hj q
  | succ m ih =>
    intro hm a j ha hj q
    have q : fk_wf (upd (fk_x3 f A m) f (if fk_wf (fk_x3 f A m f) m = true then fk_x3 f A m f ||| fk_x3 f A m m else fk_x3 f A m f) a) j = true := q
    by_cases e : a = f
    · subst e
      rw [pk_us] at q
      by_cases hw : fk_wf (fk_x3 a A m a) m = true
      · rw [if_pos hw, fk_wf_or _ _ hj, Bool.or_eq_true] at q
        rcases q with q | q
        · exact ih (by omega) a j ha hj q
        · exact hU a m j (by omega) (ih (by omega) a m ha (by omega) hw) (ih (by omega) m j (by omega) hj q)
      · rw [if_neg hw] at q
        exact ih (by omega) a j ha hj q
    · rw [pk_un e] at q
      exact ih (by omega) a j ha hj q
theorem z_x3_sm {f n : Nat} {A : Nat → Int32} (hf : f < n) (h : ∀ a, a < n → z_sm (A a)) : ∀ m, m ≤ n → ∀ a, a < n → z_sm (fk_x3 f A m a) := by
  intro m
  induction m with
  | zero => intro _ a ha; exact h a ha
  | succ m ih =>
    intro hm a ha
    show z_sm (upd (fk_x3 f A m) f _ a)
    by_cases e : a = f
    · subst e
      rw [pk_us]
      split
      · exact z_sm_or (ih (by omega) a ha) (ih (by omega) m (by omega))
      · exact ih (by omega) a ha
    · rw [pk_un e]; exact ih (by omega) a ha
theorem z_x2 {n : Nat} {A : Nat → Int32} (hn : n ≤ 12) : ∀ f, f ≤ n → (∀ a j, j < 12 → fk_wf (A a) j = true → fk_wf (fk_x2 n A f a) j = true) ∧ (∀ U : Nat → Nat → Prop, (∀ a k j, k < n → U a k → U k j → U a j) → (∀ a j, a < n → j < 12 → fk_wf (A a) j = true → U a j) → ∀ a j, a < n → j < 12 → fk_wf (fk_x2 n A f a) j = true → U a j) ∧ (∀ a k j, a < f → k < n → j < 12 → fk_wf (A a) k = true → fk_wf (A k) j = true → fk_wf (fk_x2 n A f a) j = true) ∧ ((∀ a, a < n → z_sm (A a)) → ∀ a, a < n → z_sm (fk_x2 n A f a)) := by
  intro f
  induction f with
  | zero => intro _; exact ⟨fun _ _ _ h => h, fun U _ h => h, fun a k j h => by omega, fun h => h⟩
  | succ f ih =>
    intro hf
    obtain ⟨g1, g2, g3, g4⟩ := ih (by omega)
    refine ⟨fun a j hj h => z_x3_ge n a j hj (g1 a j hj h), fun U hU h => z_x3_le hn (by omega) hU (g2 U hU h) n (Nat.le_refl _), fun a k j ha hk hj h1 h2 => ?_, fun h => z_x3_sm (by omega) (g4 h) n (Nat.le_refl _)⟩
    by_cases e : a = f
    · subst e
      exact z_x3_via (by omega) hj (g1 a k (by omega) h1) (g1 k j hj h2) n hk
    · exact z_x3_ge n a j hj (g3 a k j (by omega) hk hj h1 h2)
theorem z_x1 {n : Nat} {A : Nat → Int32} (hn : n ≤ 12) : ∀ r, r ≤ n → (∀ a j, a < n → j < 12 → fk_wp (fun a j => fk_wf (A a) j = true) r a j → fk_wf (fk_x1 n A r a) j = true) ∧ (∀ U : Nat → Nat → Prop, (∀ a k j, k < n → U a k → U k j → U a j) → (∀ a j, a < n → j < 12 → fk_wf (A a) j = true → U a j) → ∀ a j, a < n → j < 12 → fk_wf (fk_x1 n A r a) j = true → U a j) ∧ ((∀ a, a < n → z_sm (A a)) → ∀ a, a < n → z_sm (fk_x1 n A r a)) := by
  intro r
  induction r with
  | zero => intro _; exact ⟨fun _ _ _ _ h => h, fun U _ h => h, fun h => h⟩
  | succ r ih =>
    intro hr
    obtain ⟨g1, g2, g3⟩ := ih (by omega)
    obtain ⟨x1, x2, x3, x4⟩ := z_x2 (A := fk_x1 n A r) hn n (Nat.le_refl _)
    refine ⟨fun a j ha hj h => ?_, fun U hU h => x2 U hU (g2 U hU h), fun h => x4 (g3 h)⟩
    show fk_wf (fk_x2 n (fk_x1 n A r) n a) j = true
    rcases h with h | ⟨h, h'⟩
    · exact x1 a j hj (g1 a j ha hj h)
    · exact x3 a r j ha (by omega) hj (g1 a r ha (by omega) h) (g1 r j (by omega) hj h')
/-- the same masks, closed -/
theorem z_close {M : fk_M} {A : Nat → Int32} {n : Nat} (hn : n ≤ 12) (hA : ∀ a, a < n → M 76 a = A a) (hs : ∀ a, a < n → z_sm (M 76 a)) : (∀ a, a < n → fk_t2 n M n 76 a = fk_x1 n A n a) ∧ (∀ a, a < n → z_sm (fk_x1 n A n a)) ∧ (∀ a k j, a < n → k < n → j < 12 → fk_wf (fk_x1 n A n a) k = true → fk_wf (fk_x1 n A n k) j = true → fk_wf (fk_x1 n A n a) j = true) ∧ ∀ a j, a < n → j < 12 → fk_wf (A a) j = true → fk_wf (fk_x1 n A n a) j = true := by
  obtain ⟨g1, g2, g3⟩ := z_x1 (A := A) hn n (Nat.le_refl _)
  have hsm := g3 (fun a ha => by rw [← hA a ha]; exact hs a ha)
  have up := g2 (fun a j => fk_wp (fun a j => fk_wf (A a) j = true) n a j) (fun a k j hk h1 h2 => fk_wp_via n k hk a j h1 h2) (fun a j _ _ h => fk_wp_le (Nat.zero_le _) h)
  have hR : ∀ k a j, a < n → j < 12 → k ≤ n → (fk_wp (fun a j => fk_wf (M 76 a) j = true) k a j ↔ fk_wp (fun a j => fk_wf (A a) j = true) k a j) := by
    intro k
    induction k with
    | zero => intro a j ha _ _; show fk_wf (M 76 a) j = true ↔ fk_wf (A a) j = true; rw [hA a ha]
    | succ k ih =>
      intro a j ha hj hk
      show _ ∨ _ ↔ _ ∨ _
      rw [ih a j ha hj (by omega), ih a k ha (by omega) (by omega), ih k j (by omega) hj (by omega)]
  refine ⟨fun a ha => z_sm_eq (z_t2_sm hs n (Nat.le_refl _) a ha) (hsm a ha) (fun j hj => ?_), hsm, fun a k j ha hk hj h1 h2 => g1 a j ha hj (fk_wp_via n k hk a j (up a k ha (by omega) h1) (up k j hk hj h2)), fun a j ha hj h => g1 a j ha hj (fk_wp_le (Nat.zero_le _) h)⟩
  rw [Bool.eq_iff_iff, z_t2 hn n (Nat.le_refl _) a j ha hj, hR n a j ha hj (Nat.le_refl _)]
  exact ⟨g1 a j ha hj, up a j ha hj⟩
