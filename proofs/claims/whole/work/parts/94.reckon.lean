/-! A whole equation: the reference's stack against the class's values. -/
/-- what the two sides share about an equation at this instant -/
def z_Ev (C : fk_M) (x f : Nat) (b : Nat → Nat) (E : Nat → Int32) (sp : Nat → Nat) (N : Nat) (ck : Nat → Nat) (bl vl kp st Ty : Nat → Int32) (Pn : Nat → Prop) : Prop :=
  (∀ p, p < N → Pn (sp p) → (b (sp p) = 3 ∨ 15 < b (sp p)) → z_gw C vl bl ck (b (sp p + 1)) ∧ ck (b (sp p + 1)) < 25 ∧ b (sp p + 1) < 12) ∧ (∀ p, p < N → Pn (sp p) → b (sp p) ≠ 14 → ∀ j, j < fk_ar (b (sp p)) → Pn (fk_ir E j (sp p + fk_hd (b (sp p))))) ∧
  (∀ p, p < N → (fk_ris bl (b (sp p)) (b (sp p + 1)) (Ty (sp p)) = Ty (sp p) ∧ (15 < b (sp p) → ¬ bl (b (sp p + 1)) = 0)) ∧ ∀ j, j < fk_ar (b (sp p)) → Ty (fk_ir E j (sp p + fk_hd (b (sp p)))) = if b (sp p) = 13 ∧ j = 0 then nI 1 else fk_wv (b (sp p)) (Ty (sp p))) ∧
  (∀ p, p < N → fk_oc ck (b (sp p)) (b (sp p + 1)) (C (x + 3) (sp p)) = C (x + 3) (sp p) ∧ ∀ j, j < fk_ar (b (sp p)) → C (x + 3) (fk_ir E j (sp p + fk_hd (b (sp p)))) = fk_cpt ck (b (sp p)) (b (sp p + 1)) j (C (x + 3) (sp p))) ∧
  (∀ p, p < N → b (sp p) = 14 → C (x + 4) (sp p) = kp (40 * f + sp p) ∧ (Ty (sp p) = nI 1 → C (x + 4) (sp p) = 0 ∨ C (x + 4) (sp p) = nI 1)) ∧ ∀ p, p < N → b (sp p) = 15 → (st (40 * f + sp p) = 0 ↔ C 83 (C (x + 3) (sp p)).toNatClampNeg = 0)
theorem z_Ts_at {b : Nat → Nat} {n cnt : Nat} {E : Nat → Int32} {q : Nat} (hn : n ≤ 40) : ∀ k x e, fk_Ts (fk_T b n cnt E q) k x e → ∀ j, j < k → ∃ y, fk_T b n cnt E q (fk_ir E j x) y := by
  intro k
  induction k with
  | zero => intro x e _ j hj; omega
  | succ k ih =>
    intro x e h j hj
    obtain ⟨y, h1, h2⟩ := h
    cases j with
    | zero => exact ⟨y, h1⟩
    | succ j =>
      have hE := (fk_T_e9 hn h1).2.1
      obtain ⟨z, hz⟩ := ih y e h2 j (by omega)
      exact ⟨z, by show fk_T b n cnt E q (fk_ir E j (E x).toNatClampNeg) z; rw [hE]; exact hz⟩
section
variable {C : fk_M} {x f : Nat} {b : Nat → Nat} {E : Nat → Int32} {sp sl : Nat → Nat} {n cnt N : Nat} {ck : Nat → Nat} {bl vl kp st Ty : Nat → Int32} {Pn : Nat → Prop}
/-- the stack before part p -/
def z_Sk (C : fk_M) (x : Nat) (b : Nat → Nat) (E : Nat → Int32) (sp sl : Nat → Nat) (Ty : Nat → Int32) (Pn : Nat → Prop) (p : Nat) (S : Nat → Int32) : Prop := ∀ k, k < sl p → Pn (fk_ir E k (sp p)) → fk_hi C (C (x + 3) (fk_ir E k (sp p))).toNatClampNeg = true → S (sl p - 1 - k) = fk_ev C x b 11 (fk_ir E k (sp p)) ∧ (Ty (fk_ir E k (sp p)) = nI 1 → S (sl p - 1 - k) = 0 ∨ S (sl p - 1 - k) = nI 1)
theorem z_sk (h : fk_NW b n cnt E sp sl N) (hE : C (x + 2) = E) (hH : z_Ev C x f b E sp N ck bl vl kp st Ty Pn) {p : Nat} (hpN : p < N) {S : Nat → Int32} (hS : z_Sk C x b E sp sl Ty Pn (p + 1) S) : z_Sk C x b E sp sl Ty Pn p (upd S (sl p - 1) (fk_rvl vl kp st (b (sp p)) (40 * f + sp p) (b (sp p + 1)) (fk_px S (sl (p + 1)) (fk_ar (b (sp p))) 0) (fk_px S (sl (p + 1)) (fk_ar (b (sp p))) 1) (fk_px S (sl (p + 1)) (fk_ar (b (sp p))) 2))) := by
  obtain ⟨e, hk9, a1, a2, a3, a4, a5, ⟨q9, a6⟩, a7⟩ := h.node hpN
  obtain ⟨s1, s2⟩ := h.2.2.2.2.2.2 p hpN
  have hn := h.1
  have hs := h.2.2.2.1 p hpN
  have hh := fk_hd_pos (b (sp p))
  obtain ⟨t1, t2⟩ := fk_Ts_ir hn _ _ _ a6
  obtain ⟨H1, H2, H3, H4, H5, H6⟩ := hH
  intro k hk hP hhi
  cases k with
  | zero =>
    have hP : Pn (sp p) := hP
    have hhi : fk_hi C (C (x + 3) (sp p)).toNatClampNeg = true := hhi
    show upd S (sl p - 1) _ (sl p - 1) = fk_ev C x b 11 (sp p) ∧ (Ty (sp p) = nI 1 → upd S (sl p - 1) _ (sl p - 1) = 0 ∨ upd S (sl p - 1) _ (sl p - 1) = nI 1)
    rw [pk_us]
    obtain ⟨q, e2, hq10, -, -, -, -, hts⟩ := fk_node (by omega) h.2.1 (i := sp p) hk9.1 a2
    have lev : ∀ j, j < fk_ar (b (sp p)) → fk_ev C x b 11 (fk_ir E j (sp p + fk_hd (b (sp p)))) = fk_ev C x b 10 (fk_ir E j (sp p + fk_hd (b (sp p)))) := fun j hj => by
      obtain ⟨y, hy⟩ := z_Ts_at hn _ _ _ hts j hj
      rw [← hE] at hy
      have l1 := fk_ev_to hn hy (show q ≤ 11 by omega)
      have l2 := fk_ev_to hn hy (show q ≤ 10 by omega)
      rw [← hE, l1.1, l2.1]
    have hz := z_kind (C := C) (vl := vl) (kp := kp) (st := st) (bl := bl) (ck := ck) (x := x) (i := sp p) (w := b (sp p + 1)) (k := b (sp p)) (a := 40 * f + sp p) (A0 := C (x + 3) (sp p)) (T0 := Ty (sp p)) (v := fun j => fk_ev C x b 10 (fk_ir E j (sp p + fk_hd (b (sp p))))) (u := fun j => S (sl (p + 1) - 1 - j)) (Ac := fun j => C (x + 3) (fk_ir E j (sp p + fk_hd (b (sp p))))) (Tc := fun j => Ty (fk_ir E j (sp p + fk_hd (b (sp p))))) hk9.2.1 (H1 p hpN hP) (H4 p hpN).1 (H4 p hpN).2 (H3 p hpN).1 (H3 p hpN).2 rfl (H5 p hpN) (H6 p hpN) (fun h14 j hj hj2 => by
      have g := hS j (by omega) (by rw [hs]; exact H2 p hpN hP h14 j hj) (by rw [hs]; exact hj2)
      rw [hs, lev j hj] at g
      exact g) hhi
    have ev : fk_ev C x b 11 (sp p) = fk_ek C x (b (sp p)) (b (sp p + 1)) (sp p) (fk_ev C x b 10 (fk_ir E 0 (sp p + fk_hd (b (sp p))))) (fk_ev C x b 10 (fk_ir E 1 (sp p + fk_hd (b (sp p))))) (fk_ev C x b 10 (fk_ir E 2 (sp p + fk_hd (b (sp p))))) := by
      rw [← hE]; rfl
    obtain ⟨z1, z2⟩ := hz
    rw [ev]
    refine ⟨z1, fun e => ?_⟩
    have z3 := z2 e
    rw [← z1] at z3
    exact z3
  | succ k =>
    have er : fk_ir E (k + 1) (sp p) = fk_ir E (fk_ar (b (sp p)) + k) (sp (p + 1)) := by
      rw [(a7 k (by omega)).1, fk_ir_add, hs, t1]
    rw [er] at hP hhi ⊢
    rw [pk_un (by omega), show sl p - 1 - (k + 1) = sl (p + 1) - 1 - (fk_ar (b (sp p)) + k) by omega]
    exact hS _ (by omega) hP hhi
theorem z_ra (h : fk_NW b n cnt E sp sl N) (hE : C (x + 2) = E) (hH : z_Ev C x f b E sp N ck bl vl kp st Ty Pn) : ∀ p S X, p ≤ N → z_Sk C x b E sp sl Ty Pn p S → z_Sk C x b E sp sl Ty Pn 0 (fk_ra b sp sl f vl kp st p S X).1 ∧ (∀ q, q < p → b (sp q) = 14 → Pn (sp (q + 1)) → fk_hi C (C (x + 3) (sp q)).toNatClampNeg = true → (fk_ra b sp sl f vl kp st p S X).2 (40 * f + sp q) = fk_ev C x b 11 (sp (q + 1)) ∧ (Ty (sp q) = nI 1 → (fk_ra b sp sl f vl kp st p S X).2 (40 * f + sp q) = 0 ∨ (fk_ra b sp sl f vl kp st p S X).2 (40 * f + sp q) = nI 1)) ∧ ∀ z, (∀ q, q < p → b (sp q) = 14 → z ≠ 40 * f + sp q) → (fk_ra b sp sl f vl kp st p S X).2 z = X z := by
  intro p
  induction p with
  | zero => intro S X _ hS; exact ⟨hS, fun q hq => by omega, fun _ _ => rfl⟩
  | succ p ih =>
    intro S X hp hS
    have hpN : p < N := by omega
    obtain ⟨g1, g2, g3⟩ := ih _ (if b (sp p) = 14 then upd X (40 * f + sp p) (fk_px S (sl (p + 1)) (fk_ar (b (sp p))) 0) else X) (by omega) (z_sk h hE hH hpN hS)
    obtain ⟨s1, s2⟩ := h.2.2.2.2.2.2 p hpN
    have hs := h.2.2.2.1 p hpN
    rw [fk_ra_S]
    refine ⟨g1, fun q hq hq14 hP hhi => ?_, fun z hz => ?_⟩
    · by_cases e : q = p
      · subst e
        rw [g3 _ (fun r hr _ => by have := h.mono r q hr (by omega); omega), if_pos hq14, pk_us]
        have har : fk_ar (b (sp q)) = 1 := by rw [hq14]; rfl
        have hc : C (x + 3) (sp (q + 1)) = C (x + 3) (sp q) := by
          have c1 := (hH.2.2.2.1 q hpN).2 0 (by omega)
          rw [hs]
          refine c1.trans ?_
          rw [hq14]; rfl
        have ht : Ty (sp (q + 1)) = Ty (sp q) := by
          have c1 := (hH.2.2.1 q hpN).2 0 (by omega)
          rw [hs]
          refine c1.trans ?_
          rw [hq14]; rfl
        have g := hS 0 (by omega) hP (by show fk_hi C (C (x + 3) (sp (q + 1))).toNatClampNeg = true; rw [hc]; exact hhi)
        have epx : fk_px S (sl (q + 1)) (fk_ar (b (sp q))) 0 = S (sl (q + 1) - 1 - 0) := if_pos (by omega)
        rw [epx]
        have g : S (sl (q + 1) - 1 - 0) = fk_ev C x b 11 (sp (q + 1)) ∧ (Ty (sp (q + 1)) = nI 1 → _) := g
        rw [ht] at g
        exact g
      · exact g2 q (by omega) hq14 hP hhi
    · rw [g3 z (fun q hq => hz q (by omega))]
      split
      · rename_i h14
        rw [pk_un (hz p (by omega) h14)]
      · rfl
/-- the value of the whole -/
theorem z_ra0 (h : fk_NW b n cnt E sp sl N) (hsl : sl N = 0) (hE : C (x + 2) = E) (hH : z_Ev C x f b E sp N ck bl vl kp st Ty Pn) (hP : Pn 0) (hhi : fk_hi C (C (x + 3) 0).toNatClampNeg = true) (S X : Nat → Int32) : (fk_ra b sp sl f vl kp st N S X).1 0 = fk_ev C x b 11 0 ∧ (Ty 0 = nI 1 → (fk_ra b sp sl f vl kp st N S X).1 0 = 0 ∨ (fk_ra b sp sl f vl kp st N S X).1 0 = nI 1) := by
  have g := (z_ra h hE hH N S X (Nat.le_refl _) (fun k hk => by omega)).1 0 (by rw [h.2.2.2.2.2.1]; decide)
  rw [h.2.2.2.2.2.1, h.2.2.1] at g
  exact g hP hhi
end
/-- the class's value hangs on these cells alone -/
theorem z_ev_cong {C D : fk_M} {x : Nat} {b : Nat → Nat} {n cnt : Nat} {E : Nat → Int32} (hn : n ≤ 40) (hC : C (x + 2) = E) (hD : D (x + 2) = E) (h3 : D (x + 3) = C (x + 3)) (h83 : D 83 = C 83) (h6 : ∀ w, w < cnt → D (3 + 6 * w) 6 = C (3 + 6 * w) 6) : ∀ r i e, fk_T b n cnt E r i e → (∀ j, i ≤ j → D (x + 4) j = C (x + 4) j) → fk_ev D x b r i = fk_ev C x b r i := by
  intro r
  induction r with
  | zero => intro i e h; exact h.elim
  | succ r ih =>
    intro i e h h4
    obtain ⟨hok, hEi, hz, hts⟩ := h
    obtain ⟨t1, t2⟩ := fk_Ts_ir hn _ _ _ hts
    have hh := fk_hd_pos (b i)
    have hc : ∀ j, j < fk_ar (b i) → fk_ev D x b r (fk_ir E j (i + fk_hd (b i))) = fk_ev C x b r (fk_ir E j (i + fk_hd (b i))) := fun j hj => by
      obtain ⟨y, hy⟩ := z_Ts_at hn _ _ _ hts j hj
      have := (t2 j hj).1
      exact ih _ y hy (fun z hz => h4 z (by omega))
    have eD : fk_ev D x b (r + 1) i = fk_ek D x (b i) (b (i + 1)) i (fk_ev D x b r (fk_ir E 0 (i + fk_hd (b i)))) (fk_ev D x b r (fk_ir E 1 (i + fk_hd (b i)))) (fk_ev D x b r (fk_ir E 2 (i + fk_hd (b i)))) := by rw [← hD]; rfl
    have eC : fk_ev C x b (r + 1) i = fk_ek C x (b i) (b (i + 1)) i (fk_ev C x b r (fk_ir E 0 (i + fk_hd (b i)))) (fk_ev C x b r (fk_ir E 1 (i + fk_hd (b i)))) (fk_ev C x b r (fk_ir E 2 (i + fk_hd (b i)))) := by rw [← hC]; rfl
    rw [eD, eC]
    have hk := hok.2.1
    have hw := hok.2.2.2
    have h4i := h4 i (Nat.le_refl _)
    have h0 := hc 0
    have h1 := hc 1
    have h2 := hc 2
    clear hc eD eC ih hts hEi hz t2 t1 hok
    generalize fk_ev D x b r (fk_ir E 0 (i + fk_hd (b i))) = d0 at *
    generalize fk_ev D x b r (fk_ir E 1 (i + fk_hd (b i))) = d1 at *
    generalize fk_ev D x b r (fk_ir E 2 (i + fk_hd (b i))) = d2 at *
    generalize fk_ev C x b r (fk_ir E 0 (i + fk_hd (b i))) = c0 at *
    generalize fk_ev C x b r (fk_ir E 1 (i + fk_hd (b i))) = c1 at *
    generalize fk_ev C x b r (fk_ir E 2 (i + fk_hd (b i))) = c2 at *
    generalize b (i + 1) = w at *
    clear hh
    generalize b i = k at *
    rcases (by omega : k = 0 ∨ k = 1 ∨ k = 2 ∨ k = 3 ∨ k = 4 ∨ k = 5 ∨ k = 6 ∨ k = 7 ∨ k = 8 ∨ k = 9 ∨ k = 10 ∨ k = 11 ∨ k = 12 ∨ k = 13 ∨ k = 14 ∨ k = 15 ∨ k = 16 ∨ k = 17 ∨ k = 18) with rfl | rfl | rfl | rfl | rfl | rfl | rfl | rfl | rfl | rfl | rfl | rfl | rfl | rfl | rfl | rfl | rfl | rfl | rfl
    · show nI w - nI 128 = nI w - nI 128
      rfl
    · show nI 1 = nI 1
      rfl
    · show nI 0 = nI 0
      rfl
    · exact h6 _ (hw (Or.inl rfl))
    · rw [h0 (by decide)]
      show nI 1 - c0 = nI 1 - c0
      rfl
    · rw [h0 (by decide)]
      show -c0 = -c0
      rfl
    · rw [h0 (by decide), h1 (by decide)]
      show c0 + c1 = c0 + c1
      rfl
    · rw [h0 (by decide), h1 (by decide)]
      show c0 - c1 = c0 - c1
      rfl
    · rw [h0 (by decide), h1 (by decide)]
      show c0 * c1 = c0 * c1
      rfl
    · rw [h0 (by decide), h1 (by decide)]
      show nI (decide (c0 < c1)).toNat = nI (decide (c0 < c1)).toNat
      rfl
    · rw [h0 (by decide), h1 (by decide)]
      show nI (decide (c0 = c1)).toNat = nI (decide (c0 = c1)).toNat
      rfl
    · rw [h0 (by decide), h1 (by decide)]
      show c0 &&& c1 = c0 &&& c1
      rfl
    · rw [h0 (by decide), h1 (by decide)]
      show c0 ||| c1 = c0 ||| c1
      rfl
    · rw [h0 (by decide), h1 (by decide), h2 (by decide)]
      show (if c0 = nI 1 then c1 else c2) = (if c0 = nI 1 then c1 else c2)
      rfl
    · exact h4i
    · rw [h0 (by decide), h1 (by decide)]
      show (if D 83 (D (x + 3) i).toNatClampNeg = 0 then c0 else c1) = (if C 83 (C (x + 3) i).toNatClampNeg = 0 then c0 else c1)
      rw [h3, h83]
    · rw [h0 (by decide)]
      show c0 = c0
      rfl
    · rw [h0 (by decide)]
      show c0 = c0
      rfl
    · rw [h0 (by decide), h1 (by decide)]
      show (if D (3 + 6 * w) 6 = nI 1 then c0 else c1) = (if C (3 + 6 * w) 6 = nI 1 then c0 else c1)
      rw [h6 _ (hw (Or.inr (by decide)))]
