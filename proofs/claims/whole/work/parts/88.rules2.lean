/-! Rules 3, 4, 5, flow by flow. -/
/-- what rule 3 leaves of an equation: the class's row A, the reference's X -/
def z_Ck (ck : Nat → Nat) (b : Nat → Nat) (E : Nat → Int32) (sp : Nat → Nat) (N f : Nat) (v : Int32) (A X : Nat → Int32) : Prop := A 0 = v ∧ ∀ p, p < N → (fk_oc ck (b (sp p)) (b (sp p + 1)) (A (sp p)) = A (sp p) ∧ ∀ j, j < fk_ar (b (sp p)) → A (fk_ir E j (sp p + fk_hd (b (sp p)))) = fk_cpt ck (b (sp p)) (b (sp p + 1)) j (A (sp p))) ∧ X (40 * f + sp p) = A (sp p)
section
variable {n : Nat} {ck P sz Np : Nat → Nat} {bb sp sl : Nat → Nat → Nat} {C0 R0 : fk_M}
/-- rule 3's fact of a flow -/
abbrev z_F3 (ck P Np : Nat → Nat) (bb sp : Nat → Nat → Nat) (C0 : fk_M) (f : Nat) (C R : fk_M) : Prop := C0 (3 + 6 * f) 2 = 0 → z_Ck ck (bb f) (C0 (P f + 2)) (sp f) (Np f) f (nI (ck f)) (C (P f + 3)) (R 102)
theorem z_w3102 {R : fk_M} (S : Nat → Int32) (t : Nat) (pl : Int32) (X : Nat → Int32) : fk_w3 102 R S t pl X 102 = X := by unfold fk_w3; rw [va_up_ne _ _ (by decide), va_up_self]
theorem z_st3 (hB : z_B n ck P sz Np bb sp sl C0 R0) (hD : ∀ f, f < n → C0 (3 + 6 * f) 2 = 0 → 0 < sz f) (f : Nat) (C R : fk_M) (hf : f < n) (h : z_I n ck P sz bb C0 R0 C R) : ∃ v, (fk_fo ck P sz bb C 3 f).1 = v ∧ fk_fm Np bb sp sl 3 f R 89 30 = v ∧ (v = -1 ∨ ∃ i, i < 2 ^ 31 ∧ v = nI i) ∧ z_I n ck P sz bb C0 R0 (fk_fo ck P sz bb C 3 f).2 (fk_fm Np bb sp sl 3 f R) ∧ (v = -1 → z_F3 ck P Np bb sp C0 f (fk_fo ck P sz bb C 3 f).2 (fk_fm Np bb sp sl 3 f R) ∧ ∀ g, g < n → g ≠ f → z_F3 ck P Np bb sp C0 g C R → z_F3 ck P Np bb sp C0 g (fk_fo ck P sz bb C 3 f).2 (fk_fm Np bb sp sl 3 f R)) := by
  obtain ⟨e1, e2, e3, e4, e5, e6, e7, e8⟩ := h.at hB hf
  have hn := h.1.2.1
  have g3 := h.fo hB (rule := 3) hf (fun _ => hD f hf)
  by_cases hin : C0 (3 + 6 * f) 2 = 0
  · obtain ⟨hN, hsl⟩ := hB.nw hf (hD f hf hin)
    have s0 := hN.2.2.1
    have l0 := hN.2.2.2.2.2.1
    have g1 : fk_fo ck P sz bb C 3 f = (fk_rv (fk_cf (bb f) (C (P f + 2)) ck (sz f) 0 (upd (C (P f + 3)) 0 (nI (ck f)))).1, va_up C (P f + 3) (fk_cf (bb f) (C (P f + 2)) ck (sz f) 0 (upd (C (P f + 3)) 0 (nI (ck f)))).2) := (if_neg (by decide)).trans (if_neg (fun q => q (by rw [e2 f (by omega)]; exact hin)))
    have g2 : fk_fm Np bb sp sl 3 f R = fk_w3 102 (fk_pm R (-1)) (fk_rck (bb f) (sp f) (sl f) (fk_pm R (-1) 92) f (Np f) 0 (upd (fk_pm R (-1) 109) 0 (fk_pm R (-1) 92 f)) (fk_pm R (-1) 89 30) (fk_pm R (-1) 102)).1 (sl f (Np f)) (fk_rck (bb f) (sp f) (sl f) (fk_pm R (-1) 92) f (Np f) 0 (upd (fk_pm R (-1) 109) 0 (fk_pm R (-1) 92 f)) (fk_pm R (-1) 89 30) (fk_pm R (-1) 102)).2.1 (fk_rck (bb f) (sp f) (sl f) (fk_pm R (-1) 92) f (Np f) 0 (upd (fk_pm R (-1) 109) 0 (fk_pm R (-1) 92 f)) (fk_pm R (-1) 89 30) (fk_pm R (-1) 102)).2.2 := z_fm_eq (by decide) (by rw [e5]; exact hin)
    rw [z_pmk (k := 92) _ (by decide), z_pmk (k := 109) _ (by decide), z_pmk (k := 102) _ (by decide), z_pm30, e7 f hf] at g2
    rw [e1] at g1
    have g1b : (fk_fo ck P sz bb C 3 f).2 = va_up C (P f + 3) (fk_cf (bb f) (C0 (P f + 2)) ck (sz f) 0 (upd (C (P f + 3)) 0 (nI (ck f)))).2 := by rw [g1]
    obtain ⟨hs1, hs2⟩ := fk_ck_sim (f := f) hN e7 (pl := -1) (by decide) (Np f) 0 (upd (R 109) 0 (nI (ck f))) (upd (C (P f + 3)) 0 (nI (ck f))) (R 102) (by omega) (fun k hk => by
      have : k = 0 := by omega
      subst this
      rw [l0, s0]
      show upd _ 0 _ 0 = upd _ 0 _ 0
      rw [pk_us, pk_us])
    have hst := (fk_rck_stay (cl := R 92) (f := f) hN (Np f) 0 (upd (R 109) 0 (nI (ck f))) (-1) (R 102) (by omega)).2
    have hgz := fk_cf_gn ck hN (Np f) 0 (upd (C (P f + 3)) 0 (nI (ck f))) (by omega)
    rw [s0, Nat.sub_zero] at hs1 hs2 hgz
    have hv : (match (fk_cf (bb f) (C0 (P f + 2)) ck (sz f) 0 (upd (C (P f + 3)) 0 (nI (ck f)))).1 with | none => (-1 : Int32) | some i => nI i) = fk_rv (fk_cf (bb f) (C0 (P f + 2)) ck (sz f) 0 (upd (C (P f + 3)) 0 (nI (ck f)))).1 := by
      cases (fk_cf (bb f) (C0 (P f + 2)) ck (sz f) 0 (upd (C (P f + 3)) 0 (nI (ck f)))).1 <;> rfl
    have hsome : ∀ i, (fk_cf (bb f) (C0 (P f + 2)) ck (sz f) 0 (upd (C (P f + 3)) 0 (nI (ck f)))).1 = some i → i < 2 ^ 31 := fun i hi => by rw [hgz] at hi; exact z_gz_some hN _ _ _ (by omega) i hi
    refine ⟨_, by rw [g1], ?_, z_rv _ hsome, g3, fun hq => ⟨fun _ => ?_, fun g hg hgf hFg hgi => ?_⟩⟩
    · rw [g2, z_w330]
      exact hs1.trans hv
    · have hno : (fk_cf (bb f) (C0 (P f + 2)) ck (sz f) 0 (upd (C (P f + 3)) 0 (nI (ck f)))).1 = none := by
        cases hc : (fk_cf (bb f) (C0 (P f + 2)) ck (sz f) 0 (upd (C (P f + 3)) 0 (nI (ck f)))).1 with
        | none => rfl
        | some i =>
          rw [hc] at hq
          exact absurd hq (fk_nm1 (hsome i hc))
      have hX := hs2 hno
      rw [g1b, g2, va_up_self, z_w3102]
      rw [hgz] at hno hX ⊢
      obtain ⟨f1, f2, f3⟩ := fk_gz_fin hN (Np f) 0 _ (by omega) hno
      refine ⟨?_, fun p hp => ⟨?_, hX p (by omega) hp⟩⟩
      · have := f2 0 (by omega)
        rw [s0] at this
        exact this.trans pk_us
      · obtain ⟨t1, t2⟩ := f3 p (by omega) hp
        exact ⟨of_decide_eq_true t1, t2⟩
    · have hc := hFg hgi
      obtain ⟨hNg, -⟩ := hB.nw hg (hD g hg hgi)
      have hP : P g + 3 ≠ P f + 3 := fun q => hgf (hB.2.2.2.1 g f (by omega) (by omega) (by omega))
      rw [g1b, g2, va_up_ne _ _ hP, z_w3102]
      refine ⟨hc.1, fun p hp => ⟨(hc.2 p hp).1, ?_⟩⟩
      rw [hst _ (fun q _ hq => ?_)]
      · exact (hc.2 p hp).2
      · obtain ⟨-, k1, -⟩ := hNg.node hp
        obtain ⟨-, k2, -⟩ := hN.node hq
        have := k1.1
        have := k2.1
        have := hNg.1
        have := hN.1
        omega
  · obtain ⟨g1, g2⟩ := z_st_in hB h (rule := 3) hf (by decide) hin
    refine ⟨-1, by rw [g1], by rw [g2, z_pm30], Or.inl rfl, g3, fun _ => ⟨fun q => absurd q hin, fun g hg hgf hFg => ?_⟩⟩
    rw [g1, g2]
    show z_F3 ck P Np bb sp C0 g C (fk_pm R (-1))
    unfold z_F3
    rw [z_pmk _ (by decide)]
    exact hFg
/-- what holds from rule 4 on -/
abbrev z_I3 (n : Nat) (ck P sz Np : Nat → Nat) (bb sp : Nat → Nat → Nat) (C0 R0 : fk_M) (C R : fk_M) : Prop := z_I n ck P sz bb C0 R0 C R ∧ ∀ f, f < n → z_F3 ck P Np bb sp C0 f C R
theorem z_st4 (hB : z_B n ck P sz Np bb sp sl C0 R0) (hD : ∀ f, f < n → C0 (3 + 6 * f) 2 = 0 → 0 < sz f) (f : Nat) (C R : fk_M) (hf : f < n) (h3 : z_I3 n ck P sz Np bb sp C0 R0 C R) : ∃ v, (fk_fo ck P sz bb C 4 f).1 = v ∧ fk_fm Np bb sp sl 4 f R 89 30 = v ∧ (v = -1 ∨ ∃ i, i < 2 ^ 31 ∧ v = nI i) ∧ z_I3 n ck P sz Np bb sp C0 R0 (fk_fo ck P sz bb C 4 f).2 (fk_fm Np bb sp sl 4 f R) ∧ (v = -1 → True ∧ ∀ g, g < n → g ≠ f → True → True) := by
  obtain ⟨h, hF⟩ := h3
  obtain ⟨e1, e2, e3, e4, e5, e6, e7, e8⟩ := h.at hB hf
  have hn := h.1.2.1
  have g3 := h.fo hB (rule := 4) hf (fun _ => hD f hf)
  by_cases hin : C0 (3 + 6 * f) 2 = 0
  · obtain ⟨hN, hsl⟩ := hB.nw hf (hD f hf hin)
    have s0 := hN.2.2.1
    have l0 := hN.2.2.2.2.2.1
    have sN := hN.2.2.2.2.1
    have g1 : fk_fo ck P sz bb C 4 f = (if (fk_bg (bb f) (C (P f + 2)) (sz f) none (C 81)).2 0 = 0 then fk_rv (fk_bg (bb f) (C (P f + 2)) (sz f) none (C 81)).1 else nI 0, va_up C 81 (fk_bg (bb f) (C (P f + 2)) (sz f) none (C 81)).2) := (if_neg (by decide)).trans (if_neg (fun q => q (by rw [e2 f (by omega)]; exact hin)))
    have g2 : fk_fm Np bb sp sl 4 f R = fk_w3 102 (fk_pm R (-1)) (fk_rbg (bb f) (sp f) (sl f) (Np f) (fk_pm R (-1) 109) (fk_pm R (-1) 89 30)).1 0 (if (fk_rbg (bb f) (sp f) (sl f) (Np f) (fk_pm R (-1) 109) (fk_pm R (-1) 89 30)).1 0 = nI 1 then fk_nt (fk_rbg (bb f) (sp f) (sl f) (Np f) (fk_pm R (-1) 109) (fk_pm R (-1) 89 30)).2 0 else (fk_rbg (bb f) (sp f) (sl f) (Np f) (fk_pm R (-1) 109) (fk_pm R (-1) 89 30)).2) (fk_pm R (-1) 102) := z_fm_eq (by decide) (by rw [e5]; exact hin)
    rw [z_pmk (k := 109) _ (by decide), z_pmk (k := 102) _ (by decide), z_pm30] at g2
    rw [e1] at g1
    have g1b : (fk_fo ck P sz bb C 4 f).2 = va_up C 81 (fk_bg (bb f) (C0 (P f + 2)) (sz f) none (C 81)).2 := by rw [g1]
    obtain ⟨b1, b2, b3, b4⟩ := z_bg_sim hN (Np f) (R 109) (C 81) none (Nat.le_refl _) (fun k hk => by omega) (fun k hk => by omega) (fun j hj => by cases hj)
    rw [sN] at b1 b2 b3 b4
    have b1 : (fk_rbg (bb f) (sp f) (sl f) (Np f) (R 109) (-1)).2 = _ := b1
    have b2 : (fk_rbg (bb f) (sp f) (sl f) (Np f) (R 109) (-1)).1 0 = _ := b2
    have hx3 : ∀ g, g < 12 → 4 ≤ P g + 3 ∧ (P g + 3 < 75 ∨ (84 ≤ P g + 3 ∧ P g + 3 < 89)) := fun g hg => fk_X83 (h.1.2.2 g hg).1 (by decide)
    refine ⟨_, by rw [g1], ?_, ?_, ⟨g3, fun g hg hgi => ?_⟩, fun _ => ⟨trivial, fun _ _ _ q => q⟩⟩
    · rw [g2, z_w330, b1, b2]
      rcases b3 with b3 | b3
      · rw [b3, if_neg (show ¬ (0 : Int32) = nI 1 by decide)]
        have e0 : ∀ a : Int32, (if (0 : Int32) = 0 then a else nI 0) = a := fun a => if_pos rfl
        exact (e0 _).symm
      · rw [b3, if_pos rfl]
        show fk_nt (fk_rv (fk_bg (bb f) (C0 (P f + 2)) (sz f) none (C 81)).1) 0 = nI 0
        cases hc : (fk_bg (bb f) (C0 (P f + 2)) (sz f) none (C 81)).1 with
        | none => exact fk_nt_first (by decide) (by decide)
        | some j =>
          have hj := b4 j hc
          show fk_nt (nI j) 0 = nI 0
          unfold fk_nt
          by_cases hj0 : j = 0
          · subst hj0
            exact ite_self _
          · refine if_pos (Or.inr (fun q => ?_))
            have q := (nI_leI (by omega) (by decide)).mp q
            omega
    · split
      · exact z_rv _ (fun i hi => by have := b4 i hi; omega)
      · exact Or.inr ⟨0, by decide, rfl⟩
    · have := hx3 g (by omega)
      rw [g1b, g2, va_up_ne _ _ (by omega), z_w3102]
      exact hF g hg hgi
  · obtain ⟨g1, g2⟩ := z_st_in hB h (rule := 4) hf (by decide) hin
    refine ⟨-1, by rw [g1], by rw [g2, z_pm30], Or.inl rfl, ⟨g3, fun g hg => ?_⟩, fun _ => ⟨trivial, fun _ _ _ q => q⟩⟩
    rw [g1, g2]
    unfold z_F3
    rw [z_pmk _ (by decide)]
    exact hF g hg
/-- rule 5, the masks alike -/
theorem z_st5 (hB : z_B n ck P sz Np bb sp sl C0 R0) (hA : ∀ a, a < n → C0 76 a = R0 97 a) (f : Nat) (C R : fk_M) (hf : f < n) (h3 : z_I3 n ck P sz Np bb sp C0 R0 C R) : ∃ v, (fk_fo ck P sz bb C 5 f).1 = v ∧ fk_fm Np bb sp sl 5 f R 89 30 = v ∧ (v = -1 ∨ ∃ i, i < 2 ^ 31 ∧ v = nI i) ∧ z_I3 n ck P sz Np bb sp C0 R0 (fk_fo ck P sz bb C 5 f).2 (fk_fm Np bb sp sl 5 f R) ∧ (v = -1 → fk_wf (R0 97 f) f = false ∧ ∀ g, g < n → g ≠ f → fk_wf (R0 97 g) g = false → fk_wf (R0 97 g) g = false) := by
  obtain ⟨h, hF⟩ := h3
  obtain ⟨e1, e2, e3, e4, e5, e6, e7, e8⟩ := h.at hB hf
  have g1 : fk_fo ck P sz bb C 5 f = (if fk_wf (C 76 f) f = true then nI 0 else -1, C) := if_pos rfl
  rw [e8, hA f hf] at g1
  have e97 : R 97 = R0 97 := h.2.2.1 97 (by decide) (by decide) (by decide)
  have g2 : fk_fm Np bb sp sl 5 f R = if fk_wf (R0 97 f) f = true then fk_pm (fk_pm R (-1)) (nI 0) else fk_pm R (-1) := by
    have ha : fk_fam 5 f R = if fk_wf (R0 97 f) f = true then fk_pm (fk_pm R (-1)) (nI 0) else fk_pm R (-1) := by
      unfold fk_fam
      rw [e97]
      by_cases hw : fk_wf (R0 97 f) f = true
      · rw [if_pos hw, if_pos ⟨rfl, hw⟩]
      · rw [if_neg hw, if_neg (fun q => hw q.2)]
    unfold fk_fm
    rw [ha]
    exact ite_self _
  have hI2 : z_FR R0 (fk_fm Np bb sp sl 5 f R) := h.2.2.fm _ _ _ _ _ _
  have h102 : fk_fm Np bb sp sl 5 f R 102 = R 102 := by
    rw [g2]
    split
    · rw [z_pmk _ (by decide), z_pmk _ (by decide)]
    · rw [z_pmk _ (by decide)]
  refine ⟨_, by rw [g1], ?_, ?_, ⟨⟨by rw [g1]; exact h.1, by rw [g1]; exact h.2.1, hI2⟩, fun g hg => ?_⟩, fun hq => ⟨?_, fun g _ _ q => q⟩⟩
  · rw [g2]
    by_cases hw : fk_wf (R0 97 f) f = true
    · rw [if_pos hw, if_pos hw, z_pm30]
    · rw [if_neg hw, if_neg hw, z_pm30]
  · split
    · exact Or.inr ⟨0, by decide, rfl⟩
    · exact Or.inl rfl
  · unfold z_F3
    rw [g1, h102]
    exact hF g hg
  · cases hw : fk_wf (R0 97 f) f
    · rfl
    · rw [hw, if_pos rfl] at hq
      exact absurd hq (fk_nm1 (by decide))
end
