/-! The rules, class against reference, flow by flow. -/
def z_B (n : Nat) (ck P sz Np : Nat → Nat) (bb sp sl : Nat → Nat → Nat) (C0 R0 : fk_M) : Prop :=
  fk_Sh n ck P sz bb C0 ∧ fk_RS R0 n ck sz Np bb sp sl ∧ (∀ f, f < n → 0 < sz f → sp f 0 = 0 ∧ (∀ p, p < Np f → sp f (p + 1) = sp f p + fk_hd (bb f (sp f p))) ∧ sp f (Np f) = sz f) ∧ (∀ i j, i < 12 → j < 12 → P i = P j → i = j) ∧ (∀ f, f < 12 → C0 (3 + 6 * f) 1 = R0 90 f ∧ C0 (3 + 6 * f) 2 = R0 91 f ∧ R0 98 f = nI (sz f)) ∧ R0 90 = C0 90
def z_FC (P : Nat → Nat) (C0 C : fk_M) : Prop := ∀ k, k ≠ 80 → k ≠ 81 → (∀ j, j < 12 → k ≠ P j + 3) → C k = C0 k
def z_FR (R0 R : fk_M) : Prop := (∀ k, k ≠ 89 → k ≠ 102 → k ≠ 109 → R k = R0 k) ∧ ∀ t, t ≠ 29 → t ≠ 30 → R 89 t = R0 89 t
def z_I (n : Nat) (ck P sz : Nat → Nat) (bb : Nat → Nat → Nat) (C0 R0 C R : fk_M) : Prop := fk_Sh n ck P sz bb C ∧ z_FC P C0 C ∧ z_FR R0 R
theorem z_FR.pm {R0 R : fk_M} (h : z_FR R0 R) (v : Int32) : z_FR R0 (fk_pm R v) := ⟨fun k a b c => by unfold fk_pm; rw [va_up_ne _ _ a]; exact h.1 k a b c, fun t a b => by unfold fk_pm; rw [va_up_self, pk_un b]; exact h.2 t a b⟩
theorem z_FR.w3 {R0 R : fk_M} (h : z_FR R0 R) (S : Nat → Int32) (t : Nat) (pl : Int32) (X : Nat → Int32) : z_FR R0 (fk_w3 102 R S t pl X) := ⟨fun k a b c => by unfold fk_w3; rw [va_up_ne _ _ a, va_up_ne _ _ b, va_up_ne _ _ c]; exact h.1 k a b c, fun t a b => by unfold fk_w3; rw [va_up_self, pk_un b, pk_un a]; exact h.2 t a b⟩
theorem z_FR.fm {R0 R : fk_M} (h : z_FR R0 R) (Np : Nat → Nat) (bb sp sl : Nat → Nat → Nat) (rule f : Nat) : z_FR R0 (fk_fm Np bb sp sl rule f R) := by
  have ha : z_FR R0 (fk_fam rule f R) := by
    unfold fk_fam
    split
    · exact (h.pm _).pm _
    · exact h.pm _
  unfold fk_fm
  split
  · unfold fk_fbm
    split
    · split
      · exact ha.pm _
      · exact ha
    · exact ha.w3 _ _ _ _
    · exact ha.w3 _ _ _ _
    · exact ha.w3 _ _ _ _
    · exact ha
  · exact ha
theorem z_FR.Rq {R0 R : fk_M} (h : z_FR R0 R) : fk_Rq R0 R := ⟨h.2 1 (by decide) (by decide), h.1 90 (by decide) (by decide) (by decide), h.1 91 (by decide) (by decide) (by decide), h.1 92 (by decide) (by decide) (by decide), h.1 98 (by decide) (by decide) (by decide), h.1 99 (by decide) (by decide) (by decide), h.1 100 (by decide) (by decide) (by decide), h.1 101 (by decide) (by decide) (by decide)⟩
section
variable {n : Nat} {ck P sz Np : Nat → Nat} {bb sp sl : Nat → Nat → Nat} {C0 R0 C R : fk_M}
/-- a rule over the flows, side by side -/
theorem z_loop {rule : Nat} {Inv : fk_M → fk_M → Prop} {Φ : Nat → fk_M → fk_M → Prop} (hn : n ≤ 12) (hstep : ∀ j C R, j < n → Inv C R → ∃ v, (fk_fo ck P sz bb C rule j).1 = v ∧ fk_fm Np bb sp sl rule j R 89 30 = v ∧ (v = -1 ∨ ∃ i, i < 2 ^ 31 ∧ v = nI i) ∧ Inv (fk_fo ck P sz bb C rule j).2 (fk_fm Np bb sp sl rule j R) ∧ (v = -1 → Φ j (fk_fo ck P sz bb C rule j).2 (fk_fm Np bb sp sl rule j R) ∧ ∀ f, f < n → f ≠ j → Φ f C R → Φ f (fk_fo ck P sz bb C rule j).2 (fk_fm Np bb sp sl rule j R))) :
    ∀ d j C R, j + d = n → Inv C R → (∀ f, f < j → Φ f C R) → (∃ C' R', fk_hf ck P sz bb rule d j C = (true, C') ∧ fk_kfl Np bb sp sl rule d j R = (none, R') ∧ Inv C' R' ∧ ∀ f, f < n → Φ f C' R') ∨ ∃ f i C' R', f < n ∧ fk_hf ck P sz bb rule d j C = (false, va_up C' 79 (upd (upd (C' 79) 5 (nI f)) 6 (nI i))) ∧ fk_kfl Np bb sp sl rule d j R = (some f, R') ∧ R' 89 30 = nI i ∧ Inv C' R' := by
  intro d
  induction d with
  | zero =>
    intro j C R hj hI hf
    have : j = n := by omega
    subst this
    exact Or.inl ⟨C, R, rfl, rfl, hI, hf⟩
  | succ d ih =>
    intro j C R hj hI hf
    obtain ⟨v, v1, v2, v3, v4, v5⟩ := hstep j C R (by omega) hI
    rw [fk_hf_S, fk_kfl_S, v1, v2]
    rcases v3 with v3 | ⟨i, hi, v3⟩
    · obtain ⟨w1, w2⟩ := v5 v3
      subst v3
      rw [if_pos rfl, if_neg (by decide)]
      refine ih (j + 1) _ _ (by omega) v4 (fun f hf2 => ?_)
      by_cases e : f = j
      · subst e; exact w1
      · exact w2 f (by omega) e (hf f (by omega))
    · subst v3
      rw [if_neg (fk_nm1 hi), if_pos (nI_pos (by omega))]
      exact Or.inr ⟨j, i, _, _, by omega, rfl, rfl, v2, v4⟩
theorem z_nI0 {k : Nat} (hk : k < 2 ^ 31) : nI k = 0 ↔ k = 0 := by
  constructor
  · intro e
    rw [← nI_0] at e
    have := congrArg Int32.toNatClampNeg e
    rw [nI_clamp hk, nI_clamp (by decide)] at this
    exact this
  · intro e; subst e; exact nI_0
theorem z_B.nw (h : z_B n ck P sz Np bb sp sl C0 R0) {f : Nat} (hf : f < n) (h0 : 0 < sz f) : fk_NW (bb f) (sz f) n (C0 (P f + 2)) (sp f) (sl f) (Np f) ∧ sl f (Np f) = 0 := by
  obtain ⟨hs, hr, hp, -, h5, -⟩ := h
  obtain ⟨p1, p2, p3⟩ := hp f hf h0
  have hn := hs.2.1
  obtain ⟨a1, a2, a3, a4, a5, a6, a7, a8, a9, -⟩ := hs.2.2 f (by omega)
  obtain ⟨b1, b2, c1, c2, c3, c4, c5, c6, c7, c8⟩ := hr.2.2 f hf
  refine ⟨⟨a6, a9 h0, p1, p2, p3, c3, fun p hp => ⟨(c4 p hp).2.1, (c4 p hp).2.2.2⟩⟩, c8 ?_⟩
  rw [(h5 f (by omega)).2.2]
  rw [z_nI0 (by omega)]
  omega
theorem z_I.fo (hB : z_B n ck P sz Np bb sp sl C0 R0) (h : z_I n ck P sz bb C0 R0 C R) {rule j : Nat} (hj : j < n) (hp : 2 ≤ rule → C0 (3 + 6 * j) 2 = 0 → 0 < sz j) : z_I n ck P sz bb C0 R0 (fk_fo ck P sz bb C rule j).2 (fk_fm Np bb sp sl rule j R) := by
  obtain ⟨h1, h2, h3⟩ := h
  have hn := h1.2.1
  have ef : ∀ f, f < 12 → C (3 + 6 * f) = C0 (3 + 6 * f) := fun f hf => h2 _ (by omega) (by omega) (fun i hi e => (fk_X4 (h1.2.2 i hi).1 hf).2.1 e.symm)
  refine ⟨fk_fo_Sh h1 (by omega) (fun q1 q2 => hp q1 (by rw [← ef j (by omega)]; exact q2)), fun k k1 k2 k3 => ?_, h3.fm _ _ _ _ _ _⟩
  rw [fk_fo_ne h1 (by omega) ⟨k1, k2, k3 j (by omega)⟩]
  exact h2 k k1 k2 k3
/-- an equation's cells, the same as at the beginning -/
theorem z_I.at (hB : z_B n ck P sz Np bb sp sl C0 R0) (h : z_I n ck P sz bb C0 R0 C R) {f : Nat} (hf : f < n) : C (P f + 2) = C0 (P f + 2) ∧ (∀ w, w < 12 → C (3 + 6 * w) = C0 (3 + 6 * w)) ∧ C 90 = C0 90 ∧ R 90 = C0 90 ∧ R 91 f = C0 (3 + 6 * f) 2 ∧ R 98 f = nI (sz f) ∧ (∀ w, w < n → R 92 w = nI (ck w)) ∧ C 76 = C0 76 := by
  obtain ⟨h1, h2, h3⟩ := h
  have hn := h1.2.1
  have hX := fun j hj => (h1.2.2 j hj).1
  have xf := fk_X83 (hX f (by omega)) (i := 2) (by decide)
  have x3 : ∀ j, j < 12 → 4 ≤ P j + 3 ∧ (P j + 3 < 75 ∨ (84 ≤ P j + 3 ∧ P j + 3 < 89)) := fun j hj => fk_X83 (hX j hj) (by decide)
  refine ⟨h2 _ (by omega) (by omega) (fun j hj e => ?_), fun w hw => h2 _ (by omega) (by omega) (fun i hi e => (fk_X4 (hX i hi) hw).2.1 e.symm), h2 90 (by decide) (by decide) (fun j hj => by have := x3 j hj; omega), ?_, ?_, ?_, fun w hw => ?_, h2 76 (by decide) (by decide) (fun j hj => by have := x3 j hj; omega)⟩
  · have := fk_XX (hX f (by omega)) (hX j hj) (by decide) (by decide) e
    omega
  · rw [h3.1 90 (by decide) (by decide) (by decide)]; exact hB.2.2.2.2.2
  · rw [h3.1 91 (by decide) (by decide) (by decide)]; exact (hB.2.2.2.2.1 f (by omega)).2.1.symm
  · rw [h3.1 98 (by decide) (by decide) (by decide)]; exact (hB.2.2.2.2.1 f (by omega)).2.2
  · rw [h3.1 92 (by decide) (by decide) (by decide)]; exact (hB.2.1.2.2 w hw).2.1
theorem z_fo_in {rule f : Nat} (h5 : rule ≠ 5) (hin : ¬ C (3 + 6 * f) 2 = 0) : fk_fo ck P sz bb C rule f = (-1, C) := (if_neg h5).trans (if_pos hin)
theorem z_fm_in {rule f : Nat} (h5 : rule ≠ 5) (hin : ¬ R 91 f = 0) : fk_fm Np bb sp sl rule f R = fk_pm R (-1) := (if_neg hin).trans (if_neg (fun q => h5 q.1))
theorem z_pm30 (v : Int32) : fk_pm R v 89 30 = v := by unfold fk_pm; rw [va_up_self, pk_us]
theorem z_pmk (v : Int32) {k : Nat} (h : k ≠ 89) : fk_pm R v k = R k := va_up_ne _ _ h
theorem z_w330 (S : Nat → Int32) (t : Nat) (pl : Int32) (X : Nat → Int32) : fk_w3 102 R S t pl X 89 30 = pl := by unfold fk_w3; rw [va_up_self, pk_us]
theorem z_fm_eq {rule f : Nat} (h5 : rule ≠ 5) (hin : R 91 f = 0) : fk_fm Np bb sp sl rule f R = fk_fbm Np bb sp sl rule f (fk_pm R (-1)) := by
  unfold fk_fm
  rw [if_pos hin, show fk_fam rule f R = fk_pm R (-1) from if_neg (fun q => h5 q.1)]
/-- an input passes every rule but the fifth -/
theorem z_st_in (hB : z_B n ck P sz Np bb sp sl C0 R0) (h : z_I n ck P sz bb C0 R0 C R) {rule f : Nat} (hf : f < n) (h5 : rule ≠ 5) (hin : ¬ C0 (3 + 6 * f) 2 = 0) : (fk_fo ck P sz bb C rule f) = (-1, C) ∧ fk_fm Np bb sp sl rule f R = fk_pm R (-1) := by
  obtain ⟨e1, e2, e3, e4, e5, e6, e7, e8⟩ := h.at hB hf
  have hn := h.1.2.1
  exact ⟨z_fo_in h5 (by rw [e2 f (by omega)]; exact hin), z_fm_in h5 (by rw [e5]; exact hin)⟩
/-- rule 1 -/
theorem z_st1 (hB : z_B n ck P sz Np bb sp sl C0 R0) (f : Nat) (C R : fk_M) (hf : f < n) (h : z_I n ck P sz bb C0 R0 C R) : ∃ v, (fk_fo ck P sz bb C 1 f).1 = v ∧ fk_fm Np bb sp sl 1 f R 89 30 = v ∧ (v = -1 ∨ ∃ i, i < 2 ^ 31 ∧ v = nI i) ∧ z_I n ck P sz bb C0 R0 (fk_fo ck P sz bb C 1 f).2 (fk_fm Np bb sp sl 1 f R) ∧ (v = -1 → (C0 (3 + 6 * f) 2 = 0 → 0 < sz f) ∧ ∀ g, g < n → g ≠ f → (C0 (3 + 6 * g) 2 = 0 → 0 < sz g) → C0 (3 + 6 * g) 2 = 0 → 0 < sz g) := by
  obtain ⟨e1, e2, e3, e4, e5, e6, e7, e8⟩ := h.at hB hf
  have hn := h.1.2.1
  have h40 := (h.1.2.2 f (by omega)).2.2.2.2.2.1
  by_cases hin : C0 (3 + 6 * f) 2 = 0
  · have g1 : fk_fo ck P sz bb C 1 f = (if 0 < sz f then -1 else nI 0, C) := (if_neg (by decide)).trans (if_neg (fun q => q (by rw [e2 f (by omega)]; exact hin)))
    have g2 : fk_fm Np bb sp sl 1 f R = if fk_pm R (-1) 98 f = 0 then fk_pm (fk_pm R (-1)) (nI 0) else fk_pm R (-1) := z_fm_eq (by decide) (by rw [e5]; exact hin)
    rw [z_pmk _ (by decide), e6] at g2
    have g3 := h.fo hB (rule := 1) hf (fun q => absurd q (by decide))
    by_cases h0 : 0 < sz f
    · refine ⟨-1, by rw [g1, if_pos h0], by rw [g2, if_neg (by rw [z_nI0 (by omega)]; omega), z_pm30], Or.inl rfl, g3, fun _ => ⟨fun _ => h0, fun g _ _ q => q⟩⟩
    · refine ⟨nI 0, by rw [g1, if_neg h0], by rw [g2, if_pos (by rw [z_nI0 (by omega)]; omega), z_pm30], Or.inr ⟨0, by decide, rfl⟩, g3, fun q => absurd q (fk_nm1 (by decide))⟩
  · obtain ⟨g1, g2⟩ := z_st_in hB h (rule := 1) hf (by decide) hin
    exact ⟨-1, by rw [g1], by rw [g2, z_pm30], Or.inl rfl, h.fo hB (rule := 1) hf (fun q => absurd q (by decide)), fun _ => ⟨fun q => absurd q hin, fun g _ _ q => q⟩⟩
/-- what rule 2 leaves of an equation -/
def z_Ty (bl : Nat → Int32) (b : Nat → Nat) (E : Nat → Int32) (sp : Nat → Nat) (N : Nat) (v : Int32) : Prop := ∃ Ty : Nat → Int32, Ty 0 = v ∧ ∀ p, p < N → (fk_ris bl (b (sp p)) (b (sp p + 1)) (Ty (sp p)) = Ty (sp p) ∧ (15 < b (sp p) → ¬ bl (b (sp p + 1)) = 0)) ∧ ∀ j, j < fk_ar (b (sp p)) → Ty (fk_ir E j (sp p + fk_hd (b (sp p)))) = if b (sp p) = 13 ∧ j = 0 then nI 1 else fk_wv (b (sp p)) (Ty (sp p))
theorem z_rv (o : Option Nat) (h : ∀ i, o = some i → i < 2 ^ 31) : fk_rv o = -1 ∨ ∃ i, i < 2 ^ 31 ∧ fk_rv o = nI i := by
  cases o with
  | none => exact Or.inl rfl
  | some i => exact Or.inr ⟨i, h i rfl, rfl⟩
theorem z_gz_some {b : Nat → Nat} {E : Nat → Int32} {m c N : Nat} {sp sl : Nat → Nat} {ok : Nat → Int32 → Bool} {w : Nat → Nat → Int32 → Int32} (h : fk_NW b m c E sp sl N) : ∀ d p A, p + d = N → ∀ i, (fk_gz b E sp ok w d p A).1 = some i → i < 2 ^ 31 := by
  intro d
  induction d with
  | zero => intro p A _ i hi; cases hi
  | succ d ih =>
    intro p A hp i hi
    by_cases hok : ok (sp p) (A (sp p)) = true
    · rw [fk_gz_t hok] at hi
      exact ih (p + 1) _ (by omega) i hi
    · rw [fk_gz_f hok] at hi
      cases hi
      obtain ⟨e, hk9, -⟩ := h.node (p := p) (by omega)
      have := hk9.1
      have := h.1
      omega
/-- rule 2 -/
theorem z_st2 (hB : z_B n ck P sz Np bb sp sl C0 R0) (hD : ∀ f, f < n → C0 (3 + 6 * f) 2 = 0 → 0 < sz f) (f : Nat) (C R : fk_M) (hf : f < n) (h : z_I n ck P sz bb C0 R0 C R) : ∃ v, (fk_fo ck P sz bb C 2 f).1 = v ∧ fk_fm Np bb sp sl 2 f R 89 30 = v ∧ (v = -1 ∨ ∃ i, i < 2 ^ 31 ∧ v = nI i) ∧ z_I n ck P sz bb C0 R0 (fk_fo ck P sz bb C 2 f).2 (fk_fm Np bb sp sl 2 f R) ∧ (v = -1 → (C0 (3 + 6 * f) 2 = 0 → z_Ty (C0 90) (bb f) (C0 (P f + 2)) (sp f) (Np f) (nI (fk_ty1 C0 f))) ∧ ∀ g, g < n → g ≠ f → (C0 (3 + 6 * g) 2 = 0 → z_Ty (C0 90) (bb g) (C0 (P g + 2)) (sp g) (Np g) (nI (fk_ty1 C0 g))) → C0 (3 + 6 * g) 2 = 0 → z_Ty (C0 90) (bb g) (C0 (P g + 2)) (sp g) (Np g) (nI (fk_ty1 C0 g))) := by
  obtain ⟨e1, e2, e3, e4, e5, e6, e7, e8⟩ := h.at hB hf
  have hn := h.1.2.1
  have g3 := h.fo hB (rule := 2) hf (fun _ => hD f hf)
  by_cases hin : C0 (3 + 6 * f) 2 = 0
  · obtain ⟨hN, hsl⟩ := hB.nw hf (hD f hf hin)
    have s0 := hN.2.2.1
    have l0 := hN.2.2.2.2.2.1
    have et : fk_ty1 C f = fk_ty1 C0 f := by unfold fk_ty1; rw [e2 f (by omega)]
    have hbl : ∀ w, w < n → C (3 + 6 * w) 1 = C 90 w := fun w hw => by rw [e2 w (by omega), (hB.2.2.2.2.1 w (by omega)).1, hB.2.2.2.2.2, e3]
    have g1 : fk_fo ck P sz bb C 2 f = (fk_rv (fk_tf C (bb f) (C (P f + 2)) (sz f) 0 (upd (C 80) 0 (nI (fk_ty1 C f)))).1, va_up C 80 (fk_tf C (bb f) (C (P f + 2)) (sz f) 0 (upd (C 80) 0 (nI (fk_ty1 C f)))).2) := (if_neg (by decide)).trans (if_neg (fun q => q (by rw [e2 f (by omega)]; exact hin)))
    have g2 : fk_fm Np bb sp sl 2 f R 89 30 = (fk_rty (bb f) (sp f) (sl f) (fk_pm R (-1) 90) (Np f) 0 (upd (fk_pm R (-1) 109) 0 (nI (decide (¬ fk_pm R (-1) 90 f = 0)).toNat)) (fk_pm R (-1) 89 30)).2 := by
      rw [z_fm_eq (by decide) (by rw [e5]; exact hin)]
      exact z_w330 _ _ _ _
    rw [z_pmk _ (by decide), z_pmk _ (by decide), z_pm30, e4, ← e3] at g2
    have hty : nI (decide (¬ C 90 f = 0)).toNat = nI (fk_ty1 C f) := by unfold fk_ty1; rw [hbl f hf]
    rw [hty] at g2
    rw [e1] at g1
    have hsim := fk_ty_sim (M := C) hN hbl (pl := -1) (by decide) (Np f) 0 (upd (R 109) 0 (nI (fk_ty1 C f))) (upd (C 80) 0 (nI (fk_ty1 C f))) (by omega) (fun k hk => by
      have : k = 0 := by omega
      subst this
      rw [l0, s0]
      show upd _ 0 _ 0 = upd _ 0 _ 0
      rw [pk_us, pk_us])
    have hgz := fk_tf_gn C hN (Np f) 0 (upd (C 80) 0 (nI (fk_ty1 C f))) (by omega)
    rw [s0, Nat.sub_zero] at hsim hgz
    have hv : (match (fk_tf C (bb f) (C0 (P f + 2)) (sz f) 0 (upd (C 80) 0 (nI (fk_ty1 C f)))).1 with | none => (-1 : Int32) | some i => nI i) = fk_rv (fk_tf C (bb f) (C0 (P f + 2)) (sz f) 0 (upd (C 80) 0 (nI (fk_ty1 C f)))).1 := by
      cases (fk_tf C (bb f) (C0 (P f + 2)) (sz f) 0 (upd (C 80) 0 (nI (fk_ty1 C f)))).1 <;> rfl
    refine ⟨_, by rw [g1], (g2.trans hsim).trans hv, z_rv _ (fun i hi => by rw [hgz] at hi; exact z_gz_some hN _ _ _ (by omega) i hi), g3, fun hq => ⟨fun _ => ?_, fun g _ _ q => q⟩⟩
    have hno : (fk_tf C (bb f) (C0 (P f + 2)) (sz f) 0 (upd (C 80) 0 (nI (fk_ty1 C f)))).1 = none := by
      cases hc : (fk_tf C (bb f) (C0 (P f + 2)) (sz f) 0 (upd (C 80) 0 (nI (fk_ty1 C f)))).1 with
      | none => rfl
      | some i =>
        rw [hc] at hq
        exact absurd hq (fk_nm1 (by rw [hgz] at hc; exact z_gz_some hN _ _ _ (by omega) i hc))
    rw [hgz] at hno
    obtain ⟨f1, f2, f3⟩ := fk_gz_fin hN (Np f) 0 _ (by omega) hno
    refine ⟨(fk_gz (bb f) (C0 (P f + 2)) (sp f) (fun i v => fk_it C (bb f i) (bb f (i + 1)) v) (fun i q v => if bb f i = 13 ∧ q = 0 then nI 1 else fk_wv (bb f i) v) (Np f) 0 (upd (C 80) 0 (nI (fk_ty1 C f)))).2, ?_, fun p hp => ?_⟩
    · have := f2 0 (by omega)
      rw [s0] at this
      rw [← et]
      exact this.trans pk_us
    · obtain ⟨t1, t2⟩ := f3 p (by omega) hp
      obtain ⟨e, hk9, -⟩ := hN.node hp
      have t1 := (fk_ty_eq hbl hk9.2.1 hk9.2.2.2 _).mp t1
      rw [e3] at t1
      refine ⟨⟨Decidable.byContradiction (fun q => t1 (Or.inl q)), fun q1 q2 => t1 (Or.inr ⟨q1, q2⟩)⟩, t2⟩
  · obtain ⟨g1, g2⟩ := z_st_in hB h (rule := 2) hf (by decide) hin
    exact ⟨-1, by rw [g1], by rw [g2, z_pm30], Or.inl rfl, g3, fun _ => ⟨fun q => absurd q hin, fun g _ _ q => q⟩⟩
end
