/-! One instant, class against reference. -/
def z_D (n : Nat) (ck : Nat → Nat) (C R : fk_M) : Prop := C 83 0 = R 89 22 ∧ ∀ f, f < n → R 95 f = C 83 (ck f) ∧ C (3 + 6 * f) 5 = R 96 f ∧ (R 96 f = 0 ∨ R 96 f = 1) ∧ (¬ R 95 f = 0 → C (3 + 6 * f) 6 = R 94 f)
set_option maxHeartbeats 1000000 in
theorem z_step {t n : Nat} {ck P sz Np tn : Nat → Nat} {bb sp sl on : Nat → Nat → Nat} {C R : fk_M} (ht : t + 1 < 2 ^ 31) (hJ : z_J t n ck P sz Np bb sp sl C R) (hD : z_D n ck C R) (htn : ∀ k, k < n → C 78 k = nI (tn k) ∧ tn k < n) (hon : ∀ f, f < n → R 91 f = 0 → ∀ q, q < Np f → R 102 (40 * f + sp f q) = nI (on f q) ∧ on f q < 25) : z_J (t + 1) n ck P sz Np bb sp sl (fk_st n ck P sz tn bb C) (fk_in n ck Np bb sp sl on R) ∧ z_D n ck (fk_st n ck P sz tn bb C) (fk_in n ck Np bb sp sl on R) := by
  have hfl0 := z_flows hJ htn rfl rfl
  obtain ⟨hB, h93, hck, hho, hG, hZ, hcb, hTT, hcn⟩ := hJ
  have hn := hB.1.2.1
  have hPX : ∀ j, j < 12 → fk_X (P j) := fun j hj => (hB.1.2.2 j hj).1
  have hPi := hB.2.2.2.1
  have x3 : ∀ j i, j < 12 → i < 5 → 4 ≤ P j + i ∧ (P j + i < 75 ∨ (84 ≤ P j + i ∧ P j + i < 89)) := fun j i hj hi => fk_X83 (hPX j hj) hi
  have c25 : ∀ w, w < n → ck w < 25 := fun w hw => (hB.1.2.2 w (by omega)).2.2.2.1
  have ck2 : ∀ w, w < n → ck w ≤ 2 * n := fun w hw => by rcases hck w hw with q | q <;> omega
  have e91 : ∀ f, f < n → C (3 + 6 * f) 2 = R 91 f := fun f hf => (hB.2.2.2.2.1 f (by omega)).2.1
  -- the class
  obtain ⟨C1, hC1⟩ : ∃ z : fk_M, z = fk_s1 ck P tn bb C n := ⟨_, rfl⟩
  obtain ⟨C2, hC2⟩ : ∃ z : fk_M, z = fk_s2 P sz bb C1 n := ⟨_, rfl⟩
  obtain ⟨C3, hC3⟩ : ∃ z : fk_M, z = fk_st n ck P sz tn bb C := ⟨_, rfl⟩
  have hC3' : C3 = fk_s3 C2 (2 * n + 1) := by rw [hC3, hC2, hC1]; rfl
  have hS1 : fk_Sh n ck P sz bb C1 := by rw [hC1]; exact hB.1.to (fk_s1_Eq hn (fun k hk => (htn k hk).2) n (Nat.le_refl _)).1
  have q1 : ∀ q, (∀ g, g < n → q ≠ 3 + 6 * g) → C1 q = C q := fun q hq => by rw [hC1]; exact z_s1_ne n (fun s hs => hq _ (htn s hs).2)
  have q1t : ∀ g s, s ≠ 5 → s ≠ 6 → C1 (3 + 6 * g) s = C (3 + 6 * g) s := fun g s a b => by rw [hC1]; exact z_s1_t a b n
  have nP : ∀ f i g, f < 12 → i < 5 → g < 12 → P f + i ≠ 3 + 6 * g := fun f i g hf hi hg => by
    have h12 := fk_X4 (hPX f hf) hg
    rcases (by omega : i = 0 ∨ i = 1 ∨ i = 2 ∨ i = 3 ∨ i = 4) with rfl | rfl | rfl | rfl | rfl
    · exact h12.2.2.2.2
    · exact h12.2.2.2.1
    · exact h12.2.2.1
    · exact h12.2.1
    · exact h12.1
  have q1P : ∀ f i, f < 12 → i < 5 → C1 (P f + i) = C (P f + i) := fun f i hf hi => q1 _ (fun g hg => nP f i g hf hi (by omega))
  have q183 : C1 83 = C 83 := q1 83 (fun g hg => by omega)
  obtain ⟨s2ne, s2v⟩ := z_s2 hS1 hPi n (Nat.le_refl _)
  rw [← hC2] at s2ne s2v
  obtain ⟨s3ne, s3v⟩ := z_s3 (C2 := C2) (2 * n + 1) (by omega)
  rw [← hC3'] at s3ne s3v
  have f3 : ∀ f, f < 12 → C3 (3 + 6 * f) = C1 (3 + 6 * f) := fun f hf => by rw [s3ne _ (by omega)]; exact s2ne _ (fun j hj q => nP j 4 f (by omega) (by decide) hf q.symm)
  have f2 : ∀ f, f < 12 → C2 (3 + 6 * f) = C1 (3 + 6 * f) := fun f hf => s2ne _ (fun j hj q => nP j 4 f (by omega) (by decide) hf q.symm)
  have p3 : ∀ f i, f < 12 → i < 4 → C3 (P f + i) = C (P f + i) := fun f i hf hi => by
    have := x3 f i hf (by omega)
    rw [s3ne _ (by omega), s2ne _ (fun j hj q => by have := fk_XX (hPX f hf) (hPX j (by omega)) (by omega) (by decide) q; omega)]
    exact q1P f i hf (by omega)
  have p34 : ∀ f, f < 12 → C3 (P f + 4) = C2 (P f + 4) := fun f hf => s3ne _ (by have := x3 f 4 hf (by decide); omega)
  have c283 : C2 83 = C 83 := by rw [s2ne 83 (fun j hj q => by have := x3 j 4 (by omega) (by decide); omega), q183]
  have hi2 : ∀ c, c < 25 → fk_hi C2 c = fk_hi C1 c := fun c hc => z_hi_cong (Or.inr (f2 _ (by omega)))
  have hEq := fk_st_Eq (M := C) n ck P sz tn bb hn hPX (fun k hk => (htn k hk).2)
  -- the reference
  obtain ⟨R1, hR1⟩ : ∃ z : fk_M, z = (fk_id n ck Np bb sp sl (nI 0, fk_p0 R n) n).2 := ⟨_, rfl⟩
  obtain ⟨R2, hR2⟩ : ∃ z : fk_M, z = fk_ie Np bb sp sl R1 n := ⟨_, rfl⟩
  obtain ⟨R4, hR4⟩ : ∃ z : fk_M, z = fk_ig Np bb sp sl on R2 n := ⟨_, rfl⟩
  obtain ⟨R3, hR3⟩ : ∃ z : fk_M, z = fk_in n ck Np bb sp sl on R := ⟨_, rfl⟩
  have hR3' : R3 = fk_tk R4 := by rw [hR3, hR4, hR2, hR1]; rfl
  have hRi : fk_Ri R R3 := by rw [hR3]; exact fk_in_Ri (fk_Ri.refl R) n ck Np bb sp sl on
  have al : ∀ f, f < n → z_al ck C R C1 R1 f := fun f hf => by rw [hC1, hR1]; exact hfl0 _ f hf (Nat.le_refl _)
  have hF1 : z_Fi R R1 := (z_rounds (ck := ck) (Np := Np) (bb := bb) (sp := sp) (sl := sl) hn hZ hR1).1
  have r1k : ∀ q, (q = 91 ∨ q = 103 ∨ q = 105 ∨ q = 102) → R1 q = R q := fun q hq => hF1.1 q (by omega) (by omega) (by omega) (by omega) (by omega) (by omega)
  have clk : ∀ c, c ≤ 2 * n → fk_hi C1 c = fk_hm R1 c := fun c hc => z_al.clock ((Nat.eq_zero_or_pos c).imp id (fun q => al _ (by omega)))
  have hNW : ∀ f, f < n → R 91 f = 0 → fk_NW (bb f) (sz f) n (C (P f + 2)) (sp f) (sl f) (Np f) ∧ sl f (Np f) = 0 := fun f hf hin => hB.nw hf (hG f hf (by rw [e91 f hf]; exact hin)).1
  obtain ⟨Ty, hTy⟩ : ∃ Ty : Nat → Nat → Int32, ∀ f, f < n → R 91 f = 0 → Ty f 0 = nI (fk_ty1 C f) ∧ ∀ p, p < Np f → ((fk_ris (R 90) (bb f (sp f p)) (bb f (sp f p + 1)) (Ty f (sp f p)) = Ty f (sp f p) ∧ (15 < bb f (sp f p) → ¬ R 90 (bb f (sp f p + 1)) = 0)) ∧ ∀ j, j < fk_ar (bb f (sp f p)) → Ty f (fk_ir (C (P f + 2)) j (sp f p + fk_hd (bb f (sp f p)))) = if bb f (sp f p) = 13 ∧ j = 0 then nI 1 else fk_wv (bb f (sp f p)) (Ty f (sp f p))) ∧ (bb f (sp f p) = 14 → Ty f (sp f p) = nI 1 → C (P f + 4) (sp f p) = 0 ∨ C (P f + 4) (sp f p) = nI 1) := by
    refine Classical.axiomOfChoice (r := fun f (T : Nat → Int32) => f < n → R 91 f = 0 → T 0 = nI (fk_ty1 C f) ∧ ∀ p, p < Np f → ((fk_ris (R 90) (bb f (sp f p)) (bb f (sp f p + 1)) (T (sp f p)) = T (sp f p) ∧ (15 < bb f (sp f p) → ¬ R 90 (bb f (sp f p + 1)) = 0)) ∧ ∀ j, j < fk_ar (bb f (sp f p)) → T (fk_ir (C (P f + 2)) j (sp f p + fk_hd (bb f (sp f p)))) = if bb f (sp f p) = 13 ∧ j = 0 then nI 1 else fk_wv (bb f (sp f p)) (T (sp f p))) ∧ (bb f (sp f p) = 14 → T (sp f p) = nI 1 → C (P f + 4) (sp f p) = 0 ∨ C (P f + 4) (sp f p) = nI 1)) (fun f => ?_)
    by_cases hc : f < n ∧ R 91 f = 0
    · obtain ⟨T, hT⟩ := (hG f hc.1 (by rw [e91 f hc.1]; exact hc.2)).2.1
      exact ⟨T, fun _ _ => hT⟩
    · exact ⟨fun _ => 0, fun a b => absurd ⟨a, b⟩ hc⟩
  have hEv : ∀ f, f < n → R1 91 f = 0 → (fk_NW (bb f) (sz f) n (C (P f + 2)) (sp f) (sl f) (Np f) ∧ sl f (Np f) = 0) ∧ C1 (P f + 2) = C (P f + 2) ∧ z_Ev C1 (P f) f (bb f) (C (P f + 2)) (sp f) (Np f) ck (R 90) (R1 94) (R1 103) (R1 105) (Ty f) (fun _ => True) := fun f hf hin => by
    rw [r1k 91 (by decide)] at hin
    obtain ⟨T0, HT⟩ := hTy f hf hin
    obtain ⟨-, HC, -, HL⟩ := (hG f hf (by rw [e91 f hf]; exact hin)).2
    have hN := (hNW f hf hin).1
    refine ⟨hNW f hf hin, q1P f 2 (by omega) (by decide), ?_⟩
    refine ⟨fun p hp _ hk => ?_, fun _ _ _ _ _ _ => trivial, fun p hp => (HT p hp).1, fun p hp => ?_, fun p hp h14 => ?_, fun p hp h15 => ?_⟩
    · obtain ⟨-, k9, -⟩ := hN.node hp
      have hw := k9.2.2.2 hk
      exact ⟨(al _ hw).gw rfl rfl rfl, c25 _ hw, by omega⟩
    · rw [q1P f 3 (by omega) (by decide)]
      exact (HC.2 p hp).1
    · rw [q1P f 4 (by omega) (by decide), r1k 103 (by decide)]
      exact ⟨(HL p hp).1 h14, (HT p hp).2 h14⟩
    · rw [q1P f 3 (by omega) (by decide), r1k 105 (by decide), q183]
      exact (HL p hp).2 h15
  obtain ⟨i1, i2, i3⟩ := z_ie hEv n (Nat.le_refl _)
  rw [← hR2] at i1 i2 i3
  have r2k : ∀ q, (q = 91 ∨ q = 103 ∨ q = 105 ∨ q = 102) → R2 q = R q := fun q hq => by rw [i1 q (by omega) (by omega) (by omega)]; exact r1k q hq
  have hm2 : ∀ c, fk_hm R2 c = fk_hm R1 c := fun c => by unfold fk_hm; rw [i1 94 (by decide) (by decide) (by decide), i1 96 (by decide) (by decide) (by decide)]
  obtain ⟨j1, j2⟩ := z_ig (Np := Np) (bb := bb) (sp := sp) (sl := sl) (on := on) (n := n) (R2 := R2) (fun f hf hin => by
    rw [r2k 91 (by decide)] at hin
    have hN := (hNW f hf hin).1
    refine ⟨fun p q h1 h2 => hN.mono p q h1 (by omega), fun p hp => ?_⟩
    obtain ⟨-, k9, -⟩ := hN.node hp
    have := k9.1
    have := hN.1
    omega) n (Nat.le_refl _)
  rw [← hR4] at j1 j2
  have r3ne : ∀ q, q ≠ 89 → R3 q = R4 q := fun q hq => by rw [hR3']; exact va_up_ne _ _ hq
  have r3v : ∀ q, (q = 94 ∨ q = 95 ∨ q = 96) → R3 q = R1 q := fun q hq => by rw [r3ne q (by omega), j1 q (by omega) (by omega), i1 q (by omega) (by omega) (by omega)]
  have r322 : R3 89 22 = R 89 22 + nI 1 := by
    rw [hR3']
    unfold fk_tk
    rw [va_up_self, pk_us, j1 89 (by decide) (by decide), i2 22 (by decide) (by decide), hF1.2 22 (by decide) (by decide)]
  have hRq := hRi.1
  obtain ⟨⟨w1, w90, w91, w92, w98, w99, w100, w101⟩, w93, w97, w102⟩ := hRi
  rw [← hC3] at hEq
  have cnt3 : ∀ c, c ≤ 2 * n → C3 83 c = C 83 c + nI (fk_hi C1 c).toNat := fun c hc => by rw [s3v c, if_pos (by omega), c283, hi2 c (by omega)]
  have sl3 : ∀ f s, f < 12 → s < 5 → C3 (3 + 6 * f) s = C (3 + 6 * f) s := fun f s hf hs => by rw [f3 f hf]; exact q1t f s (by omega) (by omega)
  rw [← hC3, ← hR3]
  refine ⟨⟨⟨hB.1.to hEq.1, hB.2.1.of hRq, hB.2.2.1, hPi, fun f hf => ?_, ?_⟩, fun f hf => ?_, ?_, ?_, fun f hf hin => ?_, ?_, ?_, ?_, fun c hc => ?_⟩, ?_, fun f hf => ?_⟩
  · rw [sl3 f 1 hf (by decide), sl3 f 2 hf (by decide), w90, w91, w98]
    exact hB.2.2.2.2.1 f hf
  · rw [w90, s3ne 90 (by decide), s2ne 90 (fun j hj q => by have := x3 j 4 (by omega) (by decide); omega), q1 90 (fun g hg => by omega)]
    exact hB.2.2.2.2.2
  · rw [sl3 f 4 (by omega) (by decide), w93]
    exact h93 f hf
  · rw [w90]; exact hck
  · rw [w90, w93]; exact hho
  · rw [sl3 f 2 (by omega) (by decide)] at hin
    obtain ⟨hsz, -, HC, HN, HL⟩ := hG f hf hin
    have hin9 : R 91 f = 0 := by rw [← e91 f hf]; exact hin
    obtain ⟨T0, HT⟩ := hTy f hf hin9
    obtain ⟨hN, hsl⟩ := hNW f hf hin9
    have et : fk_ty1 C3 f = fk_ty1 C f := by unfold fk_ty1; rw [sl3 f 1 (by omega) (by decide)]
    rw [p3 f 2 (by omega) (by decide), p3 f 3 (by omega) (by decide), p34 f (by omega), w90, w97, w102, et]
    have facts : ∀ p, p < Np f → ∃ c, c ≤ 2 * n ∧ C (P f + 3) (sp f p) = nI c ∧ on f p = c := fun p hp => by
      obtain ⟨s1, s2⟩ := hN.2.2.2.2.2.2 p hp
      obtain ⟨c, c1, c2⟩ := z_clk hN HC ⟨ck f, ck2 f hf, rfl⟩ ck2 p (by omega) 0 (by omega)
      have c2 : C (P f + 3) (sp f p) = nI c := c2
      refine ⟨c, c1, c2, ?_⟩
      obtain ⟨o1, o2⟩ := hon f hf hin9 p hp
      have e := (o1.symm.trans (HC.2 p hp).2).trans c2
      have := congrArg Int32.toNatClampNeg e
      rw [nI_clamp (by omega), nI_clamp (by omega)] at this
      exact this
    have past : ∀ p, p < Np f → bb f (sp f p) = 14 → (C2 (P f + 4) (sp f p) = R3 103 (40 * f + sp f p)) ∧ (Ty f (sp f p) = nI 1 → C2 (P f + 4) (sp f p) = 0 ∨ C2 (P f + 4) (sp f p) = nI 1) := fun p hp h14 => by
      obtain ⟨c, c1, c2, c3⟩ := facts p hp
      obtain ⟨e, k9, a1, a2, -⟩ := hN.node hp
      have hv := s2v f hf hsz (sp f p)
      rw [q1P f 2 (by omega) (by decide), q1P f 3 (by omega) (by decide), q1P f 4 (by omega) (by decide), c2, nI_clamp (by omega)] at hv
      obtain ⟨k1, -⟩ := j2 f hf (by rw [r2k 91 (by decide)]; exact hin9) p hp
      rw [r3ne 103 (by decide), k1, hm2, c3, ← clk c c1, hv]
      by_cases hh : fk_hi C1 c = true
      · rw [if_pos ⟨k9.1, a2, h14, hh⟩, if_pos ⟨hf, Or.inl h14, hh⟩, ← hN.2.2.2.1 p hp]
        obtain ⟨b1, b2⟩ := i3 f hf (by rw [r1k 91 (by decide)]; exact hin9) p hp h14 (by rw [q1P f 3 (by omega) (by decide), c2, nI_clamp (by omega)]; exact hh)
        rw [b1] at b2
        exact ⟨b1.symm, b2⟩
      · rw [if_neg (fun q => hh q.2.2.2), if_neg (fun q => hh q.2.2), r2k 103 (by decide)]
        exact ⟨(HL p hp).1 h14, (HT p hp).2 h14⟩
    refine ⟨hsz, ⟨Ty f, T0, fun p hp => ⟨(HT p hp).1, fun h14 => (past p hp h14).2⟩⟩, HC, HN, fun p hp => ⟨fun h14 => (past p hp h14).1, fun h15 => ?_⟩⟩
    obtain ⟨c, c1, c2, c3⟩ := facts p hp
    obtain ⟨-, k2⟩ := j2 f hf (by rw [r2k 91 (by decide)]; exact hin9) p hp
    rw [r3ne 105 (by decide), k2, hm2, c3, ← clk c c1, c2, nI_clamp (by omega), cnt3 c c1]
    have old := (HL p hp).2 h15
    rw [c2, nI_clamp (by omega)] at old
    cases hh : fk_hi C1 c
    · rw [if_neg (fun q => absurd q.2.2 (by decide)), r2k 105 (by decide)]
      show _ ↔ C 83 c + nI 0 = 0
      rw [nI_0, Int32.add_zero]
      exact old
    · rw [if_pos ⟨hf, Or.inr h15, rfl⟩]
      obtain ⟨q, q1, q2⟩ := hcn c (by omega)
      show nI 1 = 0 ↔ C 83 c + nI 1 = 0
      rw [q2, nI_add]
      exact ⟨fun e => absurd e (by decide), fun e => absurd ((z_nI0 (by omega)).mp e) (by omega)⟩
  · rw [w97]; exact hZ
  · rw [w97]; exact hcb
  · rw [w97, hEq.2]; exact hTT
  · obtain ⟨q, qa, qb⟩ := hcn c hc
    by_cases h2 : c ≤ 2 * n
    · rw [cnt3 c h2, qb]
      cases fk_hi C1 c
      · refine ⟨q, by omega, ?_⟩
        show nI q + nI 0 = nI q
        rw [nI_0, Int32.add_zero]
      · exact ⟨q + 1, by omega, nI_add q 1⟩
    · rw [s3v c, if_neg (by omega), c283]
      exact ⟨q, by omega, qb⟩
  · rw [cnt3 0 (by omega), r322, hD.1]
    have : fk_hi C1 0 = true := decide_eq_true (Or.inl rfl)
    rw [this]
    rfl
  · obtain ⟨a1, a2, a3, a4, a5, a6⟩ := al f hf
    obtain ⟨d1, d2, d3, d4⟩ := hD.2 f hf
    rw [r3v 94 (by decide), r3v 95 (by decide), r3v 96 (by decide), f3 f (by omega), cnt3 _ (ck2 f hf), a4, d1, a2, a3]
    refine ⟨rfl, rfl, ?_, fun hne => ?_⟩
    · cases fk_hi C1 (ck f)
      · exact Or.inl nI_0
      · exact Or.inr rfl
    · cases hh : fk_hi C1 (ck f)
      · rw [(a6 hh).1, (a6 hh).2]
        refine d4 (fun z => hne ?_)
        rw [hh, ← d1, z]
        decide
      · exact (a5 hh).1
