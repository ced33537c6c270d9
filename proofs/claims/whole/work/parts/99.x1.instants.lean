/-! instants: from one relation to the next. -/
theorem z_rb_ne {x : Nat} {b : Nat → Nat} {M : fk_M} {q : Nat} (h : q ≠ x + 4) : ∀ m, fk_rb x b M m q = M q := by
  intro m
  induction m with
  | zero => rfl
  | succ m ih =>
    show fk_rb1 x b (fk_rb x b M m) m q = _
    unfold fk_rb1
    split
    · rw [va_up_ne _ _ h]; exact ih
    · exact ih
theorem z_s2_ne {P sz : Nat → Nat} {bb : Nat → Nat → Nat} {M : fk_M} {q : Nat} : ∀ k, (∀ j, j < k → q ≠ P j + 4) → fk_s2 P sz bb M k q = M q := by
  intro k
  induction k with
  | zero => intro _; rfl
  | succ k ih =>
    intro h
    show fk_rb (P k) (bb k) (fk_s2 P sz bb M k) (sz k) q = _
    rw [z_rb_ne (h k (by omega))]
    exact ih (fun j hj => h j (by omega))
theorem z_s3_ne {M : fk_M} {q : Nat} (h : q ≠ 83) : ∀ k, fk_s3 M k q = M q := by
  intro k
  induction k with
  | zero => rfl
  | succ k ih => show va_up (fk_s3 M k) 83 _ q = _; rw [va_up_ne _ _ h]; exact ih
section
variable {n : Nat} {ck P sz tn Np : Nat → Nat} {bb sp sl on : Nat → Nat → Nat} {C R : fk_M}
theorem z_st_ne (htn : ∀ k, k < n → tn k < n) {q : Nat} (h1 : q ≠ 83) (h2 : ∀ f, f < n → q ≠ 3 + 6 * f) (h3 : ∀ f, f < n → q ≠ P f + 4) : fk_st n ck P sz tn bb C q = C q := by
  unfold fk_st
  rw [z_s3_ne h1, z_s2_ne n h3, z_s1_ne n (fun s hs => h2 _ (htn s hs))]
theorem z_st_t {f s : Nat} (hP : ∀ j, j < 12 → fk_X (P j)) (hn : n ≤ 12) (hf : f < 12) (h5 : s ≠ 5) (h6 : s ≠ 6) : fk_st n ck P sz tn bb C (3 + 6 * f) s = C (3 + 6 * f) s := by
  unfold fk_st
  rw [z_s3_ne (by omega), z_s2_ne n (fun j hj q => (fk_X4 (hP j (by omega)) hf).1 q.symm), z_s1_t h5 h6]
theorem z_in_ne (hn : n ≤ 12) (hZ : z_Z n (R 97)) : (∀ q, q ≠ 89 → q ≠ 94 → q ≠ 95 → q ≠ 96 → q ≠ 103 → q ≠ 104 → q ≠ 105 → q ≠ 109 → fk_in n ck Np bb sp sl on R q = R q) ∧ ∀ t, t ≠ 22 → t ≠ 29 → t ≠ 30 → fk_in n ck Np bb sp sl on R 89 t = R 89 t := by
  have hF := (z_rounds (ck := ck) (Np := Np) (bb := bb) (sp := sp) (sl := sl) hn hZ rfl).1
  have hie : ∀ Z : fk_M, ∀ k, (∀ q, q ≠ 89 → q ≠ 104 → q ≠ 109 → fk_ie Np bb sp sl Z k q = Z q) ∧ ∀ t, t ≠ 29 → t ≠ 30 → fk_ie Np bb sp sl Z k 89 t = Z 89 t := fun Z k => by
    induction k with
    | zero => exact ⟨fun _ _ _ _ => rfl, fun _ _ _ => rfl⟩
    | succ k ih =>
      have e : fk_ie Np bb sp sl Z (k + 1) = if fk_ie Np bb sp sl Z k 91 k = 0 then fk_rqm Np bb sp sl k (fk_ie Np bb sp sl Z k) else fk_ie Np bb sp sl Z k := rfl
      rw [e]
      split
      · unfold fk_rqm fk_w3
        refine ⟨fun q a b c => ?_, fun t a b => ?_⟩
        · rw [va_up_ne _ _ a, va_up_ne _ _ b, va_up_ne _ _ c]; exact ih.1 q a b c
        · rw [va_up_self, pk_un b, pk_un a]; exact ih.2 t a b
      · exact ih
  have hig : ∀ Z : fk_M, ∀ k q, q ≠ 103 → q ≠ 105 → fk_ig Np bb sp sl on Z k q = Z q := fun Z k => by
    induction k with
    | zero => intro q _ _; rfl
    | succ k ih =>
      intro q a b
      have e : fk_ig Np bb sp sl on Z (k + 1) = if fk_ig Np bb sp sl on Z k 91 k = 0 then fk_kpm Np bb sp sl on k (fk_ig Np bb sp sl on Z k) else fk_ig Np bb sp sl on Z k := rfl
      rw [e]
      split
      · unfold fk_kpm
        rw [va_up_ne _ _ b, va_up_ne _ _ a]; exact ih q a b
      · exact ih q a b
  unfold fk_in fk_tk
  refine ⟨fun q a b c d e f g h => ?_, fun t a b c => ?_⟩
  · rw [va_up_ne _ _ a, hig _ _ q e g, (hie _ _).1 q a f h]
    exact hF.1 q a b c d f h
  · rw [va_up_self, pk_un a, hig _ _ 89 (by decide) (by decide), (hie _ _).2 t b c]
    exact hF.2 t b c
end
set_option maxHeartbeats 1000000 in
theorem o_instants (i : Nat) (hi : i ≤ 2048) (l : Launch) (hfl : l.flags = flags0) : fk_o_instants l (fk_Rel (z_Gd i)) (fk_Rel (z_Gd (i + 4))) := by
  intro g ov M hRel v
  have hRel0 := hRel
  obtain ⟨n, ck, P, sz, Np, bb, sp, sl, x, dl, db, h1, h2, h3, h4, h5⟩ := hRel
  have hn := h1.1.2.1
  have hPX : ∀ j, j < 12 → fk_X (P j) := fun j hj => (h1.1.2.2 j hj).1
  have x3 : ∀ j i, j < 12 → i < 5 → 4 ≤ P j + i ∧ (P j + i < 75 ∨ (84 ≤ P j + i ∧ P j + i < 89)) := fun j i hj hi => fk_X83 (hPX j hj) hi
  have hB0 : z_B n ck P sz Np bb sp sl M M := ⟨h1.1, h1.2.1, h1.2.2, h2.2.2.2.1, fun f hf => by
    obtain ⟨b1, b2, b3, b4, b5⟩ := h3.1 f hf
    exact ⟨b1, b2, b4⟩, rfl⟩
  have gd : ¬ M 89 23 = 0 → z_Gd i n ck P sz Np bb sp sl M := fun q => h5 (by rw [h4.1]; exact q)
  have e912 : ∀ f, f < n → M (3 + 6 * f) 2 = M 91 f := fun f hf => (hB0.2.2.2.2.1 f (by omega)).2.1
  have hon : ∀ q9 : ¬ M 89 23 = 0, ∀ f, f < n → M 91 f = 0 → ∀ q, q < Np f → M 102 (40 * f + sp f q) = nI ((M 102 (40 * f + sp f q)).toNatClampNeg) ∧ (M 102 (40 * f + sp f q)).toNatClampNeg < 25 := fun q9 f hf hin q hq => by
    obtain ⟨hsz, hG⟩ := (gd q9).1 f hf (by rw [e912 f hf]; exact hin)
    obtain ⟨hN, -⟩ := hB0.nw hf hsz
    obtain ⟨-, k9, -⟩ := hN.node hq
    have a1 := k9.1
    have a2 := hN.1
    obtain ⟨c, c1, c2⟩ := (h1.1.2.2 f (by omega)).2.2.2.2.2.2.2.1 (sp f q) (by omega)
    rw [(hG.2.1.2 q hq).2, c2, nI_clamp (by omega)]
    exact ⟨rfl, c1⟩
  have hgood : ¬ M 89 23 = 0 → (∀ f, f < n → M 91 f = 0 → ¬ M 98 f = 0) ∧ (∀ f, f < n → M 91 f = 0 → ∀ q, q < Np f → M 102 (40 * f + sp f q) = nI ((M 102 (40 * f + sp f q)).toNatClampNeg) ∧ (M 102 (40 * f + sp f q)).toNatClampNeg < 25) := fun q9 => ⟨fun f hf hin => by
    obtain ⟨hsz, -⟩ := (gd q9).1 f hf (by rw [e912 f hf]; exact hin)
    have h40 := (h1.1.2.2 f (by omega)).2.2.2.2.2.1
    rw [(hB0.2.2.2.2.1 f (by omega)).2.2, z_nI0 (by omega)]
    omega, hon q9⟩
  by_cases hv : v < nI 1 ∨ ¬ v ≤ nI 50
  · have c9 := c_M_instants l g ov M n ck sz Np bb sp sl h1.2.1 (fun f q => (M 102 (40 * f + sp f q)).toNatClampNeg) hgood v
    have et : fk_tc (fk_inF v) (decide (M 89 23 = 0)).toNat = 1 := by
      unfold fk_inF
      rw [decide_eq_true hv]
      rfl
    rw [et, if_pos (by decide)] at c9
    exact ⟨1, 4, _, _, ov, 0, by decide, by decide, h_instants_t1 l g ov M _ v (t_D_instants1 l hfl g ov M v hv) ⟨rfl, rfl⟩ ⟨by decide, by decide⟩, c9, fk_th_0, z_Rel_mono (by omega) (fk_Rel.th (z_Gd_Gs i) hRel0 1)⟩
  · obtain ⟨kk, k1, k50, rfl⟩ : ∃ kk, 1 ≤ kk ∧ kk ≤ 50 ∧ v = nI kk := by
      have v1 : ¬ v < nI 1 := fun q => hv (Or.inl q)
      have v50 : v ≤ nI 50 := Decidable.byContradiction (fun q => hv (Or.inr q))
      obtain ⟨j, j1, j2⟩ : ∃ j : Nat, j < 2 ^ 31 ∧ v = nI j := nI_of (fun q => v1 (Int32.lt_trans q (by decide)))
      subst j2
      have a1 := (nI_leI j1 (by decide)).mp v50
      refine ⟨j, ?_, a1, rfl⟩
      by_cases hj : j = 0
      · subst hj; exact absurd (by decide) v1
      · omega
    have einF : fk_inF (nI kk) = 0 := by
      unfold fk_inF
      rw [decide_eq_false hv]
      rfl
    by_cases hp : M 79 4 = 0
    · have c9 := c_M_instants l g ov M n ck sz Np bb sp sl h1.2.1 (fun f q => (M 102 (40 * f + sp f q)).toNatClampNeg) hgood (nI kk)
      have et : fk_tc (fk_inF (nI kk)) (decide (M 89 23 = 0)).toNat = 2 := by
        rw [einF, ← h4.1, decide_eq_true hp]
        rfl
      rw [et, if_pos (by decide)] at c9
      exact ⟨2, 4, _, _, ov, 0, by decide, by decide, h_instants_t2 l g ov M _ (nI kk) (t_D_instants2 l hfl g ov M kk k1 k50 hp) ⟨rfl, rfl⟩ ⟨by decide, by decide⟩, c9, fk_th_0, z_Rel_mono (by omega) (fk_Rel.th (z_Gd_Gs i) hRel0 2)⟩
    · have hp9 : ¬ M 89 23 = 0 := by rw [← h4.1]; exact hp
      obtain ⟨G1, G2, G3, G4, G5⟩ := gd hp9
      obtain ⟨pl, T, Tp⟩ := G4
      obtain ⟨tn, htn⟩ : ∃ tn : Nat → Nat, ∀ k, k < n → M 78 k = nI (tn k) ∧ tn k < n := ⟨fun k => (M 78 k).toNatClampNeg, fun k hk => by
        obtain ⟨f, f1, f2, f3⟩ := T.1 k hk
        show M 78 k = nI (M 78 k).toNatClampNeg ∧ (M 78 k).toNatClampNeg < n
        rw [f2, nI_clamp (by omega)]
        exact ⟨rfl, f1⟩⟩
      have htl : ∀ k, k < n → tn k < n := fun k hk => (htn k hk).2
      have c8 := c_D_instants l g ov M n ck P sz tn bb h1.1 htn (fun j hj hin => (G1 j hj hin).1) hp kk k1 k50
      obtain ⟨M8, hM8⟩ : ∃ z : fk_M, z = fk_sts n ck P sz tn bb M kk := ⟨_, rfl⟩
      rw [← hM8] at c8
      -- the class's cells
      have cne : ∀ k q, q ≠ 83 → (∀ f, f < n → q ≠ 3 + 6 * f) → (∀ f, f < n → q ≠ P f + 4) → fk_sts n ck P sz tn bb M k q = M q := fun k q a b c => by
        induction k with
        | zero => rfl
        | succ k ih => show fk_st n ck P sz tn bb (fk_sts n ck P sz tn bb M k) q = _; rw [z_st_ne htl a b c]; exact ih
      have ct : ∀ k f s, f < 12 → s ≠ 5 → s ≠ 6 → fk_sts n ck P sz tn bb M k (3 + 6 * f) s = M (3 + 6 * f) s := fun k f s hf a b => by
        induction k with
        | zero => rfl
        | succ k ih => show fk_st n ck P sz tn bb (fk_sts n ck P sz tn bb M k) (3 + 6 * f) s = _; rw [z_st_t hPX hn hf a b]; exact ih
      have hi8 : ∀ q, 89 ≤ q → M8 q = M q := fun q hq => by rw [hM8]; exact cne kk q (by omega) (fun f hf => by omega) (fun f hf => by have := x3 f 4 (by omega) (by decide); omega)
      obtain ⟨R0, hR0⟩ : ∃ z : fk_M, z = fk_th M8 0 := ⟨_, rfl⟩
      have r0q : ∀ q, q ≠ 89 → R0 q = M8 q := fun q hq => by rw [hR0]; exact fk_th_ne hq
      have r0m : ∀ q, 90 ≤ q → R0 q = M q := fun q hq => by rw [r0q q (by omega)]; exact hi8 q (by omega)
      have r0t : ∀ t, t ≠ 0 → R0 89 t = M 89 t := fun t ht => by rw [hR0, fk_th_s ht, hi8 89 (by decide)]
      have c9 := c_M_instants l g ov M8 n ck sz Np bb sp sl (h1.2.1.of ⟨by rw [hi8 89 (by decide)], hi8 90 (by decide), hi8 91 (by decide), hi8 92 (by decide), hi8 98 (by decide), hi8 99 (by decide), hi8 100 (by decide), hi8 101 (by decide)⟩) (fun f q => (M 102 (40 * f + sp f q)).toNatClampNeg) (by
        rw [hi8 89 (by decide), hi8 91 (by decide), hi8 98 (by decide), hi8 102 (by decide)]
        exact hgood) (nI kk)
      have et : fk_tc (fk_inF (nI kk)) (decide (M8 89 23 = 0)).toNat = 0 := by
        rw [einF, hi8 89 (by decide), decide_eq_false hp9]
        rfl
      rw [et, if_neg (by decide), ← hR0, nI_clamp (by omega)] at c9
      obtain ⟨on, hon9⟩ : ∃ on : Nat → Nat → Nat, on = fun f q => (M 102 (40 * f + sp f q)).toNatClampNeg := ⟨_, rfl⟩
      rw [← hon9] at c9
      have main : ∀ k, k ≤ 50 → z_J (50 * i + k) n ck P sz Np bb sp sl (fk_sts n ck P sz tn bb M k) (fk_its n ck Np bb sp sl on R0 k) ∧ z_D n ck (fk_sts n ck P sz tn bb M k) (fk_its n ck Np bb sp sl on R0 k) ∧ (∀ q, q ≠ 89 → q ≠ 94 → q ≠ 95 → q ≠ 96 → q ≠ 103 → q ≠ 104 → q ≠ 105 → q ≠ 109 → fk_its n ck Np bb sp sl on R0 k q = R0 q) ∧ ∀ t, t ≠ 22 → t ≠ 29 → t ≠ 30 → fk_its n ck Np bb sp sl on R0 k 89 t = R0 89 t := by
        intro k
        induction k with
        | zero =>
          intro _
          refine ⟨⟨⟨h1.1, h1.2.1.of ⟨r0t 1 (by decide), r0m 90 (by decide), r0m 91 (by decide), r0m 92 (by decide), r0m 98 (by decide), r0m 99 (by decide), r0m 100 (by decide), r0m 101 (by decide)⟩, h1.2.2, h2.2.2.2.1, fun f hf => ?_, r0m 90 (by decide)⟩, fun f hf => ?_, fun f hf => ?_, fun f hf hb => ?_, fun f hf hin => ?_, ?_, ?_, ⟨pl, ?_, Tp⟩, fun c hc => ?_⟩, ⟨?_, fun f hf => ?_⟩, fun _ _ _ _ _ _ _ _ _ => rfl, fun _ _ _ _ => rfl⟩
          · show M (3 + 6 * f) 1 = R0 90 f ∧ M (3 + 6 * f) 2 = R0 91 f ∧ R0 98 f = nI (sz f)
            rw [r0m 90 (by decide), r0m 91 (by decide), r0m 98 (by decide)]
            exact hB0.2.2.2.2.1 f hf
          · show M (3 + 6 * f) 4 = R0 93 f
            rw [r0m 93 (by decide)]
            exact (h3.1 f (by omega)).2.2.1
          · show ck f = 0 ∨ ((ck f - 1) / 2 < f ∧ ¬ R0 90 ((ck f - 1) / 2) = 0)
            rw [r0m 90 (by decide)]
            refine (h3.2.1 f hf).imp id (fun q => ⟨q.1, ?_⟩)
            rw [← (h3.1 _ (by omega)).1]
            exact q.2
          · show R0 93 f = 0 ∨ R0 93 f = nI 1
            have hb : ¬ R0 90 f = 0 := hb
            rw [r0m 90 (by decide), ← (h3.1 f (by omega)).1] at hb
            rw [r0m 93 (by decide), ← (h3.1 f (by omega)).2.2.1]
            exact h3.2.2 f hf hb
          · have := G1 f hf hin
            show 0 < sz f ∧ z_G1 ck (bb f) (M (P f + 2)) (sp f) (Np f) f (R0 90) (nI (fk_ty1 M f)) (R0 97 f) (M (P f + 3)) (R0 102) (M (P f + 4)) (R0 103) (R0 105) (M 83)
            rw [r0m 90 (by decide), r0m 97 (by decide), r0m 102 (by decide), r0m 103 (by decide), r0m 105 (by decide)]
            exact this
          · show z_Z n (R0 97)
            rw [r0m 97 (by decide)]; exact G2
          · show ∀ f, f < n → ck f ≠ 0 → fk_wf (R0 97 f) ((ck f - 1) / 2) = true
            rw [r0m 97 (by decide)]; exact G3
          · show z_T n (R0 97) n pl (M 78)
            rw [r0m 97 (by decide)]; exact T
          · obtain ⟨q, q1, q2⟩ := G5 c hc
            exact ⟨q, by omega, q2⟩
          · show M 83 0 = R0 89 22
            rw [r0t 22 (by decide)]; exact h4.2.2.2.1
          · show R0 95 f = M 83 (ck f) ∧ M (3 + 6 * f) 5 = R0 96 f ∧ (R0 96 f = 0 ∨ R0 96 f = 1) ∧ (¬ R0 95 f = 0 → M (3 + 6 * f) 6 = R0 94 f)
            rw [r0m 94 (by decide), r0m 95 (by decide), r0m 96 (by decide)]
            exact h4.2.2.2.2.1 f hf
        | succ k ih =>
          intro hk
          obtain ⟨j1, j2, j3, j4⟩ := ih (by omega)
          have hZ := j1.2.2.2.2.2.1
          obtain ⟨w1, w2⟩ := z_in_ne (ck := ck) (Np := Np) (bb := bb) (sp := sp) (sl := sl) (on := on) hn hZ
          have st := z_step (tn := tn) (on := on) (by omega) j1 j2 (fun z hz => by
            rw [cne k 78 (by decide) (fun f hf => by omega) (fun f hf => by have := x3 f 4 (by omega) (by decide); omega)]
            exact htn z hz) (fun f hf hin q hq => by
            rw [j3 91 (by decide) (by decide) (by decide) (by decide) (by decide) (by decide) (by decide) (by decide), r0m 91 (by decide)] at hin
            rw [j3 102 (by decide) (by decide) (by decide) (by decide) (by decide) (by decide) (by decide) (by decide), r0m 102 (by decide), hon9]
            exact hon hp9 f hf hin q hq)
          refine ⟨st.1, st.2, fun q a b c d e f g h => ?_, fun t a b c => ?_⟩
          · show fk_in n ck Np bb sp sl on (fk_its n ck Np bb sp sl on R0 k) q = _
            rw [w1 q a b c d e f g h]; exact j3 q a b c d e f g h
          · show fk_in n ck Np bb sp sl on (fk_its n ck Np bb sp sl on R0 k) 89 t = _
            rw [w2 t a b c]; exact j4 t a b c
      obtain ⟨m1, m2, m3, m4⟩ := main kk k50
      rw [← hM8] at m1 m2
      obtain ⟨M9, hM9⟩ : ∃ z : fk_M, z = fk_its n ck Np bb sp sl on R0 kk := ⟨_, rfl⟩
      rw [← hM9] at m1 m2 m3 m4 c9
      have lo : ∀ q, q < 89 → M9 q = M8 q := fun q hq => by rw [m3 q (by omega) (by omega) (by omega) (by omega) (by omega) (by omega) (by omega) (by omega)]; exact r0q q (by omega)
      have hh : ∀ q, 90 ≤ q → q ≠ 94 → q ≠ 95 → q ≠ 96 → q ≠ 103 → q ≠ 104 → q ≠ 105 → q ≠ 109 → M9 q = M q := fun q a b c d e f g h => by rw [m3 q (by omega) b c d e f g h]; exact r0m q a
      have ht9 : ∀ t, t ≠ 0 → t ≠ 22 → t ≠ 29 → t ≠ 30 → M9 89 t = M 89 t := fun t a b c d => by rw [m4 t b c d]; exact r0t t a
      have lq : ∀ q, q < 89 → q ≠ 83 → (∀ f, f < n → q ≠ 3 + 6 * f) → (∀ f, f < n → q ≠ P f + 4) → M9 q = M q := fun q a b c d => by rw [lo q a, hM8]; exact cne kk q b c d
      have lt : ∀ f s, f < 12 → s ≠ 5 → s ≠ 6 → M9 (3 + 6 * f) s = M (3 + 6 * f) s := fun f s hf a b => by rw [lo _ (by omega), hM8]; exact ct kk f s hf a b
      refine ⟨0, 4, M8, M9, ov, 0, by decide, by decide, h_instants_r l g ov M M8 (nI kk) c8 ⟨rfl, rfl⟩ ⟨by decide, by decide⟩, c9, by rw [m4 0 (by decide) (by decide) (by decide), hR0]; exact fk_th_0, ?_⟩
      obtain ⟨J1, J2, J3, J4, J5, J6, J7, J8, J9⟩ := m1
      obtain ⟨a1, a2, a3, a4, a5, a6, a7, a8, a9⟩ := h2
      have n3 : ∀ q, (q = 0 ∨ q = 75 ∨ q = 77 ∨ q = 79) → M9 q = M q := fun q hq => lq q (by omega) (by omega) (fun f hf => by omega) (fun f hf => by have := x3 f 4 (by omega) (by decide); omega)
      have ex : ∀ i, i < 5 → M9 (x + i) = M (x + i) := fun i hi => by
        have b := fk_X83 a1 (i := i) hi
        refine lq _ (by omega) (by omega) (fun f hf e => ?_) (fun f hf e => a3 f (by omega) (fk_XX a1 (hPX f (by omega)) hi (by decide) e).symm)
        have h12 := fk_X4 a1 (j := f) (by omega)
        rcases (by omega : i = 0 ∨ i = 1 ∨ i = 2 ∨ i = 3 ∨ i = 4) with rfl | rfl | rfl | rfl | rfl
        · exact h12.2.2.2.2 e
        · exact h12.2.2.2.1 e
        · exact h12.2.2.1 e
        · exact h12.2.1 e
        · exact h12.1 e
      have k4 : ∀ q, (q = 90 ∨ q = 91 ∨ q = 92 ∨ q = 93 ∨ q = 98 ∨ q = 99 ∨ q = 100 ∨ q = 101 ∨ q = 106 ∨ q = 108) → M9 q = M q := fun q h => hh q (by omega) (by omega) (by omega) (by omega) (by omega) (by omega) (by omega) (by omega)
      have hSh9 : fk_Sh n ck P sz bb M9 := by
        refine J1.1.to ⟨lo 1 (by decide), fun j hj s _ => by rw [lo _ (by omega)], fun y hy => ?_⟩
        have b0 := fk_X83 hy (i := 0) (by decide)
        have b3 := fk_X83 hy (i := 3) (by decide)
        exact ⟨lo _ (by omega), lo _ (by omega), lo _ (by omega), lo _ (by omega)⟩
      refine ⟨n, ck, P, sz, Np, bb, sp, sl, x, dl, db, ⟨hSh9, J1.2.1, h1.2.2⟩, ⟨a1, by rw [n3 0 (by decide)]; exact a2, a3, a4, ?_, by rw [ht9 19 (by decide) (by decide) (by decide) (by decide)]; exact a6, a7, ?_, ?_⟩, ⟨fun f hf => ?_, fun f hf => ?_, fun f hf => ?_⟩, ⟨?_, ?_, ?_, ?_, fun f hf => ?_, ?_⟩, fun _ => ⟨fun f hf hin => ?_, J6, J7, ?_, fun c hc => ?_⟩⟩
      · have := ex 0 (by decide)
        rw [Nat.add_zero] at this
        rw [this]; exact a5
      · rw [ex 1 (by decide), k4 106 (by decide)]; exact a8
      · rw [ex 3 (by decide)]; exact a9
      · rw [lt f 1 hf (by decide) (by decide), lt f 2 hf (by decide) (by decide), lt f 4 hf (by decide) (by decide), k4 90 (by decide), k4 91 (by decide), k4 93 (by decide), k4 98 (by decide), k4 99 (by decide)]
        exact h3.1 f hf
      · rcases h3.2.1 f hf with q | q
        · exact Or.inl q
        · exact Or.inr ⟨q.1, by rw [lt _ 1 (by omega) (by decide) (by decide)]; exact q.2⟩
      · rw [lt f 1 (by omega) (by decide) (by decide), lt f 4 (by omega) (by decide) (by decide)]
        exact h3.2.2 f hf
      · rw [n3 79 (by decide), ht9 23 (by decide) (by decide) (by decide) (by decide)]; exact h4.1
      · rw [n3 79 (by decide), ht9 24 (by decide) (by decide) (by decide) (by decide)]; exact h4.2.1
      · rw [n3 79 (by decide), ht9 25 (by decide) (by decide) (by decide) (by decide)]; exact h4.2.2.1
      · rw [lo 83 (by decide)]; exact m2.1
      · rw [lo 83 (by decide), lo (3 + 6 * f) (by omega)]; exact m2.2 f hf
      · obtain ⟨o, o1, o2, o3⟩ := h4.2.2.2.2.2
        refine ⟨o, o1, by rw [ht9 27 (by decide) (by decide) (by decide) (by decide)]; exact o2, fun q => ?_⟩
        rw [n3 75 (by decide), n3 77 (by decide), k4 108 (by decide)]
        exact o3 hp
      · rw [lo _ (by omega)] at hin
        have hg := J5 f hf hin
        have et : fk_ty1 M9 f = fk_ty1 M8 f := by unfold fk_ty1; rw [lo _ (by omega)]
        have b2 := x3 f 2 (by omega) (by decide)
        have b3 := x3 f 3 (by omega) (by decide)
        have b4 := x3 f 4 (by omega) (by decide)
        rw [lo (P f + 2) (by omega), lo (P f + 3) (by omega), lo (P f + 4) (by omega), lo 83 (by decide), et]
        exact hg
      · rw [lo 78 (by decide)]; exact J8
      · obtain ⟨q, q1, q2⟩ := J9 c hc
        exact ⟨q, by omega, by rw [lo 83 (by decide)]; exact q2⟩
