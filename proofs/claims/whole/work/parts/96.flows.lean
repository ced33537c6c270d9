/-! An instant's flows are alike on both sides. -/
/-- both sides between two instants: class C, reference R -/
def z_J (t n : Nat) (ck P sz Np : Nat → Nat) (bb sp sl : Nat → Nat → Nat) (C R : fk_M) : Prop :=
  z_B n ck P sz Np bb sp sl C R ∧ (∀ f, f < n → C (3 + 6 * f) 4 = R 93 f) ∧ (∀ f, f < n → ck f = 0 ∨ ((ck f - 1) / 2 < f ∧ ¬ R 90 ((ck f - 1) / 2) = 0)) ∧ (∀ f, f < n → ¬ R 90 f = 0 → R 93 f = 0 ∨ R 93 f = nI 1) ∧
  (∀ f, f < n → C (3 + 6 * f) 2 = 0 → 0 < sz f ∧ z_G1 ck (bb f) (C (P f + 2)) (sp f) (Np f) f (R 90) (nI (fk_ty1 C f)) (R 97 f) (C (P f + 3)) (R 102) (C (P f + 4)) (R 103) (R 105) (C 83)) ∧ z_Z n (R 97) ∧ (∀ f, f < n → ck f ≠ 0 → fk_wf (R 97 f) ((ck f - 1) / 2) = true) ∧ (∃ pl, z_T n (R 97) n pl (C 78) ∧ ∀ f, f < n → fk_wf pl f = true) ∧ ∀ c, c < 25 → ∃ q, q ≤ t ∧ C 83 c = nI q
theorem z_mk {W : fk_M} {x f : Nat} {b : Nat → Nat} {E : Nat → Int32} {sp : Nat → Nat} {N : Nat} {ck : Nat → Nat} {bl kp st X : Nat → Int32} {T m : Int32} (hG : z_G1 ck b E sp N f bl T m (W (x + 3)) X (W (x + 4)) kp st (W 83)) : ∃ Ty : Nat → Int32, Ty 0 = T ∧ ∀ (vl : Nat → Int32) (Pn : Nat → Prop), (∀ p, p < N → Pn (sp p) → (b (sp p) = 3 ∨ 15 < b (sp p)) → z_gw W vl bl ck (b (sp p + 1)) ∧ ck (b (sp p + 1)) < 25 ∧ b (sp p + 1) < 12) → (∀ p, p < N → Pn (sp p) → b (sp p) ≠ 14 → ∀ j, j < fk_ar (b (sp p)) → Pn (fk_ir E j (sp p + fk_hd (b (sp p))))) → z_Ev W x f b E sp N ck bl vl kp st Ty Pn := by
  obtain ⟨⟨Ty, T0, HT⟩, HC, HN, HL⟩ := hG
  exact ⟨Ty, T0, fun vl Pn h1 h2 => ⟨h1, h2, fun p hp => (HT p hp).1, fun p hp => (HC.2 p hp).1, fun p hp h14 => ⟨(HL p hp).1 h14, (HT p hp).2 h14⟩, fun p hp h15 => (HL p hp).2 h15⟩⟩
theorem z_hi_cong {Y D : fk_M} {c : Nat} (h : c = 0 ∨ Y (3 + 6 * ((c - 1) / 2)) = D (3 + 6 * ((c - 1) / 2))) : fk_hi Y c = fk_hi D c := by
  unfold fk_hi
  rcases h with h | h
  · rw [decide_eq_true (Or.inl h), decide_eq_true (Or.inl h)]
  · rw [h]
theorem z_hm_cong {Y D : fk_M} {c : Nat} (h : c = 0 ∨ (Y 94 ((c - 1) / 2) = D 94 ((c - 1) / 2) ∧ Y 96 ((c - 1) / 2) = D 96 ((c - 1) / 2))) : fk_hm Y c = fk_hm D c := by
  unfold fk_hm
  rcases h with h | h
  · rw [decide_eq_true (Or.inl h), decide_eq_true (Or.inl h)]
  · rw [h.1, h.2]
/-- flow f, alike after an instant's reckoning -/
def z_al (ck : Nat → Nat) (C R C1 R1 : fk_M) (f : Nat) : Prop := fk_hi C1 (ck f) = fk_hm R1 (ck f) ∧ C1 (3 + 6 * f) 5 = nI (fk_hi C1 (ck f)).toNat ∧ R1 96 f = nI (fk_hi C1 (ck f)).toNat ∧ R1 95 f = R 95 f + nI (fk_hi C1 (ck f)).toNat ∧ (fk_hi C1 (ck f) = true → C1 (3 + 6 * f) 6 = R1 94 f ∧ (¬ R 90 f = 0 → R1 94 f = 0 ∨ R1 94 f = nI 1)) ∧ (fk_hi C1 (ck f) = false → C1 (3 + 6 * f) 6 = C (3 + 6 * f) 6 ∧ R1 94 f = R 94 f)
theorem z_al.clock {ck : Nat → Nat} {C R C1 R1 : fk_M} {c : Nat} (h : c = 0 ∨ z_al ck C R C1 R1 ((c - 1) / 2)) : fk_hi C1 c = fk_hm R1 c := by
  rcases h with h | h
  · unfold fk_hi fk_hm
    rw [decide_eq_true (Or.inl h), decide_eq_true (Or.inl h)]
  · obtain ⟨a1, a2, a3, a4, a5, a6⟩ := h
    unfold fk_hi fk_hm
    generalize (c - 1) / 2 = w at *
    rw [a2, a3]
    cases hh : fk_hi C1 (ck w)
    · rw [decide_eq_decide]
      exact ⟨fun q => q.elim Or.inl (fun q => absurd nI_0 q.1), fun q => q.elim Or.inl (fun q => absurd nI_0 q.1)⟩
    · rw [(a5 hh).1]
theorem z_al.gw {ck : Nat → Nat} {C R C1 R1 : fk_M} {w : Nat} (h : z_al ck C R C1 R1 w) {W : fk_M} {vl : Nat → Int32} (h1 : W (3 + 6 * w) = C1 (3 + 6 * w)) (h2 : fk_hi W (ck w) = fk_hi C1 (ck w)) (h3 : vl w = R1 94 w) : z_gw W vl (R 90) ck w := by
  obtain ⟨a1, a2, a3, a4, a5, a6⟩ := h
  unfold z_gw
  rw [h1, h2, h3, a2]
  refine ⟨?_, a5⟩
  cases fk_hi C1 (ck w)
  · exact ⟨fun q => absurd nI_0 q, fun q => by cases q⟩
  · exact ⟨fun _ => rfl, fun _ => by decide⟩
section
variable {t n : Nat} {ck P sz Np : Nat → Nat} {bb sp sl : Nat → Nat → Nat} {C R : fk_M}
theorem z_flows (hJ : z_J t n ck P sz Np bb sp sl C R) {tn : Nat → Nat} (htn : ∀ k, k < n → C 78 k = nI (tn k) ∧ tn k < n) {C1 R1 : fk_M} (hC1 : C1 = fk_s1 ck P tn bb C n) (hR1 : R1 = (fk_id n ck Np bb sp sl (nI 0, fk_p0 R n) n).2) : ∀ m f, f < n → fk_pc (R 97 f) n ≤ m → z_al ck C R C1 R1 f := by
  obtain ⟨hB, h93, hck, hho, hG, hZ, hcb, ⟨pl, hT, hpl⟩, hcn⟩ := hJ
  have hn := hB.1.2.1
  have hPX : ∀ j, j < 12 → fk_X (P j) := fun j hj => (hB.1.2.2 j hj).1
  have x3 : ∀ j i, j < 12 → i < 5 → 4 ≤ P j + i ∧ (P j + i < 75 ∨ (84 ≤ P j + i ∧ P j + i < 89)) := fun j i hj hi => fk_X83 (hPX j hj) hi
  have e91 : ∀ f, f < n → C (3 + 6 * f) 2 = R 91 f := fun f hf => (hB.2.2.2.2.1 f (by omega)).2.1
  have e90 : ∀ f, f < n → C (3 + 6 * f) 1 = R 90 f := fun f hf => (hB.2.2.2.2.1 f (by omega)).1
  obtain ⟨hF1, hrd⟩ := z_rounds (ck := ck) (Np := Np) (bb := bb) (sp := sp) (sl := sl) hn hZ hR1
  intro m
  induction m using Nat.strongRecOn with
  | _ m ih =>
    intro f hf hm
    have al : ∀ w, w < 12 → fk_wf (R 97 f) w = true → w < n ∧ w ≠ f ∧ z_al ck C R C1 R1 w := fun w hw hm2 => by
      obtain ⟨l1, l2⟩ := hZ.lt hn hf hw hm2
      refine ⟨l1, fun q => ?_, ih (fk_pc (R 97 w) n) (by omega) w l1 (Nat.le_refl _)⟩
      subst q
      rw [hZ.2.2.1 w hf] at hm2
      cases hm2
    obtain ⟨Y, y1, y2, y3, y4, y5⟩ := z_turn hn hT hpl htn hC1 hf
    obtain ⟨Z, z1, z2, z3⟩ := hrd f hf
    have c25 : ∀ w, w < n → ck w < 25 := fun w hw => (hB.1.2.2 w (by omega)).2.2.2.1
    have hcl : ck f = 0 ∨ fk_wf (R 97 f) ((ck f - 1) / 2) = true := (Nat.eq_zero_or_pos (ck f)).imp id (fun q => hcb f hf (by omega))
    have cl12 : (ck f - 1) / 2 < 12 := by have := c25 f hf; omega
    have hiY : fk_hi Y (ck f) = fk_hi C1 (ck f) := z_hi_cong (hcl.imp id (fun q => y3 _ (al _ cl12 q).1 q))
    have hmZ : fk_hm Z (ck f) = fk_hm R1 (ck f) := z_hm_cong (hcl.imp id (fun q => z2 _ cl12 q))
    have hhm : fk_hi C1 (ck f) = fk_hm R1 (ck f) := z_al.clock (hcl.imp id (fun q => (al _ cl12 q).2.2))
    unfold z_res at z3
    rw [hmZ, ← hhm] at z3
    cases hh : fk_hi C1 (ck f)
    · rw [hh, if_neg (by decide)] at z3
      have ew : fk_wo ck P bb Y f = fk_w1 Y ck f := if_neg (by rw [hiY, hh]; decide)
      rw [ew] at y5
      unfold fk_w1 at y5
      rw [va_up_self, hiY, hh, y4] at y5
      refine ⟨hhm, by rw [y5, pk_us, hh], by rw [hh, z3.2.1]; exact nI_0.symm, by rw [hh, z3.2.2]; show R 95 f = R 95 f + nI 0; rw [nI_0, Int32.add_zero], fun q => ?_, fun _ => ⟨by rw [y5, pk_un (by decide)], z3.1⟩⟩
      rw [hh] at q; cases q
    · rw [hh, if_pos rfl] at z3
      obtain ⟨v1, v2, v3⟩ := z3
      have ew : fk_wo ck P bb Y f = va_up (fk_w1 Y ck f) (3 + 6 * f) (upd (fk_w1 Y ck f (3 + 6 * f)) 6 (if Y (3 + 6 * f) 2 = 0 then fk_ev (fk_w1 Y ck f) (P f) (bb f) 11 0 else Y (3 + 6 * f) 4)) := if_pos (by rw [hiY, hh])
      rw [ew, va_up_self, y2 f 2 (by decide) (by decide), y2 f 4 (by decide) (by decide)] at y5
      have s5 : C1 (3 + 6 * f) 5 = nI 1 := by
        rw [y5, pk_un (by decide)]
        unfold fk_w1
        rw [va_up_self, pk_us, hiY, hh]
        rfl
      refine ⟨hhm, by rw [s5, hh]; rfl, by rw [v2, hh]; rfl, by rw [v3, hh]; rfl, fun _ => ?_, fun q => by rw [hh] at q; cases q⟩
      rw [y5, pk_us, v1, ← e91 f hf]
      by_cases hin : C (3 + 6 * f) 2 = 0
      · rw [if_pos hin, if_pos hin]
        obtain ⟨hsz, hg⟩ := hG f hf hin
        obtain ⟨hN, hsl⟩ := hB.nw hf hsz
        obtain ⟨W, hW⟩ : ∃ z : fk_M, z = fk_w1 Y ck f := ⟨_, rfl⟩
        rw [← hW]
        have wne : ∀ q, q ≠ 3 + 6 * f → W q = Y q := fun q hq => by rw [hW]; exact va_up_ne _ _ hq
        have wP : ∀ i, 1 ≤ i → i < 5 → W (P f + i) = C (P f + i) := fun i hi0 hi => by
          have hne : ∀ g, g < 12 → P f + i ≠ 3 + 6 * g := fun g hg => by
            have h12 := fk_X4 (hPX f (by omega)) hg
            rcases (by omega : i = 1 ∨ i = 2 ∨ i = 3 ∨ i = 4) with rfl | rfl | rfl | rfl
            · exact h12.2.2.2.1
            · exact h12.2.2.1
            · exact h12.2.1
            · exact h12.1
          rw [wne _ (hne f (by omega))]
          exact y1 _ (fun g hg => hne g (by omega))
        have w83 : W 83 = C 83 := by rw [wne 83 (by omega)]; exact y1 83 (fun g hg => by omega)
        have wm : ∀ w, w < 12 → fk_wf (R 97 f) w = true → W (3 + 6 * w) = C1 (3 + 6 * w) := fun w hw hm2 => by
          obtain ⟨l1, l2, -⟩ := al w hw hm2
          rw [wne _ (by omega)]
          exact y3 w l1 hm2
        have hhiW : ∀ w, (w = f ∨ fk_wf (R 97 f) w = true) → w < n → fk_hi W (ck w) = fk_hi C1 (ck w) := fun w hwf hw => by
          have := c25 w hw
          refine z_hi_cong ((Nat.eq_zero_or_pos (ck w)).imp id (fun q => ?_))
          have b1 := hcb w hw (by omega)
          refine wm _ (by omega) ?_
          rcases hwf with rfl | hwf
          · exact b1
          · exact hZ.2.1 f w _ hf hw (by omega) hwf b1
        have z103 : Z 103 = R 103 := z1.1 103 (by decide) (by decide) (by decide) (by decide) (by decide) (by decide)
        have z105 : Z 105 = R 105 := z1.1 105 (by decide) (by decide) (by decide) (by decide) (by decide) (by decide)
        have hg2 : z_G1 ck (bb f) (C (P f + 2)) (sp f) (Np f) f (R 90) (nI (fk_ty1 C f)) (R 97 f) (W (P f + 3)) (R 102) (W (P f + 4)) (R 103) (R 105) (W 83) := by
          rw [wP 3 (by decide) (by decide), wP 4 (by decide) (by decide), w83]
          exact hg
        obtain ⟨Ty, T0, HE⟩ := z_mk hg2
        obtain ⟨Fl, F0, HF⟩ := hg.2.2.1
        have hEv := HE (Z 94) (fun i => Fl i = 0) (fun p hp hz hk => by
          have hb := (HF p hp).2 hz hk
          obtain ⟨-, k9, -⟩ := hN.node hp
          have hlt := k9.2.2.2 hk
          have h12 : bb f (sp f p + 1) < 12 := by omega
          obtain ⟨l1, l2, l3⟩ := al _ h12 hb
          exact ⟨l3.gw (wm _ h12 hb) (hhiW _ (Or.inr hb) l1) (z2 _ h12 hb).1, c25 _ l1, h12⟩) (fun p hp hz h14 j hj => by
          show Fl _ = 0
          rw [(HF p hp).1 j hj, if_neg h14]
          exact hz)
        have hA0 : W (P f + 3) 0 = nI (ck f) := by rw [wP 3 (by decide) (by decide)]; exact hg.2.1.1
        have r0 := z_ra0 (C := W) (x := P f) (f := f) hN hsl (wP 2 (by decide) (by decide)) hEv F0 (by rw [hA0, nI_clamp (by have := c25 f hf; omega), hhiW f (Or.inl rfl) hf]; exact hh) (Z 109) (Z 104)
        unfold fk_rqv
        rw [z103, z105]
        refine ⟨r0.1.symm, fun hb => r0.2 ?_⟩
        rw [T0]
        unfold fk_ty1
        rw [e90 f hf, decide_eq_true hb]
        rfl
      · rw [if_neg hin, if_neg hin, h93 f hf]
        exact ⟨rfl, fun hb => hho f hf hb⟩
end
