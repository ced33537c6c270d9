/-! What each flow waits for at once, on both sides; the whole of the check. -/
/-- the names outside every pre lie in the mask -/
def z_Nm (b : Nat → Nat) (E : Nat → Int32) (sp : Nat → Nat) (N : Nat) (m : Int32) : Prop := ∃ Fl : Nat → Int32, Fl 0 = 0 ∧ ∀ p, p < N → (∀ j, j < fk_ar (b (sp p)) → Fl (fk_ir E j (sp p + fk_hd (b (sp p)))) = if b (sp p) = 14 then nI 1 else Fl (sp p)) ∧ (Fl (sp p) = 0 → (b (sp p) = 3 ∨ 15 < b (sp p)) → fk_wf m (b (sp p + 1)) = true)
theorem z_Nm.mono {b : Nat → Nat} {E : Nat → Int32} {sp : Nat → Nat} {N c : Nat} {m m' : Int32} (hc : ∀ p, p < N → (b (sp p) = 3 ∨ 15 < b (sp p)) → b (sp p + 1) < c) (hm : ∀ g, g < c → fk_wf m g = true → fk_wf m' g = true) (h : z_Nm b E sp N m) : z_Nm b E sp N m' := by
  obtain ⟨Fl, h0, h1⟩ := h
  exact ⟨Fl, h0, fun p hp => ⟨(h1 p hp).1, fun z k => hm _ (hc p hp k) ((h1 p hp).2 z k)⟩⟩
theorem z_rnm_bits {b : Nat → Nat} {n cnt : Nat} {E : Nat → Int32} {sp sl : Nat → Nat} {N : Nat} (h : fk_NW b n cnt E sp sl N) (hc : cnt ≤ 12) : ∀ d p S mq, p + d = N → z_sm mq → (∀ g, g < 12 → fk_wf mq g = true → g < cnt) → z_sm (fk_rnm b sp sl d p S mq).2 ∧ ∀ g, g < 12 → fk_wf (fk_rnm b sp sl d p S mq).2 g = true → g < cnt := by
  intro d
  induction d with
  | zero => intro p S mq _ h1 h2; exact ⟨h1, h2⟩
  | succ d ih =>
    intro p S mq hp h1 h2
    obtain ⟨e, hk9, -⟩ := h.node (p := p) (by omega)
    rw [fk_rnm_S]
    by_cases hq : S (sl p - 1) = 0 ∧ (b (sp p) = 3 ∨ 15 < b (sp p))
    · have hb := hk9.2.2.2 hq.2
      rw [if_pos hq]
      refine ih (p + 1) _ _ (by omega) (z_sm_or h1 (z_sm_1 (by omega))) (fun g hg hw => ?_)
      rw [fk_wf_or _ _ hg, fk_wf_1 (by omega) hg, Bool.or_eq_true, decide_eq_true_eq] at hw
      rcases hw with hw | hw
      · exact h2 g hg hw
      · omega
    · rw [if_neg hq]
      exact ih (p + 1) _ _ (by omega) h1 h2
theorem z_rn0 {c f : Nat} (hc : c < 25) (hf : c = 0 ∨ (c - 1) / 2 < f) : z_sm (fk_rn0 c) ∧ (∀ g, g < 12 → fk_wf (fk_rn0 c) g = true → g < f) ∧ (c ≠ 0 → fk_wf (fk_rn0 c) ((c - 1) / 2) = true) := by
  unfold fk_rn0
  by_cases h0 : 0 < c
  · rw [if_pos h0]
    have h12 : (c - 1) / 2 < 12 := by omega
    refine ⟨z_sm_1 h12, fun g hg hw => ?_, fun _ => ?_⟩
    · rw [fk_wf_1 h12 hg, decide_eq_true_eq] at hw
      omega
    · rw [fk_wf_1 h12 h12, decide_eq_true rfl]
  · rw [if_neg h0]
    refine ⟨z_sm_0, fun g hg hw => ?_, fun q => by omega⟩
    have h : ∀ f : Fin 12, fk_wf (nI 0) f.1 = false := by decide +kernel
    rw [h ⟨g, hg⟩] at hw
    cases hw
theorem z_cm (c : Nat) : fk_cm c = fk_rn0 c := by
  unfold fk_cm fk_rn0
  by_cases h : c = 0
  · rw [if_pos h, if_neg (by omega)]
  · rw [if_neg h, if_pos (by omega)]
theorem z_t1 {ck P sz : Nat → Nat} {bb : Nat → Nat → Nat} {M : fk_M} {a : Nat} : ∀ i, a < i → fk_t1 ck P sz bb M i 76 a = fk_nd ck P sz bb M a := by
  intro i
  induction i with
  | zero => intro h; omega
  | succ i ih =>
    intro h
    show va_up (fk_t1 ck P sz bb M i) 76 _ 76 a = _
    rw [va_up_self]
    by_cases e : a = i
    · subst e; exact pk_us
    · rw [pk_un e]; exact ih (by omega)
section
variable {n : Nat} {ck P sz Np : Nat → Nat} {bb sp sl : Nat → Nat → Nat} {C0 R0 : fk_M}
theorem z_base (hB : z_B n ck P sz Np bb sp sl C0 R0) (hD : ∀ f, f < n → C0 (3 + 6 * f) 2 = 0 → 0 < sz f) (hck : ∀ f, f < n → ck f = 0 ∨ (ck f - 1) / 2 < f) {Cx F : fk_M} (hE : ∀ f, f < n → Cx (P f + 2) = C0 (P f + 2)) (hF : F 91 = R0 91) {a : Nat} (ha : a < n) : fk_nd ck P sz bb Cx a = fk_nv ck Np bb sp sl F a ∧ z_sm (fk_nv ck Np bb sp sl F a) ∧ (∀ g, g < 12 → fk_wf (fk_nv ck Np bb sp sl F a) g = true → g < n) ∧ (C0 (3 + 6 * a) 2 = 0 → z_Nm (bb a) (C0 (P a + 2)) (sp a) (Np a) (fk_nv ck Np bb sp sl F a)) ∧ (ck a ≠ 0 → fk_wf (fk_nv ck Np bb sp sl F a) ((ck a - 1) / 2) = true) := by
  have hn := hB.1.2.1
  have hS := hB.1.2.2 a (by omega)
  have hc25 := hS.2.2.2.1
  obtain ⟨r1, r2, r3⟩ := z_rn0 hc25 (hck a ha)
  have e91 := (hB.2.2.2.2.1 a (by omega)).2.1
  unfold fk_nd
  rw [hE a ha, z_cm]
  by_cases hin : C0 (3 + 6 * a) 2 = 0
  · obtain ⟨hN, hsl⟩ := hB.nw ha (hD a ha hin)
    have s0 := hN.2.2.1
    have l0 := hN.2.2.2.2.2.1
    have ev : fk_nv ck Np bb sp sl F a = (fk_rnm (bb a) (sp a) (sl a) (Np a) 0 (upd (F 109) 0 (nI 0)) (fk_rn0 (ck a))).2 := if_pos (by rw [hF, ← e91]; exact hin)
    rw [ev]
    have hsim := z_dw_sim hN (Np a) 0 (upd (F 109) 0 (nI 0)) 0 (fk_rn0 (ck a)) (by omega) (fun k hk => by
      have : k = 0 := by omega
      subst this
      rw [l0]
      exact Or.inl ⟨pk_us, Nat.zero_le _⟩)
    rw [s0, Nat.sub_zero] at hsim
    obtain ⟨b1, b2⟩ := z_rnm_bits hN hn (Np a) 0 (upd (F 109) 0 (nI 0)) (fk_rn0 (ck a)) (by omega) r1 (fun g hg hw => by have := r2 g hg hw; omega)
    obtain ⟨n1, n2⟩ := z_names hN hn (Np a) 0 (upd (F 109) 0 (nI 0)) (upd (F 109) 0 (nI 0)) (fk_rn0 (ck a)) (by omega) (fun k hk => by
      have : k = 0 := by omega
      subst this
      rw [l0, s0]
      rfl)
    obtain ⟨f1, f2, f3⟩ := fk_gz_fin hN (Np a) 0 (upd (F 109) 0 (nI 0)) (by omega) (z_fl_none (b := bb a) (E := C0 (P a + 2)) (sp := sp a) _ _ _)
    refine ⟨hsim.symm, b1, b2, fun _ => ⟨(fk_gz (bb a) (C0 (P a + 2)) (sp a) (fun _ _ => true) (z_fl (bb a)) (Np a) 0 (upd (F 109) 0 (nI 0))).2, ?_, fun p hp => ⟨(f3 p (by omega) hp).2, n2 p (by omega) hp⟩⟩, fun h0 => n1 _ (by omega) (r3 h0)⟩
    have := f2 0 (by omega)
    rw [s0] at this
    exact this.trans (pk_us.trans nI_0)
  · have ev : fk_nv ck Np bb sp sl F a = fk_rn0 (ck a) := if_neg (by rw [hF, ← e91]; exact hin)
    have hz := hS.2.2.2.2.2.2.2.2.2.2.2 hin
    rw [ev, hz]
    exact ⟨rfl, r1, fun g hg hw => by have := r2 g hg hw; omega, fun q => absurd q hin, r3⟩
/-- findWaits: what stays, what the masks are -/
theorem z_nfm {F : fk_M} {f k : Nat} (h1 : k ≠ 89) (h2 : k ≠ 109) : fk_nfm ck Np bb sp sl F f k = F k := by
  unfold fk_nfm
  split
  · by_cases h3 : k = 102
    · subst h3; exact z_w3102 _ _ _ _
    · unfold fk_w3; rw [va_up_ne _ _ h1, va_up_ne _ _ h3, va_up_ne _ _ h2]
  · rfl
theorem z_nfm89 {F : fk_M} {f t : Nat} (h1 : t ≠ 29) (h2 : t ≠ 30) : fk_nfm ck Np bb sp sl F f 89 t = F 89 t := by
  unfold fk_nfm
  split
  · unfold fk_w3; rw [va_up_self, pk_un h2, pk_un h1]
  · rfl
theorem z_f1 {R : fk_M} : ∀ i, (∀ k, k ≠ 89 → k ≠ 97 → k ≠ 109 → fk_f1 ck Np bb sp sl R i k = R k) ∧ (∀ t, t ≠ 29 → t ≠ 30 → fk_f1 ck Np bb sp sl R i 89 t = R 89 t) ∧ ∀ a, a < i → fk_f1 ck Np bb sp sl R i 97 a = fk_nv ck Np bb sp sl (fk_f1 ck Np bb sp sl R a) a := by
  intro i
  induction i with
  | zero => exact ⟨fun _ _ _ _ => rfl, fun _ _ _ => rfl, fun a h => by omega⟩
  | succ i ih =>
    obtain ⟨g1, g2, g3⟩ := ih
    have e : fk_f1 ck Np bb sp sl R (i + 1) = va_up (fk_nfm ck Np bb sp sl (fk_f1 ck Np bb sp sl R i) i) 97 (upd (fk_nfm ck Np bb sp sl (fk_f1 ck Np bb sp sl R i) i 97) i (fk_nv ck Np bb sp sl (fk_f1 ck Np bb sp sl R i) i)) := rfl
    rw [e]
    refine ⟨fun k k1 k2 k3 => ?_, fun t t1 t2 => ?_, fun a ha => ?_⟩
    · rw [va_up_ne _ _ k2, z_nfm k1 k3]; exact g1 k k1 k2 k3
    · rw [va_up_ne _ _ (by decide), z_nfm89 t1 t2]; exact g2 t t1 t2
    · rw [va_up_self]
      by_cases e9 : a = i
      · subst e9; exact pk_us
      · rw [pk_un e9, z_nfm (by decide) (by decide)]; exact g3 a (by omega)
/-- the closed masks of both sides -/
theorem z_waits (hB : z_B n ck P sz Np bb sp sl C0 R0) (hD : ∀ f, f < n → C0 (3 + 6 * f) 2 = 0 → 0 < sz f) (hck : ∀ f, f < n → ck f = 0 ∨ (ck f - 1) / 2 < f) {Cx : fk_M} (hE : ∀ f, f < n → Cx (P f + 2) = C0 (P f + 2)) {R : fk_M} (hR : R 91 = R0 91) (hC : C0 76 = fk_tr n ck P sz bb Cx 76) {A : Nat → Int32} (hA : A = fk_fw n ck Np bb sp sl R 97) :
    (∀ a, a < n → C0 76 a = A a) ∧ (∀ a, a < n → z_sm (A a)) ∧ (∀ a k j, a < n → k < n → j < 12 → fk_wf (A a) k = true → fk_wf (A k) j = true → fk_wf (A a) j = true) ∧ (∀ a j, a < n → j < 12 → fk_wf (A a) j = true → j < n) ∧ (∀ f, f < n → C0 (3 + 6 * f) 2 = 0 → z_Nm (bb f) (C0 (P f + 2)) (sp f) (Np f) (A f)) ∧ ∀ f, f < n → ck f ≠ 0 → fk_wf (A f) ((ck f - 1) / 2) = true := by
  have hn := hB.1.2.1
  have hb : ∀ a, a < n → _ := fun a ha => z_base hB hD hck hE (F := fk_f1 ck Np bb sp sl R a) ((z_f1 a).1 91 (by decide) (by decide) (by decide) |>.trans hR) ha
  have h97 : ∀ a, a < n → fk_f1 ck Np bb sp sl R n 97 a = fk_nv ck Np bb sp sl (fk_f1 ck Np bb sp sl R a) a := fun a ha => (z_f1 n).2.2 a ha
  have e97 : A = fk_x1 n (fk_f1 ck Np bb sp sl R n 97) n := by rw [hA]; unfold fk_fw; rw [va_up_self]
  obtain ⟨c1, c2, c3, c4⟩ := z_close (M := fk_t1 ck P sz bb Cx n) (A := fk_f1 ck Np bb sp sl R n 97) hn (fun a ha => by rw [z_t1 n ha, (hb a ha).1, h97 a ha]) (fun a ha => by rw [z_t1 n ha, (hb a ha).1]; exact (hb a ha).2.1)
  have hlt := (z_x1 (A := fk_f1 ck Np bb sp sl R n 97) hn n (Nat.le_refl _)).2.1 (fun _ j => j < n) (fun a k j _ _ h => h) (fun a j ha hj hw => by rw [h97 a ha] at hw; exact (hb a ha).2.2.1 j hj hw)
  rw [← e97] at c1 c2 c3 c4 hlt
  refine ⟨fun a ha => by rw [hC]; exact c1 a ha, c2, c3, hlt, fun f hf hin => ?_, fun f hf h0 => ?_⟩
  · obtain ⟨hN, -⟩ := hB.nw hf (hD f hf hin)
    refine ((hb f hf).2.2.2.1 hin).mono (c := n) (fun p hp hk => ?_) (fun g hg hw => c4 f g hf (by omega) (by rw [h97 f hf]; exact hw))
    obtain ⟨e, hk9, -⟩ := hN.node hp
    exact hk9.2.2.2 hk
  · have hc25 := (hB.1.2.2 f (by omega)).2.2.2.1
    exact c4 f _ hf (by omega) (by rw [h97 f hf]; exact (hb f hf).2.2.2.2 h0)
theorem z_ru_t {rule d : Nat} {C C' : fk_M} (h : fk_hf ck P sz bb rule n 0 C = (true, C')) : fk_ru n ck P sz bb (d + 1) rule C = fk_ru n ck P sz bb d (rule + 1) C' := by rw [fk_ru_S, h, if_pos rfl]
theorem z_ru_f {rule d : Nat} {C C' : fk_M} (h : fk_hf ck P sz bb rule n 0 C = (false, C')) : fk_ru n ck P sz bb (d + 1) rule C = (rule, C') := by rw [fk_ru_S, h, if_neg (fun q : false = true => by cases q)]
/-- what the reference's check leaves as it was -/
def z_FW (R0 R : fk_M) : Prop := (∀ k, k ≠ 89 → k ≠ 97 → k ≠ 102 → k ≠ 109 → R k = R0 k) ∧ ∀ t, t ≠ 29 → t ≠ 30 → R 89 t = R0 89 t
theorem z_FR.FW {R : fk_M} (h : z_FR R0 R) : z_FW R0 R := ⟨fun k a _ b c => h.1 k a b c, h.2⟩
end
