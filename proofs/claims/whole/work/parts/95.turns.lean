/-! An instant's flows: the class's turns, the reference's rounds. -/
theorem z_wf_bit {v : Int32} {g f : Nat} (hg : g < 12) (hf : f < 12) : fk_wf (v ||| (nI 1 <<< (nI g &&& 31))) f = (fk_wf v f || decide (g = f)) := by rw [fk_wf_or _ _ hf, fk_wf_1 hg hf]
section
variable {n : Nat} {ck P tn : Nat → Nat} {bb : Nat → Nat → Nat} {C : fk_M} {A : Nat → Int32}
theorem z_s1_ne {q : Nat} : ∀ k, (∀ s, s < k → q ≠ 3 + 6 * tn s) → fk_s1 ck P tn bb C k q = C q := by
  intro k
  induction k with
  | zero => intro _; rfl
  | succ k ih =>
    intro h
    show fk_wo ck P bb (fk_s1 ck P tn bb C k) (tn k) q = _
    rw [fk_wo_ne _ (h k (by omega))]
    exact ih (fun s hs => h s (by omega))
theorem z_s1_t {g t : Nat} (h5 : t ≠ 5) (h6 : t ≠ 6) : ∀ k, fk_s1 ck P tn bb C k (3 + 6 * g) t = C (3 + 6 * g) t := by
  intro k
  induction k with
  | zero => rfl
  | succ k ih =>
    show fk_wo ck P bb (fk_s1 ck P tn bb C k) (tn k) (3 + 6 * g) t = _
    rw [fk_wo_row _ h5 h6]
    exact ih
theorem z_s1_late {q s : Nat} : ∀ k, s ≤ k → (∀ r, s ≤ r → r < k → q ≠ 3 + 6 * tn r) → fk_s1 ck P tn bb C k q = fk_s1 ck P tn bb C s q := by
  intro k
  induction k with
  | zero => intro h _; have : s = 0 := by omega
            subst this; rfl
  | succ k ih =>
    intro hs h
    by_cases e : s = k + 1
    · subst e; rfl
    · show fk_wo ck P bb (fk_s1 ck P tn bb C k) (tn k) q = _
      rw [fk_wo_ne _ (h k (by omega) (by omega))]
      exact ih (by omega) (fun r h1 h2 => h r h1 (by omega))
/-- flow f's turn -/
theorem z_turn (hn : n ≤ 12) {pl : Int32} (hT : z_T n A n pl (C 78)) (hpl : ∀ f, f < n → fk_wf pl f = true) (htn : ∀ k, k < n → C 78 k = nI (tn k) ∧ tn k < n) {C1 : fk_M} (hC1 : C1 = fk_s1 ck P tn bb C n) {f : Nat} (hf : f < n) : ∃ Y : fk_M, (∀ q, (∀ g, g < n → q ≠ 3 + 6 * g) → Y q = C q) ∧ (∀ g t, t ≠ 5 → t ≠ 6 → Y (3 + 6 * g) t = C (3 + 6 * g) t) ∧ (∀ w, w < n → fk_wf (A f) w = true → Y (3 + 6 * w) = C1 (3 + 6 * w)) ∧ Y (3 + 6 * f) = C (3 + 6 * f) ∧ C1 (3 + 6 * f) = fk_wo ck P bb Y f (3 + 6 * f) := by
  obtain ⟨T1, T2, T3⟩ := hT
  have inj : ∀ a c, a < 2 ^ 31 → c < 2 ^ 31 → nI a = nI c → a = c := fun a c ha hc e => by
    have := congrArg Int32.toNatClampNeg e
    rw [nI_clamp ha, nI_clamp hc] at this
    exact this
  obtain ⟨s, s1, s2⟩ := T2 f hf (hpl f hf)
  have etn : tn s = f := inj _ _ (by have := (htn s s1).2; omega) (by omega) ((htn s s1).1.symm.trans s2)
  obtain ⟨m1, m2⟩ := T3 s f s1 hf s2
  have uniq : ∀ a c, a < n → c < n → tn a = tn c → a = c := fun a c ha hc e => by
    have h3 : ∀ a c, a < c → c < n → tn a = tn c → False := fun a c hac hc e => (T3 c (tn c) hc (htn c hc).2 (htn c hc).1).2 a hac ((htn a (by omega)).1.trans (by rw [e]))
    rcases Nat.lt_trichotomy a c with h | h | h
    · exact (h3 a c h hc e).elim
    · exact h
    · exact (h3 c a h ha e.symm).elim
  refine ⟨fk_s1 ck P tn bb C s, fun q hq => z_s1_ne s (fun r hr => hq _ (htn r (by omega)).2), fun g t h5 h6 => z_s1_t h5 h6 s, fun w hw hm => ?_, z_s1_ne s (fun r hr e => ?_), ?_⟩
  · obtain ⟨r, r1, r2⟩ := m1 w (by omega) hm
    have er : tn r = w := inj _ _ (by have := (htn r (by omega)).2; omega) (by omega) ((htn r (by omega)).1.symm.trans r2)
    rw [hC1]
    refine (z_s1_late n (by omega) (fun z h1 h2 e => ?_)).symm
    have := uniq r z (by omega) h2 (by omega)
    omega
  · have := uniq r s (by omega) s1 (by omega)
    omega
  · rw [hC1, z_s1_late (s := s + 1) n (by omega) (fun z h1 h2 e => by have := uniq s z s1 h2 (by omega); omega)]
    show fk_wo ck P bb (fk_s1 ck P tn bb C s) (tn s) (3 + 6 * f) = _
    rw [etn]
end
section
variable {n : Nat} {ck Np : Nat → Nat} {bb sp sl : Nat → Nat → Nat} {R : fk_M}
/-- cells that the reckoning of an instant leaves -/
def z_Fi (R Z : fk_M) : Prop := (∀ q, q ≠ 89 → q ≠ 94 → q ≠ 95 → q ≠ 96 → q ≠ 104 → q ≠ 109 → Z q = R q) ∧ ∀ t, t ≠ 29 → t ≠ 30 → Z 89 t = R 89 t
/-- what flow f became, reckoned at Z -/
def z_res (ck Np : Nat → Nat) (bb sp sl : Nat → Nat → Nat) (R Z R1 : fk_M) (f : Nat) : Prop := if fk_hm Z (ck f) = true then R1 94 f = (if R 91 f = 0 then fk_rqv Np bb sp sl f Z else R 93 f) ∧ R1 96 f = nI 1 ∧ R1 95 f = R 95 f + nI 1 else R1 94 f = R 94 f ∧ R1 96 f = 0 ∧ R1 95 f = R 95 f
def z_Ir (n : Nat) (ck Np : Nat → Nat) (bb sp sl : Nat → Nat → Nat) (R : fk_M) (z : Int32 × fk_M) : Prop :=
  z_Fi R z.2 ∧ (∀ f, f < n → fk_wf z.1 f = false → z.2 94 f = R 94 f ∧ z.2 95 f = R 95 f ∧ z.2 96 f = 0) ∧ ∀ f, f < n → fk_wf z.1 f = true → (∀ w, w < 12 → fk_wf (R 97 f) w = true → fk_wf z.1 w = true) ∧ ∃ Z : fk_M, z_Fi R Z ∧ (∀ w, w < 12 → fk_wf (R 97 f) w = true → Z 94 w = z.2 94 w ∧ Z 96 w = z.2 96 w) ∧ z_res ck Np bb sp sl R Z z.2 f
theorem z_Fi.rqm {Z : fk_M} (h : z_Fi R Z) (f : Nat) : z_Fi R (fk_rqm Np bb sp sl f Z) ∧ fk_rqm Np bb sp sl f Z 94 = Z 94 ∧ fk_rqm Np bb sp sl f Z 95 = Z 95 ∧ fk_rqm Np bb sp sl f Z 96 = Z 96 := by
  unfold fk_rqm fk_w3
  refine ⟨⟨fun q a b c d e g => ?_, fun t a b => ?_⟩, ?_, ?_, ?_⟩
  · rw [va_up_ne _ _ a, va_up_ne _ _ e, va_up_ne _ _ g]; exact h.1 q a b c d e g
  · rw [va_up_self, pk_un b, pk_un a]; exact h.2 t a b
  · rw [va_up_ne _ _ (by decide), va_up_ne _ _ (by decide), va_up_ne _ _ (by decide)]
  · rw [va_up_ne _ _ (by decide), va_up_ne _ _ (by decide), va_up_ne _ _ (by decide)]
  · rw [va_up_ne _ _ (by decide), va_up_ne _ _ (by decide), va_up_ne _ _ (by decide)]
theorem z_Fi.pv {Z : fk_M} (h : z_Fi R Z) (f : Nat) (v : Int32) : z_Fi R (fk_pv Z f v) := by
  unfold fk_pv
  refine ⟨fun q a b c d e g => ?_, fun t a b => ?_⟩
  · rw [va_up_ne _ _ c, va_up_ne _ _ d, va_up_ne _ _ b]; exact h.1 q a b c d e g
  · rw [va_up_ne _ _ (by decide), va_up_ne _ _ (by decide), va_up_ne _ _ (by decide)]; exact h.2 t a b
theorem z_pv94 {Z : fk_M} {f : Nat} {v : Int32} : fk_pv Z f v 94 = upd (Z 94) f v ∧ fk_pv Z f v 96 = upd (Z 96) f (nI 1) ∧ fk_pv Z f v 95 = upd (Z 95) f (Z 95 f + nI 1) := by
  unfold fk_pv
  refine ⟨?_, ?_, ?_⟩
  · rw [va_up_ne _ _ (by decide), va_up_ne _ _ (by decide), va_up_self]
  · rw [va_up_ne _ _ (by decide), va_up_self]
  · rw [va_up_self]
theorem z_res.to {Z R1 R2 : fk_M} {f : Nat} (h : z_res ck Np bb sp sl R Z R1 f) (e94 : R2 94 f = R1 94 f) (e95 : R2 95 f = R1 95 f) (e96 : R2 96 f = R1 96 f) : z_res ck Np bb sp sl R Z R2 f := by
  unfold z_res at h ⊢
  rw [e94, e95, e96]
  exact h
/-- the memory behind flow g's turn, at the cells that count -/
theorem z_ib_mem {Z : fk_M} (hF : z_Fi R Z) {g : Nat} (h0 : Z 94 g = R 94 g ∧ Z 95 g = R 95 g ∧ Z 96 g = 0) : z_Fi R (if fk_hm Z (ck g) = true then (if Z 91 g = 0 then fk_pv (fk_rqm Np bb sp sl g Z) g (fk_rqv Np bb sp sl g Z) else fk_pv Z g (Z 93 g)) else Z) ∧ z_res ck Np bb sp sl R Z (if fk_hm Z (ck g) = true then (if Z 91 g = 0 then fk_pv (fk_rqm Np bb sp sl g Z) g (fk_rqv Np bb sp sl g Z) else fk_pv Z g (Z 93 g)) else Z) g ∧ ∀ f, f ≠ g → (if fk_hm Z (ck g) = true then (if Z 91 g = 0 then fk_pv (fk_rqm Np bb sp sl g Z) g (fk_rqv Np bb sp sl g Z) else fk_pv Z g (Z 93 g)) else Z) 94 f = Z 94 f ∧ (if fk_hm Z (ck g) = true then (if Z 91 g = 0 then fk_pv (fk_rqm Np bb sp sl g Z) g (fk_rqv Np bb sp sl g Z) else fk_pv Z g (Z 93 g)) else Z) 95 f = Z 95 f ∧ (if fk_hm Z (ck g) = true then (if Z 91 g = 0 then fk_pv (fk_rqm Np bb sp sl g Z) g (fk_rqv Np bb sp sl g Z) else fk_pv Z g (Z 93 g)) else Z) 96 f = Z 96 f := by
  have e91 : Z 91 = R 91 := hF.1 91 (by decide) (by decide) (by decide) (by decide) (by decide) (by decide)
  have e93 : Z 93 = R 93 := hF.1 93 (by decide) (by decide) (by decide) (by decide) (by decide) (by decide)
  unfold z_res
  by_cases hh : fk_hm Z (ck g) = true
  · rw [if_pos hh, if_pos hh, e91]
    by_cases hi : R 91 g = 0
    · rw [if_pos hi, if_pos hi]
      obtain ⟨r1, r2, r3, r4⟩ := hF.rqm (Np := Np) (bb := bb) (sp := sp) (sl := sl) g
      obtain ⟨p1, p2, p3⟩ := z_pv94 (Z := fk_rqm Np bb sp sl g Z) (f := g) (v := fk_rqv Np bb sp sl g Z)
      rw [p1, p2, p3, r2, r3, r4]
      exact ⟨r1.pv _ _, ⟨pk_us, pk_us, by rw [pk_us, h0.2.1]⟩, fun f hf => ⟨pk_un hf, pk_un hf, pk_un hf⟩⟩
    · rw [if_neg hi, if_neg hi, e93]
      obtain ⟨p1, p2, p3⟩ := z_pv94 (Z := Z) (f := g) (v := R 93 g)
      rw [p1, p2, p3]
      exact ⟨hF.pv _ _, ⟨pk_us, pk_us, by rw [pk_us, h0.2.1]⟩, fun f hf => ⟨pk_un hf, pk_un hf, pk_un hf⟩⟩
  · rw [if_neg hh, if_neg hh]
    exact ⟨hF, ⟨h0.1, h0.2.2, h0.2.1⟩, fun f _ => ⟨rfl, rfl, rfl⟩⟩
theorem z_ib (hn : n ≤ 12) (hZ : z_Z n (R 97)) {z : Int32 × fk_M} (h : z_Ir n ck Np bb sp sl R z) {g : Nat} (hg : g < n) : z_Ir n ck Np bb sp sl R (fk_ib ck Np bb sp sl g z) ∧ (∀ f, f < 12 → fk_wf z.1 f = true → fk_wf (fk_ib ck Np bb sp sl g z).1 f = true) ∧ ((∀ w, w < 12 → fk_wf (R 97 g) w = true → fk_wf z.1 w = true) → fk_wf (fk_ib ck Np bb sp sl g z).1 g = true) := by
  obtain ⟨hF, h2, h3⟩ := h
  have e97 : z.2 97 = R 97 := hF.1 97 (by decide) (by decide) (by decide) (by decide) (by decide) (by decide)
  unfold fk_ib
  by_cases hc : fk_wf z.1 g = true ∨ ¬ z.2 97 g &&& (z.1 ^^^ (-1)) = 0
  · rw [if_pos hc]
    refine ⟨⟨hF, h2, h3⟩, fun f _ h => h, fun h => ?_⟩
    rcases hc with hc | hc
    · exact hc
    · rw [e97, z_ready (hZ.1 g hg)] at hc
      exact absurd h hc
  · rw [if_neg hc]
    have hk : fk_wf z.1 g = false := by
      cases hq : fk_wf z.1 g
      · rfl
      · exact absurd (Or.inl hq) hc
    have hr : ∀ w, w < 12 → fk_wf (R 97 g) w = true → fk_wf z.1 w = true := by
      rw [← z_ready (hZ.1 g hg), ← e97]
      exact Decidable.byContradiction (fun q => hc (Or.inr q))
    obtain ⟨m1, m2, m3⟩ := z_ib_mem (ck := ck) (Np := Np) (bb := bb) (sp := sp) (sl := sl) hF (h2 g hg hk)
    have gb : ∀ f, f < 12 → fk_wf (z.1 ||| (nI 1 <<< (nI g &&& 31))) f = (fk_wf z.1 f || decide (g = f)) := fun f hf => z_wf_bit (by omega) hf
    refine ⟨⟨m1, fun f hf hw => ?_, fun f hf hw => ?_⟩, fun f hf hw => ?_, fun _ => ?_⟩
    · have hw : fk_wf (z.1 ||| (nI 1 <<< (nI g &&& 31))) f = false := hw
      rw [gb f (by omega)] at hw
      by_cases e : g = f
      · rw [decide_eq_true e, Bool.or_true] at hw; cases hw
      · rw [decide_eq_false e, Bool.or_false] at hw
        obtain ⟨a1, a2, a3⟩ := h2 f hf hw
        obtain ⟨b1, b2, b3⟩ := m3 f (fun q => e q.symm)
        exact ⟨b1.trans a1, b2.trans a2, b3.trans a3⟩
    · have hw : fk_wf (z.1 ||| (nI 1 <<< (nI g &&& 31))) f = true := hw
      rw [gb f (by omega)] at hw
      by_cases e : g = f
      · subst e
        refine ⟨fun w hw1 hw2 => ?_, z.2, hF, fun w hw1 hw2 => ?_, m2⟩
        · show fk_wf (z.1 ||| _) w = true
          rw [gb w hw1, hr w hw1 hw2, Bool.true_or]
        · have hne : w ≠ g := fun q => by subst q; rw [hZ.2.2.1 w hg] at hw2; cases hw2
          obtain ⟨b1, b2, b3⟩ := m3 w hne
          exact ⟨b1.symm, b3.symm⟩
      · rw [decide_eq_false e, Bool.or_false] at hw
        obtain ⟨a1, Z, a2, a3, a4⟩ := h3 f hf hw
        refine ⟨fun w hw1 hw2 => ?_, Z, a2, fun w hw1 hw2 => ?_, ?_⟩
        · show fk_wf (z.1 ||| _) w = true
          rw [gb w hw1, a1 w hw1 hw2, Bool.true_or]
        · have hne : w ≠ g := fun q => by subst q; rw [a1 w hw1 hw2] at hk; cases hk
          obtain ⟨b1, b2, b3⟩ := m3 w hne
          obtain ⟨c1, c2⟩ := a3 w hw1 hw2
          exact ⟨c1.trans b1.symm, c2.trans b3.symm⟩
        · obtain ⟨b1, b2, b3⟩ := m3 f (fun q => e q.symm)
          exact a4.to b1 b2 b3
    · show fk_wf (z.1 ||| _) f = true
      rw [gb f hf, hw, Bool.true_or]
    · show fk_wf (z.1 ||| _) g = true
      rw [gb g (by omega), decide_eq_true rfl, Bool.or_true]
theorem z_ict (hn : n ≤ 12) (hZ : z_Z n (R 97)) {z : Int32 × fk_M} (h : z_Ir n ck Np bb sp sl R z) : ∀ m, m ≤ n → z_Ir n ck Np bb sp sl R (fk_ict ck Np bb sp sl z m) ∧ (∀ f, f < 12 → fk_wf z.1 f = true → fk_wf (fk_ict ck Np bb sp sl z m).1 f = true) ∧ ∀ f, f < m → (∀ w, w < 12 → fk_wf (R 97 f) w = true → fk_wf z.1 w = true) → fk_wf (fk_ict ck Np bb sp sl z m).1 f = true := by
  intro m
  induction m with
  | zero => intro _; exact ⟨h, fun _ _ h => h, fun f hf => by omega⟩
  | succ m ih =>
    intro hm
    obtain ⟨g1, g2, g3⟩ := ih (by omega)
    obtain ⟨k1, k2, k3⟩ := z_ib hn hZ g1 (g := m) (by omega)
    refine ⟨k1, fun f hf hw => k2 f hf (g2 f hf hw), fun f hf hw => ?_⟩
    by_cases e : f = m
    · subst e
      exact k3 (fun w h1 h2 => g2 w h1 (hw w h1 h2))
    · exact k2 f (by omega) (g3 f (by omega) hw)
theorem z_id (hn : n ≤ 12) (hZ : z_Z n (R 97)) {z : Int32 × fk_M} (h : z_Ir n ck Np bb sp sl R z) : ∀ r, z_Ir n ck Np bb sp sl R (fk_id n ck Np bb sp sl z r) ∧ ∀ f, f < n → fk_pc (R 97 f) n < r → fk_wf (fk_id n ck Np bb sp sl z r).1 f = true := by
  intro r
  induction r with
  | zero => exact ⟨h, fun f _ hf => by omega⟩
  | succ r ih =>
    obtain ⟨g1, g2⟩ := ih
    obtain ⟨k1, k2, k3⟩ := z_ict hn hZ g1 n (Nat.le_refl _)
    refine ⟨k1, fun f hf hp => k3 f hf (fun w h1 h2 => ?_)⟩
    obtain ⟨l1, l2⟩ := hZ.lt hn hf h1 h2
    exact g2 w l1 (by omega)
/-- all flows of an instant, reckoned -/
theorem z_rounds (hn : n ≤ 12) (hZ : z_Z n (R 97)) {R1 : fk_M} (hR1 : R1 = (fk_id n ck Np bb sp sl (nI 0, fk_p0 R n) n).2) : z_Fi R R1 ∧ ∀ f, f < n → ∃ Z : fk_M, z_Fi R Z ∧ (∀ w, w < 12 → fk_wf (R 97 f) w = true → Z 94 w = R1 94 w ∧ Z 96 w = R1 96 w) ∧ z_res ck Np bb sp sl R Z R1 f := by
  have h0 : z_Ir n ck Np bb sp sl R (nI 0, fk_p0 R n) := by
    refine ⟨⟨fun q a b c d e g => va_up_ne _ _ d, fun t a b => ?_⟩, fun f hf _ => ⟨?_, ?_, ?_⟩, fun f hf hw => ?_⟩
    · show va_up R 96 (fk_fl (R 96) n 0) 89 t = _
      rw [va_up_ne _ _ (by decide)]
    · show va_up R 96 (fk_fl (R 96) n 0) 94 f = _
      rw [va_up_ne _ _ (by decide)]
    · show va_up R 96 (fk_fl (R 96) n 0) 95 f = _
      rw [va_up_ne _ _ (by decide)]
    · show va_up R 96 (fk_fl (R 96) n 0) 96 f = _
      rw [va_up_self]
      exact fk_fl_lt hf
    · have hw : fk_wf (nI 0) f = true := hw
      rw [z_wf0 (by omega)] at hw
      cases hw
  obtain ⟨g1, g2⟩ := z_id hn hZ h0 n
  rw [hR1]
  refine ⟨g1.1, fun f hf => ?_⟩
  have hp : fk_pc (R 97 f) n < n := by
    have hle := fk_pc_le (R 97 f) n
    by_cases e : fk_pc (R 97 f) n = n
    · have := z_pc_all n e f hf
      rw [hZ.2.2.1 f hf] at this
      cases this
    · omega
  obtain ⟨-, Z, a2, a3, a4⟩ := g1.2.2 f hf (g2 f hf hp)
  exact ⟨Z, a2, a3, a4⟩
end
