/-! arrange: the same order; the turns go along the waits. -/
/-- masks that are closed and without a circle -/
def z_Z (n : Nat) (A : Nat → Int32) : Prop := (∀ a, a < n → z_sm (A a)) ∧ (∀ a k j, a < n → k < n → j < 12 → fk_wf (A a) k = true → fk_wf (A k) j = true → fk_wf (A a) j = true) ∧ (∀ a, a < n → fk_wf (A a) a = false) ∧ ∀ a j, a < n → j < 12 → fk_wf (A a) j = true → j < n
/-- the turns so far -/
def z_T (n : Nat) (A : Nat → Int32) (k : Nat) (pl : Int32) (W : Nat → Int32) : Prop := (∀ t, t < k → ∃ f, f < n ∧ W t = nI f ∧ fk_wf pl f = true) ∧ (∀ f, f < n → fk_wf pl f = true → ∃ t, t < k ∧ W t = nI f) ∧ ∀ t f, t < k → f < n → W t = nI f → (∀ j, j < 12 → fk_wf (A f) j = true → ∃ s, s < t ∧ W s = nI j) ∧ ∀ s, s < t → ¬ W s = nI f
theorem z_pc_le {u v : Int32} : ∀ n, (∀ j, j < n → fk_wf u j = true → fk_wf v j = true) → fk_pc u n ≤ fk_pc v n := by
  intro n
  induction n with
  | zero => intro _; exact Nat.le_refl _
  | succ n ih =>
    intro h
    have h1 := ih (fun j hj => h j (by omega))
    have h2 := h n (by omega)
    show fk_pc u n + (fk_wf u n).toNat ≤ fk_pc v n + (fk_wf v n).toNat
    cases hu : fk_wf u n
    · simp; omega
    · rw [h2 hu]; omega
theorem z_pc_lt {u v : Int32} {k : Nat} (hv : fk_wf v k = true) (hu : fk_wf u k = false) : ∀ n, k < n → (∀ j, j < n → fk_wf u j = true → fk_wf v j = true) → fk_pc u n < fk_pc v n := by
  intro n
  induction n with
  | zero => intro h; omega
  | succ n ih =>
    intro hk h
    have h2 := h n (by omega)
    show fk_pc u n + (fk_wf u n).toNat < fk_pc v n + (fk_wf v n).toNat
    by_cases e : k = n
    · subst e
      have h1 := z_pc_le (u := u) (v := v) k (fun j hj => h j (by omega))
      rw [hv, hu]
      simp
      omega
    · have h1 := ih (by omega) (fun j hj => h j (by omega))
      cases hq : fk_wf u n
      · simp; omega
      · rw [h2 hq]; omega
theorem z_pc_un {v : Int32} : ∀ n, fk_pc v n < n → ∃ f, f < n ∧ fk_wf v f = false := by
  intro n
  induction n with
  | zero => intro h; omega
  | succ n ih =>
    intro h
    have h : fk_pc v n + (fk_wf v n).toNat < n + 1 := h
    cases hw : fk_wf v n
    · exact ⟨n, by omega, hw⟩
    · rw [hw] at h
      simp at h
      obtain ⟨f, h1, h2⟩ := ih (by omega)
      exact ⟨f, by omega, h2⟩
theorem z_pc_all {v : Int32} : ∀ n, fk_pc v n = n → ∀ f, f < n → fk_wf v f = true := by
  intro n
  induction n with
  | zero => intro _ f hf; omega
  | succ n ih =>
    intro h f hf
    have h : fk_pc v n + (fk_wf v n).toNat = n + 1 := h
    have hle := fk_pc_le v n
    cases hw : fk_wf v n
    · rw [hw] at h
      simp at h
      omega
    · rw [hw] at h
      simp at h
      by_cases e : f = n
      · rw [e]; exact hw
      · exact ih h f (by omega)
section
variable {n : Nat} {A : Nat → Int32}
theorem z_Z.lt (hZ : z_Z n A) (hn : n ≤ 12) {a k : Nat} (ha : a < n) (hk : k < 12) (h : fk_wf (A a) k = true) : k < n ∧ fk_pc (A k) n < fk_pc (A a) n := by
  have hkn := hZ.2.2.2 a k ha hk h
  exact ⟨hkn, z_pc_lt h (hZ.2.2.1 k hkn) n hkn (fun j hj hw => hZ.2.1 a k j ha hkn (by omega) h hw)⟩
/-- while not all are placed one is ready -/
theorem z_min (hZ : z_Z n A) (hn : n ≤ 12) {pl : Int32} : ∀ m f, f < n → fk_wf pl f = false → fk_pc (A f) n ≤ m → ∃ g, g < n ∧ fk_wf pl g = false ∧ ∀ j, j < 12 → fk_wf (A g) j = true → fk_wf pl j = true := by
  intro m
  induction m with
  | zero =>
    intro f hf hw hm
    refine ⟨f, hf, hw, fun j hj hj2 => ?_⟩
    have := (hZ.lt hn hf hj hj2).2
    omega
  | succ m ih =>
    intro f hf hw hm
    by_cases hx : ∃ j, j < 12 ∧ fk_wf (A f) j = true ∧ fk_wf pl j = false
    · obtain ⟨j, j1, j2, j3⟩ := hx
      have h1 := hZ.lt hn hf j1 j2
      exact ih j h1.1 j3 (by omega)
    · refine ⟨f, hf, hw, fun j hj hj2 => ?_⟩
      cases hp : fk_wf pl j
      · exact absurd ⟨j, hj, hj2, hp⟩ hx
      · rfl
/-- an input is placed once the equations it waits for are -/
theorem z_inp (hZ : z_Z n A) (hn : n ≤ 12) {pl : Int32} {I : Nat → Prop} (hno : ∀ i, i < n → fk_wf pl i = false → I i → ¬ ∀ j, j < 12 → fk_wf (A i) j = true → fk_wf pl j = true) : ∀ m j, j < n → I j → fk_pc (A j) n ≤ m → (∀ k, k < 12 → fk_wf (A j) k = true → ¬ I k → fk_wf pl k = true) → fk_wf pl j = true := by
  intro m
  induction m with
  | zero =>
    intro j hj hI hm hk
    cases hp : fk_wf pl j
    · exact absurd (fun k hk1 hk2 => by have := (hZ.lt hn hj hk1 hk2).2; omega) (hno j hj hp hI)
    · rfl
  | succ m ih =>
    intro j hj hI hm hk
    cases hp : fk_wf pl j
    · refine absurd (fun k hk1 hk2 => ?_) (hno j hj hp hI)
      obtain ⟨l1, l2⟩ := hZ.lt hn hj hk1 hk2
      by_cases hIk : I k
      · exact ih k l1 hIk (by omega) (fun q q1 q2 q3 => hk q q1 (hZ.2.1 j k q hj l1 q1 hk2 q2) q3)
      · exact hk k hk1 hk2 hIk
    · rfl
theorem z_lr {M : fk_M} {t : Nat} {pl : Int32} : ∀ d i, (∀ j, fk_lr M t pl d i = some j → i ≤ j ∧ j < i + d ∧ fk_rd M t pl j = true) ∧ (fk_lr M t pl d i = none → ∀ j, i ≤ j → j < i + d → ¬ fk_rd M t pl j = true) := by
  intro d
  induction d with
  | zero => intro i; exact ⟨fun j h => (by cases h), fun _ j h1 h2 => by omega⟩
  | succ d ih =>
    intro i
    have e : fk_lr M t pl (d + 1) i = if fk_rd M t pl i = true then some i else fk_lr M t pl d (i + 1) := rfl
    rw [e]
    by_cases h : fk_rd M t pl i = true
    · rw [if_pos h]
      refine ⟨fun j hj => ?_, fun q => by cases q⟩
      cases hj
      exact ⟨Nat.le_refl _, by omega, h⟩
    · rw [if_neg h]
      obtain ⟨g1, g2⟩ := ih (i + 1)
      refine ⟨fun j hj => ?_, fun hne j h1 h2 => ?_⟩
      · obtain ⟨a1, a2, a3⟩ := g1 j hj
        exact ⟨by omega, by omega, a3⟩
      · by_cases e : j = i
        · subst e; exact h
        · exact g2 hne j (by omega) (by omega)
theorem z_lr_ls {M : fk_M} {pl dn : Int32} : ∀ d i, (∀ j, i ≤ j → j < i + d → (fk_rd M 0 pl j = true ↔ ((dn >>> (nI j &&& 31)) &&& nI 1 = 0 ∧ A j &&& (dn ^^^ (-1)) = 0))) → fk_lr M 0 pl d i = fk_ls A dn d i := by
  intro d
  induction d with
  | zero => intro i _; rfl
  | succ d ih =>
    intro i h
    have e : fk_lr M 0 pl (d + 1) i = if fk_rd M 0 pl i = true then some i else fk_lr M 0 pl d (i + 1) := rfl
    have h0 := h i (Nat.le_refl _) (by omega)
    rw [e, fk_ls_S, ih (i + 1) (fun j h1 h2 => h j (by omega) (by omega))]
    by_cases hr : fk_rd M 0 pl i = true
    · rw [if_pos hr, if_pos (h0.mp hr)]
    · rw [if_neg hr, if_neg (fun q => hr (h0.mpr q))]
theorem z_rd {M : fk_M} {t : Nat} {pl : Int32} {i : Nat} (hi : i < 12) (hs : z_sm (M 76 i)) : fk_rd M t pl i = true ↔ fk_wf pl i = false ∧ M (3 + 6 * i) 2 = nI t ∧ ∀ j, j < 12 → fk_wf (M 76 i) j = true → fk_wf pl j = true := by
  unfold fk_rd
  rw [decide_eq_true_eq, fk_wf0 hi, z_ready hs]
theorem z_pk_1 {M : fk_M} {pl : Int32} {j : Nat} (h : fk_lr M 1 pl n 0 = some j) : fk_pk M n pl = some j := by
  unfold fk_pk
  rw [h]
theorem z_pk_0 {M : fk_M} {pl : Int32} (h : fk_lr M 1 pl n 0 = none) : fk_pk M n pl = fk_lr M 0 pl n 0 := by
  unfold fk_pk
  rw [h]
theorem z_ag_s {M : fk_M} {pl : Int32} {d k o j : Nat} (h : fk_pk M n pl = some j) : fk_ag n (d + 1) k o pl M = if M (3 + 6 * j) 2 = 0 then fk_ag n d (k + 1) (o + 1) (pl ||| (nI 1 <<< (nI j &&& 31))) (va_up (va_up (va_up M 78 (upd (M 78) k (nI j))) 77 (upd (M 77) o (nI j))) 75 (upd (M 75) 3 (nI (o + 1))))
      else fk_ag n d (k + 1) o (pl ||| (nI 1 <<< (nI j &&& 31))) (va_up M 78 (upd (M 78) k (nI j))) := by
  show (match fk_pk M n pl with | none => M | some j => _) = _
  rw [h]
theorem z_T.add {k : Nat} {pl : Int32} {W : Nat → Int32} (h : z_T n A k pl W) (hn : n ≤ 12) {j : Nat} (hj : j < n) (hp : fk_wf pl j = false) (hw : ∀ q, q < 12 → fk_wf (A j) q = true → q < n ∧ fk_wf pl q = true) : z_T n A (k + 1) (pl ||| (nI 1 <<< (nI j &&& 31))) (upd W k (nI j)) := by
  obtain ⟨h1, h2, h3⟩ := h
  have hb : ∀ f, f < n → fk_wf (pl ||| (nI 1 <<< (nI j &&& 31))) f = (fk_wf pl f || decide (j = f)) := fun f hf => by rw [fk_wf_or _ _ (by omega), fk_wf_1 (by omega) (by omega)]
  refine ⟨fun t ht => ?_, fun f hf hw2 => ?_, fun t f ht hf hW => ?_⟩
  · by_cases e : t = k
    · subst e
      exact ⟨j, hj, pk_us, by rw [hb j hj, decide_eq_true rfl, Bool.or_true]⟩
    · obtain ⟨f, f1, f2, f3⟩ := h1 t (by omega)
      exact ⟨f, f1, by rw [pk_un e]; exact f2, by rw [hb f f1, f3, Bool.true_or]⟩
  · by_cases e : j = f
    · subst e
      exact ⟨k, by omega, pk_us⟩
    · rw [hb f hf, decide_eq_false e, Bool.or_false] at hw2
      obtain ⟨t, t1, t2⟩ := h2 f hf hw2
      exact ⟨t, by omega, by rw [pk_un (by omega)]; exact t2⟩
  · by_cases e : t = k
    · subst e
      rw [pk_us] at hW
      have ejf : j = f := by
        have := congrArg Int32.toNatClampNeg hW
        rw [nI_clamp (by omega), nI_clamp (by omega)] at this
        exact this
      subst ejf
      refine ⟨fun q hq hq2 => ?_, fun s hs hW2 => ?_⟩
      · obtain ⟨q3, q4⟩ := hw q hq hq2
        obtain ⟨s, s1, s2⟩ := h2 q q3 q4
        exact ⟨s, s1, by rw [pk_un (by omega)]; exact s2⟩
      · rw [pk_un (by omega)] at hW2
        obtain ⟨f, f1, f2, f3⟩ := h1 s hs
        rw [f2] at hW2
        have := congrArg Int32.toNatClampNeg hW2
        rw [nI_clamp (by omega), nI_clamp (by omega)] at this
        subst this
        rw [f3] at hp
        cases hp
    · rw [pk_un e] at hW
      obtain ⟨a1, a2⟩ := h3 t f (by omega) hf hW
      refine ⟨fun q hq hq2 => ?_, fun s hs => by rw [pk_un (by omega)]; exact a2 s hs⟩
      obtain ⟨s, s1, s2⟩ := a1 q hq hq2
      exact ⟨s, s1, by rw [pk_un (by omega)]; exact s2⟩
theorem z_ag (hZ : z_Z n A) (hn : n ≤ 12) {In : Nat → Int32} (hIn : ∀ f, f < n → In f = 0 ∨ In f = 1) : ∀ d k o pl M dn e O, k + d = n → (∀ a, a < n → M 76 a = A a) → (∀ f, f < n → M (3 + 6 * f) 2 = In f) → fk_pc pl n = k → (∀ f, f < n → (fk_wf dn f = true ↔ (fk_wf pl f = true ∨ ¬ In f = 0))) → d + 1 ≤ e → o ≤ k → (∀ i, i < o → M 77 i = O i) → M 75 3 = nI o → z_T n A k pl (M 78) →
    ∃ O' o' pl', fk_ao A n e dn o O = (O', o') ∧ fk_ag n d k o pl M 75 3 = nI o' ∧ o' ≤ n ∧ (∀ i, i < o' → fk_ag n d k o pl M 77 i = O' i) ∧ z_T n A n pl' (fk_ag n d k o pl M 78) ∧ (∀ f, f < n → fk_wf pl' f = true) ∧ ∀ q, q ≠ 75 → q ≠ 77 → q ≠ 78 → fk_ag n d k o pl M q = M q := by
  intro d
  induction d with
  | zero =>
    intro k o pl M dn e O hk h76 hI hpc hdn he ho hO h75 hT
    have hkn : k = n := by omega
    subst hkn
    have hall := z_pc_all k hpc
    obtain ⟨e', rfl⟩ : ∃ e', e = e' + 1 := ⟨e - 1, by omega⟩
    have hls : fk_ls A dn k 0 = none := by
      have : ∀ d i, i + d ≤ k → fk_ls A dn d i = none := by
        intro d
        induction d with
        | zero => intro i _; rfl
        | succ d ih =>
          intro i hi
          rw [fk_ls_S, if_neg (fun q => ?_)]
          · exact ih (i + 1) (by omega)
          · have q1 := (fk_wf0 (v := dn) (j := i) (by omega)).mp q.1
            rw [(hdn i (by omega)).mpr (Or.inl (hall i (by omega)))] at q1
            cases q1
      exact this k 0 (by omega)
    exact ⟨O, o, pl, fk_ao_n hls, h75, by omega, hO, hT, hall, fun _ _ _ _ => rfl⟩
  | succ d ih =>
    intro k o pl M dn e O hk h76 hI hpc hdn he ho hO h75 hT
    have hsm : ∀ i, i < n → z_sm (M 76 i) := fun i hi => by rw [h76 i hi]; exact hZ.1 i hi
    have hrd : ∀ t i, i < n → (fk_rd M t pl i = true ↔ fk_wf pl i = false ∧ In i = nI t ∧ ∀ j, j < 12 → fk_wf (A i) j = true → fk_wf pl j = true) := fun t i hi => by
      rw [z_rd (by omega) (hsm i hi), hI i hi, h76 i hi]
    obtain ⟨f0, hf0, hf1⟩ := z_pc_un (v := pl) n (by omega)
    obtain ⟨g, g1, g2, g3⟩ := z_min hZ hn _ f0 hf0 hf1 (Nat.le_refl _)
    have hbit : ∀ j f, j < n → f < n → fk_wf (pl ||| (nI 1 <<< (nI j &&& 31))) f = (fk_wf pl f || decide (j = f)) := fun j f hj hf => by rw [fk_wf_or _ _ (by omega), fk_wf_1 (by omega) (by omega)]
    have hpc' : ∀ j, j < n → fk_wf pl j = false → fk_pc (pl ||| (nI 1 <<< (nI j &&& 31))) n = k + 1 := fun j hj hw => by
      rw [fk_pc_or hw n hn (by omega), hpc, decide_eq_true hj]
      rfl
    have n01 : ¬ (1 : Int32) = 0 := by decide
    cases h1 : fk_lr M 1 pl n 0 with
    | some j =>
      obtain ⟨-, j2, j3⟩ := (z_lr n 0).1 j h1
      have j2 : j < n := by omega
      obtain ⟨r1, r2, r3⟩ := (hrd 1 j j2).mp j3
      have hIj : ¬ In j = 0 := by rw [r2]; decide
      rw [z_ag_s (z_pk_1 h1), if_neg (by rw [hI j j2]; exact hIj)]
      obtain ⟨O', o', pl', c1, c2, c3, c4, c5, c6, c7⟩ := ih (k + 1) o (pl ||| (nI 1 <<< (nI j &&& 31))) (va_up M 78 (upd (M 78) k (nI j))) dn e O (by omega) (fun a ha => by rw [va_up_ne _ _ (by decide)]; exact h76 a ha) (fun f hf => by rw [va_up_ne _ _ (by omega)]; exact hI f hf) (hpc' j j2 r1) (fun f hf => by
        rw [hdn f hf, hbit j f j2 hf, Bool.or_eq_true, decide_eq_true_eq]
        constructor
        · rintro (q | q)
          · exact Or.inl (Or.inl q)
          · exact Or.inr q
        · rintro ((q | q) | q)
          · exact Or.inl q
          · subst q; exact Or.inr hIj
          · exact Or.inr q) (by omega) (by omega) (fun i hi => by rw [va_up_ne _ _ (by decide)]; exact hO i hi) (by rw [va_up_ne _ _ (by decide)]; exact h75) (by
        rw [va_up_self]
        exact hT.add hn j2 r1 (fun q q1 q2 => ⟨hZ.2.2.2 j q j2 q1 q2, r3 q q1 q2⟩))
      exact ⟨O', o', pl', c1, c2, c3, c4, c5, c6, fun q q1 q2 q3 => by rw [c7 q q1 q2 q3, va_up_ne _ _ q3]⟩
    | none =>
      have hno := (z_lr n 0).2 h1
      have hno2 : ∀ i, i < n → fk_wf pl i = false → ¬ In i = 0 → ¬ ∀ j, j < 12 → fk_wf (A i) j = true → fk_wf pl j = true := fun i hi hw hi0 hall => by
        refine hno i (Nat.zero_le _) (by omega) ((hrd 1 i hi).mpr ⟨hw, ?_, hall⟩)
        rcases hIn i hi with q | q
        · exact absurd q hi0
        · rw [q]; decide
      have hls : fk_lr M 0 pl n 0 = fk_ls A dn n 0 := by
        refine z_lr_ls n 0 (fun j _ hj => ?_)
        have hj : j < n := by omega
        rw [hrd 0 j hj, fk_wf0 (by omega), z_ready (hZ.1 j hj)]
        constructor
        · rintro ⟨q1, q2, q3⟩
          refine ⟨?_, fun i hi hw => (hdn i (hZ.2.2.2 j i hj hi hw)).mpr (Or.inl (q3 i hi hw))⟩
          cases hd9 : fk_wf dn j
          · rfl
          · rcases (hdn j hj).mp hd9 with q | q
            · rw [q1] at q; cases q
            · rw [q2] at q; exact absurd nI_0 q
        · rintro ⟨q1, q2⟩
          have hpj : fk_wf pl j = false := by
            cases hp : fk_wf pl j
            · rfl
            · rw [(hdn j hj).mpr (Or.inl hp)] at q1; cases q1
          have hIj : In j = 0 := Decidable.byContradiction (fun q => by rw [(hdn j hj).mpr (Or.inr q)] at q1; cases q1)
          refine ⟨hpj, by rw [hIj]; exact nI_0.symm, fun i hi hw => ?_⟩
          have hin := hZ.2.2.2 j i hj hi hw
          rcases (hdn i hin).mp (q2 i hi hw) with q | q
          · exact q
          · refine z_inp hZ hn (I := fun i => ¬ In i = 0) hno2 _ i hin q (Nat.le_refl _) (fun m hm hm2 hm3 => ?_)
            have hmj := hZ.2.1 j i m hj hin hm hw hm2
            have hmn := hZ.2.2.2 j m hj hm hmj
            exact ((hdn m hmn).mp (q2 m hm hmj)).elim id (fun q => absurd q hm3)
      cases h0 : fk_lr M 0 pl n 0 with
      | none =>
        have hno0 := (z_lr n 0).2 h0
        exfalso
        rcases hIn g g1 with q | q
        · exact hno0 g (Nat.zero_le _) (by omega) ((hrd 0 g g1).mpr ⟨g2, by rw [q]; exact nI_0.symm, g3⟩)
        · exact hno2 g g1 g2 (by rw [q]; decide) g3
      | some j =>
        obtain ⟨-, j2, j3⟩ := (z_lr n 0).1 j h0
        have j2 : j < n := by omega
        obtain ⟨r1, r2, r3⟩ := (hrd 0 j j2).mp j3
        have hIj : In j = 0 := by rw [r2]; exact nI_0
        rw [h0] at hls
        obtain ⟨e', rfl⟩ : ∃ e', e = e' + 1 := ⟨e - 1, by omega⟩
        rw [z_ag_s ((z_pk_0 h1).trans h0), if_pos (by rw [hI j j2]; exact hIj), fk_ao_s hls.symm]
        obtain ⟨O', o', pl', c1, c2, c3, c4, c5, c6, c7⟩ := ih (k + 1) (o + 1) (pl ||| (nI 1 <<< (nI j &&& 31))) (va_up (va_up (va_up M 78 (upd (M 78) k (nI j))) 77 (upd (M 77) o (nI j))) 75 (upd (M 75) 3 (nI (o + 1)))) (dn ||| (nI 1 <<< (nI j &&& 31))) e' (upd O o (nI j)) (by omega) (fun a ha => by rw [va_up_ne _ _ (by decide), va_up_ne _ _ (by decide), va_up_ne _ _ (by decide)]; exact h76 a ha) (fun f hf => by rw [va_up_ne _ _ (by omega), va_up_ne _ _ (by omega), va_up_ne _ _ (by omega)]; exact hI f hf) (hpc' j j2 r1) (fun f hf => by
          rw [hbit j f j2 hf, fk_wf_or _ _ (by omega), fk_wf_1 (by omega) (by omega), Bool.or_eq_true, Bool.or_eq_true, decide_eq_true_eq, hdn f hf]
          constructor
          · rintro ((q | q) | q)
            · exact Or.inl (Or.inl q)
            · exact Or.inr q
            · exact Or.inl (Or.inr q)
          · rintro ((q | q) | q)
            · exact Or.inl (Or.inl q)
            · exact Or.inr q
            · exact Or.inl (Or.inr q)) (by omega) (by omega) (fun i hi => by
          rw [va_up_ne _ _ (by decide), va_up_self]
          by_cases e9 : i = o
          · subst e9; rw [pk_us, pk_us]
          · rw [pk_un e9, pk_un e9]; exact hO i (by omega)) (by rw [va_up_self, pk_us]) (by
          rw [va_up_ne _ _ (by decide), va_up_ne _ _ (by decide), va_up_self]
          exact hT.add hn j2 r1 (fun q q1 q2 => ⟨hZ.2.2.2 j q j2 q1 q2, r3 q q1 q2⟩))
        exact ⟨O', o', pl', c1, c2, c3, c4, c5, c6, fun q q1 q2 q3 => by rw [c7 q q1 q2 q3, va_up_ne _ _ q1, va_up_ne _ _ q2, va_up_ne _ _ q3]⟩
theorem z_dn {inp : Nat → Int32} {f : Nat} (hf : f < 12) : ∀ m, m ≤ 12 → (fk_wf (fk_dn inp m) f = true ↔ f < m ∧ ¬ inp f = 0) := by
  intro m
  induction m with
  | zero =>
    intro _
    have h : ∀ f : Fin 12, fk_wf (nI 0) f.1 = false := by decide +kernel
    show fk_wf (nI 0) f = true ↔ _
    rw [h ⟨f, hf⟩]
    exact ⟨fun q => (by cases q), fun q => by omega⟩
  | succ m ih =>
    intro hm
    rw [fk_dn_S]
    by_cases h : inp m = 0
    · rw [if_pos h, ih (by omega)]
      constructor
      · intro q; exact ⟨by omega, q.2⟩
      · intro q
        by_cases e : f = m
        · subst e; exact absurd h q.2
        · exact ⟨by omega, q.2⟩
    · rw [if_neg h, fk_wf_or _ _ hf, fk_wf_1 (by omega) hf, Bool.or_eq_true, ih (by omega), decide_eq_true_eq]
      constructor
      · rintro (q | q)
        · exact ⟨by omega, q.2⟩
        · subst q; exact ⟨by omega, h⟩
      · intro q
        by_cases e : m = f
        · exact Or.inr e
        · exact Or.inl ⟨by omega, q.2⟩
end
