/-! The relation of class and reference between two calls. -/
/-- equations: the class's trees, the reference's parts -/
def fk_R1 (n : Nat) (ck P sz Np : Nat → Nat) (bb sp sl : Nat → Nat → Nat) (M : fk_M) : Prop :=
  fk_Sh n ck P sz bb M ∧ fk_RS M n ck sz Np bb sp sl ∧ ∀ f, f < n → 0 < sz f → sp f 0 = 0 ∧ (∀ p, p < Np f → sp f (p + 1) = sp f p + fk_hd (bb f (sp f p))) ∧ sp f (Np f) = sz f
/-- the draft -/
def fk_R2 (P : Nat → Nat) (x dl : Nat) (db : Nat → Nat) (M : fk_M) : Prop :=
  fk_X x ∧ M 0 4 = nI x ∧ (∀ j, j < 12 → P j ≠ x) ∧ (∀ i j, i < 12 → j < 12 → P i = P j → i = j) ∧ M x 4 = nI dl ∧ M 89 19 = nI dl ∧ dl ≤ 40 ∧ (∀ i, i < dl → M (x + 1) i = nI (db i) ∧ M 106 i = nI (db i) ∧ db i < 256) ∧ ∀ i, i < 40 → ∃ q, q < 25 ∧ M (x + 3) i = nI q
/-- flows -/
def fk_R3 (n : Nat) (ck sz : Nat → Nat) (M : fk_M) : Prop :=
  (∀ f, f < 12 → M (3 + 6 * f) 1 = M 90 f ∧ M (3 + 6 * f) 2 = M 91 f ∧ M (3 + 6 * f) 4 = M 93 f ∧ M 98 f = nI (sz f) ∧ (n ≤ f → sz f = 0 ∧ M (3 + 6 * f) 4 = 0 ∧ M 99 f = 0)) ∧
  (∀ f, f < n → ck f = 0 ∨ ((ck f - 1) / 2 < f ∧ ¬ M (3 + 6 * ((ck f - 1) / 2)) 1 = 0)) ∧ ∀ f, f < n → ¬ M (3 + 6 * f) 1 = 0 → M (3 + 6 * f) 4 = 0 ∨ M (3 + 6 * f) 4 = 1
/-- the check's outcome and what the instants left -/
def fk_R4 (n : Nat) (ck : Nat → Nat) (M : fk_M) : Prop :=
  M 79 4 = M 89 23 ∧ M 79 5 = M 89 24 ∧ M 79 6 = M 89 25 ∧ M 83 0 = M 89 22 ∧
  (∀ f, f < n → M 95 f = M 83 (ck f) ∧ M (3 + 6 * f) 5 = M 96 f ∧ (M 96 f = 0 ∨ M 96 f = 1) ∧ (¬ M 95 f = 0 → M (3 + 6 * f) 6 = M 94 f)) ∧
  ∃ o, o ≤ 12 ∧ M 89 27 = nI o ∧ (¬ M 79 4 = 0 → M 75 3 = nI o ∧ ∀ i, i < o → M 77 i = M 108 i)
/-- what a passed check leaves, of a shape -/
abbrev fk_Gt := Nat → (Nat → Nat) → (Nat → Nat) → (Nat → Nat) → (Nat → Nat) → (Nat → Nat → Nat) → (Nat → Nat → Nat) → (Nat → Nat → Nat) → fk_M → Prop
def fk_Rel (Gd : fk_Gt) (M : fk_M) : Prop :=
  ∃ (n : Nat) (ck P sz Np : Nat → Nat) (bb sp sl : Nat → Nat → Nat) (x dl : Nat) (db : Nat → Nat), fk_R1 n ck P sz Np bb sp sl M ∧ fk_R2 P x dl db M ∧ fk_R3 n ck sz M ∧ fk_R4 n ck M ∧ (¬ M 79 4 = 0 → Gd n ck P sz Np bb sp sl M)
/-- what type, set and a call that throws may change: the draft x, hosts, scratch -/
def fk_Ag (x : Nat) (M M' : fk_M) : Prop :=
  (∀ k, k ≠ x → k ≠ x + 1 → k ≠ x + 2 → k ≠ 89 → k ≠ 93 → k ≠ 106 → k ≠ 107 → k ≠ 109 → (∀ j, j < 12 → k ≠ 3 + 6 * j) → M' k = M k) ∧ (∀ j, j < 12 → ∀ t, t ≠ 4 → M' (3 + 6 * j) t = M (3 + 6 * j) t) ∧ ∀ t, t ≠ 0 → t ≠ 19 → t ≠ 21 → t ≠ 29 → M' 89 t = M 89 t
/-- that stays true under such changes -/
def fk_Gs (Gd : fk_Gt) : Prop := ∀ (n : Nat) (ck P sz Np : Nat → Nat) (bb sp sl : Nat → Nat → Nat) (x : Nat) (M M' : fk_M), fk_R1 n ck P sz Np bb sp sl M → fk_X x → (∀ j, j < 12 → P j ≠ x) → Gd n ck P sz Np bb sp sl M → fk_Ag x M M' → Gd n ck P sz Np bb sp sl M'
theorem fk_Ag.rf (x : Nat) (M : fk_M) : fk_Ag x M M := ⟨fun _ _ _ _ _ _ _ _ _ _ => rfl, fun _ _ _ _ => rfl, fun _ _ _ _ _ => rfl⟩
theorem fk_Ag.tr {x : Nat} {M M1 M2 : fk_M} (h : fk_Ag x M M1) (h' : fk_Ag x M1 M2) : fk_Ag x M M2 :=
  ⟨fun k a1 a2 a3 a4 a5 a6 a7 a8 a9 => (h'.1 k a1 a2 a3 a4 a5 a6 a7 a8 a9).trans (h.1 k a1 a2 a3 a4 a5 a6 a7 a8 a9), fun j hj t ht => (h'.2.1 j hj t ht).trans (h.2.1 j hj t ht), fun t a b c d => (h'.2.2 t a b c d).trans (h.2.2 t a b c d)⟩
theorem fk_Ag.up {x : Nat} {M M1 : fk_M} (h : fk_Ag x M M1) {k : Nat} (hk : k = 93 ∨ k = 106 ∨ k = 107 ∨ k = 109 ∨ k = x ∨ k = x + 1 ∨ k = x + 2) (hX : fk_X x) (w : Nat → Int32) : fk_Ag x M (va_up M1 k w) := by
  have h8 := fk_X83 hX (i := 0) (by decide)
  have h9 := fk_X83 hX (i := 1) (by decide)
  have h10 := fk_X83 hX (i := 2) (by decide)
  refine ⟨fun q a1 a2 a3 a4 a5 a6 a7 a8 a9 => ?_, fun j hj t ht => ?_, fun t a b c d => ?_⟩
  · rw [va_up_ne _ _ (by omega)]
    exact h.1 q a1 a2 a3 a4 a5 a6 a7 a8 a9
  · have hx4 := fk_X4 hX hj
    rw [va_up_ne _ _ (by rcases hk with rfl | rfl | rfl | rfl | rfl | rfl | rfl <;> first | omega | exact fun e => hx4.2.2.2.2 e.symm | exact fun e => hx4.2.2.2.1 e.symm | exact fun e => hx4.2.2.1 e.symm)]
    exact h.2.1 j hj t ht
  · rw [va_up_ne _ _ (by omega)]
    exact h.2.2 t a b c d
theorem fk_Ag.up89 {x : Nat} {M M1 : fk_M} (h : fk_Ag x M M1) (hX : fk_X x) {t : Nat} (ht : t = 0 ∨ t = 19 ∨ t = 21 ∨ t = 29) (v : Int32) : fk_Ag x M (va_up M1 89 (upd (M1 89) t v)) := by
  refine ⟨fun q a1 a2 a3 a4 a5 a6 a7 a8 a9 => ?_, fun j hj u hu => ?_, fun u a b c d => ?_⟩
  · rw [va_up_ne _ _ a4]
    exact h.1 q a1 a2 a3 a4 a5 a6 a7 a8 a9
  · rw [va_up_ne _ _ (by omega)]
    exact h.2.1 j hj u hu
  · rw [va_up_self, pk_un (by omega)]
    exact h.2.2 u a b c d
theorem fk_Ag.host {x : Nat} {M M1 : fk_M} (h : fk_Ag x M M1) {j : Nat} (hj : j < 12) (v : Int32) : fk_Ag x M (va_up M1 (3 + 6 * j) (upd (M1 (3 + 6 * j)) 4 v)) := by
  refine ⟨fun q a1 a2 a3 a4 a5 a6 a7 a8 a9 => ?_, fun i hi t ht => ?_, fun u a b c d => ?_⟩
  · rw [va_up_ne _ _ (a9 j hj)]
    exact h.1 q a1 a2 a3 a4 a5 a6 a7 a8 a9
  · by_cases e : i = j
    · subst e
      rw [va_up_self, pk_un ht]
      exact h.2.1 i hi t ht
    · rw [va_up_ne _ _ (by omega)]
      exact h.2.1 i hi t ht
  · rw [va_up_ne _ _ (by omega)]
    exact h.2.2 u a b c d
section
variable {n : Nat} {ck P sz Np : Nat → Nat} {bb sp sl : Nat → Nat → Nat} {x dl : Nat} {db : Nat → Nat} {M M' : fk_M}
/-- under such changes of a draft that is no equation -/
theorem fk_R1.ag (h : fk_R1 n ck P sz Np bb sp sl M) (hx : fk_X x) (hd : ∀ j, j < 12 → P j ≠ x) (q : fk_Ag x M M') : fk_R1 n ck P sz Np bb sp sl M' := by
  obtain ⟨hs, hr, hp⟩ := h
  have h8 := fk_X83 hx (i := 0) (by decide)
  have h9 := fk_X83 hx (i := 1) (by decide)
  have h10 := fk_X83 hx (i := 2) (by decide)
  refine ⟨⟨?_, hs.2.1, fun j hj => ?_⟩, ?_, hp⟩
  · rw [q.1 1 (by omega) (by omega) (by omega) (by decide) (by decide) (by decide) (by decide) (by decide) (fun j hj => by omega)]
    exact hs.1
  · obtain ⟨a1, a2, a3, a4, a5, a6, a7, a8, a9, a10, a11, a12⟩ := hs.2.2 j hj
    have hPx : ∀ i, i < 5 → M' (P j + i) = M (P j + i) := by
      intro i hi
      have h11 := fk_X83 a1 (i := i) (by omega)
      refine q.1 _ (fun e => hd j hj (fk_XX a1 hx hi (j := 0) (by decide) e)) (fun e => hd j hj (fk_XX a1 hx hi (j := 1) (by decide) e)) (fun e => hd j hj (fk_XX a1 hx hi (j := 2) (by decide) e)) (by omega) (by omega) (by omega) (by omega) (by omega) (fun t ht e => ?_)
      have h12 := fk_X4 a1 ht
      rcases (by omega : i = 0 ∨ i = 1 ∨ i = 2 ∨ i = 3 ∨ i = 4) with rfl | rfl | rfl | rfl | rfl
      · exact h12.2.2.2.2 e
      · exact h12.2.2.2.1 e
      · exact h12.2.2.1 e
      · exact h12.2.1 e
      · exact h12.1 e
    have e0 := hPx 0 (by decide)
    have e1 := hPx 1 (by decide)
    have e2 := hPx 2 (by decide)
    have e3 := hPx 3 (by decide)
    rw [Nat.add_zero] at e0
    rw [e0, e1, e2, e3, q.2.1 j hj 0 (by decide), q.2.1 j hj 1 (by decide), q.2.1 j hj 2 (by decide), q.2.1 j hj 3 (by decide)]
    exact ⟨a1, a2, a3, a4, a5, a6, a7, a8, a9, a10, a11, a12⟩
  · have hk : ∀ k, 89 < k → k ≠ 93 → k ≠ 106 → k ≠ 107 → k ≠ 109 → M' k = M k := fun k b1 b2 b3 b4 b5 => q.1 k (by omega) (by omega) (by omega) (by omega) b2 b3 b4 b5 (fun j hj => by omega)
    exact hr.of ⟨q.2.2 1 (by decide) (by decide) (by decide) (by decide), hk 90 (by decide) (by decide) (by decide) (by decide) (by decide), hk 91 (by decide) (by decide) (by decide) (by decide) (by decide), hk 92 (by decide) (by decide) (by decide) (by decide) (by decide), hk 98 (by decide) (by decide) (by decide) (by decide) (by decide), hk 99 (by decide) (by decide) (by decide) (by decide) (by decide), hk 100 (by decide) (by decide) (by decide) (by decide) (by decide), hk 101 (by decide) (by decide) (by decide) (by decide) (by decide)⟩
theorem fk_R3.ag (h : fk_R3 n ck sz M) (hn : n ≤ 12) (hx : fk_X x) (q : fk_Ag x M M') (hh : ∀ f, f < 12 → M' (3 + 6 * f) 4 = M' 93 f ∧ (n ≤ f → M' (3 + 6 * f) 4 = 0) ∧ (f < n → ¬ M (3 + 6 * f) 1 = 0 → M' (3 + 6 * f) 4 = 0 ∨ M' (3 + 6 * f) 4 = 1)) : fk_R3 n ck sz M' := by
  have h8 := fk_X83 hx (i := 0) (by decide)
  have h9 := fk_X83 hx (i := 1) (by decide)
  have h10 := fk_X83 hx (i := 2) (by decide)
  have hk : ∀ k, 89 < k → k ≠ 93 → k ≠ 106 → k ≠ 107 → k ≠ 109 → M' k = M k := fun k b1 b2 b3 b4 b5 => q.1 k (by omega) (by omega) (by omega) (by omega) b2 b3 b4 b5 (fun j hj => by omega)
  obtain ⟨a, b, c⟩ := h
  refine ⟨fun f hf => ?_, fun f hf => ?_, fun f hf h1 => ?_⟩
  · obtain ⟨a1, a2, a3, a4, a5⟩ := a f hf
    rw [q.2.1 f hf 1 (by decide), q.2.1 f hf 2 (by decide), hk 90 (by decide) (by decide) (by decide) (by decide) (by decide), hk 91 (by decide) (by decide) (by decide) (by decide) (by decide), hk 98 (by decide) (by decide) (by decide) (by decide) (by decide), hk 99 (by decide) (by decide) (by decide) (by decide) (by decide)]
    exact ⟨a1, a2, (hh f hf).1, a4, fun h => ⟨(a5 h).1, (hh f hf).2.1 h, (a5 h).2.2⟩⟩
  · rcases b f hf with b1 | ⟨b1, b2⟩
    · exact Or.inl b1
    · exact Or.inr ⟨b1, by rw [q.2.1 _ (by omega) 1 (by decide)]; exact b2⟩
  · rw [q.2.1 f (by omega) 1 (by decide)] at h1
    exact (hh f (by omega)).2.2 hf h1
theorem fk_R4.ag (h : fk_R4 n ck M) (hn : n ≤ 12) (hx : fk_X x) (q : fk_Ag x M M') : fk_R4 n ck M' := by
  have h8 := fk_X83 hx (i := 0) (by decide)
  have h9 := fk_X83 hx (i := 1) (by decide)
  have h10 := fk_X83 hx (i := 2) (by decide)
  have hk : ∀ k, (k = 75 ∨ k = 77 ∨ k = 79 ∨ k = 83 ∨ 89 < k) → k ≠ 93 → k ≠ 106 → k ≠ 107 → k ≠ 109 → M' k = M k := fun k b1 b2 b3 b4 b5 => q.1 k (by omega) (by omega) (by omega) (by omega) b2 b3 b4 b5 (fun j hj => by omega)
  have e79 := hk 79 (by decide) (by decide) (by decide) (by decide) (by decide)
  have e83 := hk 83 (by decide) (by decide) (by decide) (by decide) (by decide)
  obtain ⟨a1, a2, a3, a4, a5, o, a6, a7, a8⟩ := h
  refine ⟨?_, ?_, ?_, ?_, fun f hf => ?_, o, a6, ?_, ?_⟩
  · rw [e79, q.2.2 23 (by decide) (by decide) (by decide) (by decide)]; exact a1
  · rw [e79, q.2.2 24 (by decide) (by decide) (by decide) (by decide)]; exact a2
  · rw [e79, q.2.2 25 (by decide) (by decide) (by decide) (by decide)]; exact a3
  · rw [e83, q.2.2 22 (by decide) (by decide) (by decide) (by decide)]; exact a4
  · rw [e83, hk 95 (by decide) (by decide) (by decide) (by decide) (by decide), hk 96 (by decide) (by decide) (by decide) (by decide) (by decide), hk 94 (by decide) (by decide) (by decide) (by decide) (by decide), q.2.1 f (by omega) 5 (by decide), q.2.1 f (by omega) 6 (by decide)]
    exact a5 f hf
  · rw [q.2.2 27 (by decide) (by decide) (by decide) (by decide)]; exact a7
  · rw [e79, hk 75 (by decide) (by decide) (by decide) (by decide) (by decide), hk 77 (by decide) (by decide) (by decide) (by decide) (by decide), hk 108 (by decide) (by decide) (by decide) (by decide) (by decide)]
    exact a8
theorem fk_Ag.c0 (hx : fk_X x) (q : fk_Ag x M M') : M' 0 = M 0 ∧ M' 79 = M 79 ∧ M' 1 = M 1 ∧ M' (x + 3) = M (x + 3) := by
  have h8 := fk_X83 hx (i := 0) (by decide)
  have h9 := fk_X83 hx (i := 1) (by decide)
  have h10 := fk_X83 hx (i := 2) (by decide)
  have h11 := fk_X83 hx (i := 3) (by decide)
  refine ⟨q.1 0 (by omega) (by omega) (by omega) (by decide) (by decide) (by decide) (by decide) (by decide) (fun j hj => by omega), q.1 79 (by omega) (by omega) (by omega) (by decide) (by decide) (by decide) (by decide) (by decide) (fun j hj => by omega), q.1 1 (by omega) (by omega) (by omega) (by decide) (by decide) (by decide) (by decide) (by decide) (fun j hj => by omega), q.1 _ (by omega) (by omega) (by omega) (by omega) (by omega) (by omega) (by omega) (by omega) (fun j hj => ?_)⟩
  exact (fk_X4 hx hj).2.1
end
/-- after such changes: the relation, if the draft and the hosts are still alike -/
theorem fk_Rel.ag {Gd : fk_Gt} (hG : fk_Gs Gd) {n : Nat} {ck P sz Np : Nat → Nat} {bb sp sl : Nat → Nat → Nat} {x dl dl' : Nat} {db db' : Nat → Nat} {M M' : fk_M} (h1 : fk_R1 n ck P sz Np bb sp sl M) (h2 : fk_R2 P x dl db M) (h3 : fk_R3 n ck sz M) (h4 : fk_R4 n ck M) (h5 : ¬ M 79 4 = 0 → Gd n ck P sz Np bb sp sl M) (q : fk_Ag x M M')
    (hh : ∀ f, f < 12 → M' (3 + 6 * f) 4 = M' 93 f ∧ (n ≤ f → M' (3 + 6 * f) 4 = 0) ∧ (f < n → ¬ M (3 + 6 * f) 1 = 0 → M' (3 + 6 * f) 4 = 0 ∨ M' (3 + 6 * f) 4 = 1)) (hd : M' x 4 = nI dl' ∧ M' 89 19 = nI dl' ∧ dl' ≤ 40 ∧ ∀ i, i < dl' → M' (x + 1) i = nI (db' i) ∧ M' 106 i = nI (db' i) ∧ db' i < 256) : fk_Rel Gd M' := by
  obtain ⟨a1, a2, a3, a4, a5, a6, a7, a8, a9⟩ := h2
  obtain ⟨e0, e79, -, e3⟩ := q.c0 a1
  have hn := h1.1.2.1
  refine ⟨n, ck, P, sz, Np, bb, sp, sl, x, dl', db', h1.ag a1 a3 q, ⟨a1, by rw [e0]; exact a2, a3, a4, hd.1, hd.2.1, hd.2.2.1, hd.2.2.2, by rw [e3]; exact a9⟩, h3.ag hn a1 q hh, h4.ag hn a1 q, fun h => hG n ck P sz Np bb sp sl x M M' h1 a1 a3 (h5 (by rw [← e79]; exact h)) q⟩
/-- the field that says what was thrown -/
theorem fk_Rel.th {Gd : fk_Gt} (hG : fk_Gs Gd) {M : fk_M} (h : fk_Rel Gd M) (q : Nat) : fk_Rel Gd (fk_th M q) := by
  obtain ⟨n, ck, P, sz, Np, bb, sp, sl, x, dl, db, h1, h2, h3, h4, h5⟩ := h
  obtain ⟨a1, a2, a3, a4, a5, a6, a7, a8, a9⟩ := h2
  have h8 := fk_X83 a1 (i := 0) (by decide)
  have h9 := fk_X83 a1 (i := 1) (by decide)
  refine fk_Rel.ag hG h1 ⟨a1, a2, a3, a4, a5, a6, a7, a8, a9⟩ h3 h4 h5 ((fk_Ag.rf x M).up89 a1 (t := 0) (Or.inl rfl) (nI q)) (fun f hf => ?_) (dl' := dl) (db' := db) ⟨?_, ?_, a7, fun i hi => ?_⟩
  · rw [fk_th_ne (by omega), fk_th_ne (by decide)]
    obtain ⟨b1, b2, b3, b4, b5⟩ := h3.1 f hf
    exact ⟨b3, fun h => (b5 h).2.1, fun hf2 hb => h3.2.2 f hf2 hb⟩
  · rw [fk_th_ne (by omega)]; exact a5
  · rw [fk_th_s (by decide)]; exact a6
  · rw [fk_th_ne (by omega), fk_th_ne (by decide)]; exact a8 i hi
