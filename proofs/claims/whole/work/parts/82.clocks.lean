/-! A walk down the nodes that writes for the parts: types and clocks alike. Rule 3: the clocks, class against reference. -/
def fk_gw (E v : Nat → Int32) : Nat → Nat → Nat → (Nat → Int32) → Nat → Int32
  | 0, _, _, A => A
  | d + 1, q, y, A => fk_gw E v d (q + 1) (E y).toNatClampNeg (upd A y (v q))
theorem fk_gw_at {E v : Nat → Int32} : ∀ d q y A, (∀ j, j < d → fk_ir E j y < fk_ir E (j + 1) y) → (∀ j, j < d → fk_gw E v d q y A (fk_ir E j y) = v (q + j)) ∧ (∀ z, (z < y ∨ fk_ir E d y ≤ z) → fk_gw E v d q y A z = A z) := by
  intro d
  induction d with
  | zero => intro q y A _; exact ⟨fun j hj => by omega, fun _ _ => rfl⟩
  | succ d ih =>
    intro q y A hm
    obtain ⟨g1, g2⟩ := ih (q + 1) (E y).toNatClampNeg (upd A y (v q)) (fun j hj => hm (j + 1) (by omega))
    have hlt : ∀ j, j ≤ d → y < fk_ir E (j + 1) y := by
      intro j
      induction j with
      | zero => intro _; exact hm 0 (by omega)
      | succ j ihj => intro hj; have h1 := ihj (by omega); have h2 := hm (j + 1) (by omega); omega
    refine ⟨fun j hj => ?_, fun z hz => ?_⟩
    · show fk_gw E v d (q + 1) (E y).toNatClampNeg _ _ = _
      cases j with
      | zero =>
        rw [g2 (fk_ir E 0 y) (Or.inl (hm 0 (by omega)))]
        show upd A y _ y = _
        rw [pk_us, Nat.add_zero]
      | succ j =>
        have h1 := g1 j (by omega)
        rw [show q + (j + 1) = q + 1 + j by omega]
        exact h1
    · show fk_gw E v d (q + 1) (E y).toNatClampNeg _ z = _
      have h1 := hm 0 (by omega)
      have h1 : y < (E y).toNatClampNeg := h1
      have h2 := hlt d (Nat.le_refl _)
      rw [g2 z (by
        rcases hz with h | h
        · exact Or.inl (by omega)
        · exact Or.inr h), pk_un (by rcases hz with h | h <;> omega)]
theorem fk_wt_gw (E : Nat → Int32) (k : Nat) (v : Int32) : ∀ d q y A, fk_wt E k v d q y A = fk_gw E (fun q => if k = 13 ∧ q = 0 then nI 1 else v) d q y A := by
  intro d
  induction d with
  | zero => intro q y A; rfl
  | succ d ih => intro q y A; exact ih _ _ _
theorem fk_wc_gw (E : Nat → Int32) (ck : Nat → Nat) (k w i : Nat) (v : Int32) : ∀ d q y A, i < y → (∀ j, j < d → fk_ir E j y < fk_ir E (j + 1) y) → A i = v → fk_wc E ck k w i d q y A = fk_gw E (fun q => fk_cpt ck k w q v) d q y A := by
  intro d
  induction d with
  | zero => intro q y A _ _ _; rfl
  | succ d ih =>
    intro q y A hi hm hA
    have h1 : y < (E y).toNatClampNeg := hm 0 (by omega)
    show fk_wc E ck k w i d (q + 1) (E y).toNatClampNeg (upd A y (fk_cpt ck k w q (A i))) = _
    rw [ih (q + 1) (E y).toNatClampNeg _ (by omega) (fun j hj => hm (j + 1) (by omega)) (by rw [pk_un (by omega)]; exact hA), hA]
    rfl
section
variable {b : Nat → Nat} {n cnt : Nat} {E : Nat → Int32} {sp sl : Nat → Nat} {N : Nat}
def fk_gz (b : Nat → Nat) (E : Nat → Int32) (sp : Nat → Nat) (ok : Nat → Int32 → Bool) (w : Nat → Nat → Int32 → Int32) : Nat → Nat → (Nat → Int32) → Option Nat × (Nat → Int32)
  | 0, _, A => (none, A)
  | d + 1, p, A => if ok (sp p) (A (sp p)) = true then fk_gz b E sp ok w d (p + 1) (fk_gw E (fun q => w (sp p) q (A (sp p))) (fk_ar (b (sp p))) 0 (sp p + fk_hd (b (sp p))) A) else (some (sp p), A)
/-- what holds of a row behind the walk -/
def fk_Gc (b : Nat → Nat) (E : Nat → Int32) (ok : Nat → Int32 → Bool) (w : Nat → Nat → Int32 → Int32) (A : Nat → Int32) (i : Nat) : Prop := ok i (A i) = true ∧ ∀ j, j < fk_ar (b i) → A (fk_ir E j (i + fk_hd (b i))) = w i j (A i)
theorem fk_gz_t {ok : Nat → Int32 → Bool} {w : Nat → Nat → Int32 → Int32} {d p : Nat} {A : Nat → Int32} (h : ok (sp p) (A (sp p)) = true) : fk_gz b E sp ok w (d + 1) p A = fk_gz b E sp ok w d (p + 1) (fk_gw E (fun q => w (sp p) q (A (sp p))) (fk_ar (b (sp p))) 0 (sp p + fk_hd (b (sp p))) A) := if_pos h
theorem fk_gz_f {ok : Nat → Int32 → Bool} {w : Nat → Nat → Int32 → Int32} {d p : Nat} {A : Nat → Int32} (h : ¬ ok (sp p) (A (sp p)) = true) : fk_gz b E sp ok w (d + 1) p A = (some (sp p), A) := if_neg h
theorem fk_gz_fin {ok : Nat → Int32 → Bool} {w : Nat → Nat → Int32 → Int32} (h : fk_NW b n cnt E sp sl N) : ∀ d p A, p + d = N → (fk_gz b E sp ok w d p A).1 = none → (∀ y, y < sp p → (fk_gz b E sp ok w d p A).2 y = A y) ∧ (∀ k, k < sl p → (fk_gz b E sp ok w d p A).2 (fk_ir E k (sp p)) = A (fk_ir E k (sp p))) ∧ ∀ q, p ≤ q → q < N → fk_Gc b E ok w (fk_gz b E sp ok w d p A).2 (sp q) := by
  intro d
  induction d with
  | zero => intro p A hp _; exact ⟨fun _ _ => rfl, fun _ _ => rfl, fun q h1 h2 => by omega⟩
  | succ d ih =>
    intro p A hp hn
    have hpN : p < N := by omega
    by_cases hok : ok (sp p) (A (sp p)) = true
    · rw [fk_gz_t hok] at hn ⊢
      obtain ⟨e, hk9, a1, a2, a3, a4, a5, ⟨q9, a6⟩, a7⟩ := h.node hpN
      obtain ⟨s1, s2⟩ := h.2.2.2.2.2.2 p hpN
      have hs := h.2.2.2.1 p hpN
      have hh := fk_hd_pos (b (sp p))
      obtain ⟨t1, t2⟩ := fk_Ts_ir h.1 _ _ _ a6
      obtain ⟨w1, w2⟩ := fk_gw_at (E := E) (v := fun q => w (sp p) q (A (sp p))) (fk_ar (b (sp p))) 0 (sp p + fk_hd (b (sp p))) A (fun j hj => (t2 j hj).2.1)
      obtain ⟨g1, g2, g3⟩ := ih (p + 1) _ (by omega) hn
      have hsp : (fk_gz b E sp ok w d (p + 1) (fk_gw E (fun q => w (sp p) q (A (sp p))) (fk_ar (b (sp p))) 0 (sp p + fk_hd (b (sp p))) A)).2 (sp p) = A (sp p) := by
        rw [g1 _ (by omega), w2 _ (Or.inl (by omega))]
      refine ⟨fun y hy => ?_, fun k hk => ?_, fun q h1 h2 => ?_⟩
      · rw [g1 y (by omega), w2 y (Or.inl (by omega))]
      · cases k with
        | zero => exact hsp
        | succ k =>
          obtain ⟨c1, c2⟩ := a7 k (by omega)
          have e1 : fk_ir E (k + 1) (sp p) = fk_ir E (fk_ar (b (sp p)) + k) (sp (p + 1)) := by rw [c1, fk_ir_add, hs, t1]
          rw [e1, g2 _ (by omega), ← e1, w2 _ (Or.inr (by rw [t1, c1]; exact c2))]
      · by_cases hq : q = p
        · subst hq
          refine ⟨by rw [hsp]; exact hok, fun j hj => ?_⟩
          have g4 := g2 j (by omega)
          rw [hs, w1 j hj, Nat.zero_add] at g4
          rw [hsp]
          exact g4
        · exact g3 q (by omega) h2
    · rw [fk_gz_f hok] at hn
      cases hn
theorem fk_tf_gn (M : fk_M) (h : fk_NW b n cnt E sp sl N) : ∀ d p A, p + d = N → fk_tf M b E (n - sp p) (sp p) A = fk_gz b E sp (fun i v => fk_it M (b i) (b (i + 1)) v) (fun i q v => if b i = 13 ∧ q = 0 then nI 1 else fk_wv (b i) v) d p A := by
  intro d
  induction d with
  | zero =>
    intro p A hp
    have e : p = N := by omega
    subst e
    rw [h.2.2.2.2.1, Nat.sub_self]
    rfl
  | succ d ih =>
    intro p A hp
    rw [fk_tf_node M h (by omega)]
    by_cases hi : fk_it M (b (sp p)) (b (sp p + 1)) (A (sp p)) = true
    · rw [if_pos hi, fk_gz_t (ok := fun i v => fk_it M (b i) (b (i + 1)) v) hi, ih (p + 1) _ (by omega), fk_wt_gw]
    · rw [if_neg hi, fk_gz_f (ok := fun i v => fk_it M (b i) (b (i + 1)) v) hi]
/-- the class at a node -/
theorem fk_cf_node (ck : Nat → Nat) (h : fk_NW b n cnt E sp sl N) {p : Nat} (hp : p < N) (A : Nat → Int32) : fk_cf b E ck (n - sp p) (sp p) A = if fk_oc ck (b (sp p)) (b (sp p + 1)) (A (sp p)) = A (sp p) then fk_cf b E ck (n - sp (p + 1)) (sp (p + 1)) (fk_gw E (fun q => fk_cpt ck (b (sp p)) (b (sp p + 1)) q (A (sp p))) (fk_ar (b (sp p))) 0 (sp p + fk_hd (b (sp p))) A) else (some (sp p), A) := by
  obtain ⟨e, hk9, a1, a2, a3, a4, a5, ⟨q9, a6⟩, -⟩ := h.node hp
  have hs := h.2.2.2.1 p hp
  have hh := fk_hd_pos (b (sp p))
  have ho := hk9.2.2.1
  obtain ⟨t1, t2⟩ := fk_Ts_ir h.1 _ _ _ a6
  obtain ⟨d, hd⟩ : ∃ d, n - sp p = d + 1 := ⟨n - sp p - 1, by omega⟩
  rw [hd, fk_cf_S, if_neg (by simpa using a2)]
  by_cases hi : fk_oc ck (b (sp p)) (b (sp p + 1)) (A (sp p)) = A (sp p)
  · rw [if_pos hi, if_pos hi, fk_wc_gw E ck _ _ (sp p) (A (sp p)) _ _ _ A (by omega) (fun j hj => (t2 j hj).2.1) rfl, hs]
    rcases (by omega : fk_hd (b (sp p)) = 1 ∨ fk_hd (b (sp p)) = 2) with h1 | h2
    · rw [h1]
      congr 1
      omega
    · rw [h2]
      obtain ⟨d', hd'⟩ : ∃ d', d = d' + 1 := ⟨d - 1, by omega⟩
      subst hd'
      rw [fk_cf_S, if_pos (by rw [a5 h2]; exact fk_irr)]
      congr 1
      omega
  · rw [if_neg hi, if_neg hi]
theorem fk_cf_gn (ck : Nat → Nat) (h : fk_NW b n cnt E sp sl N) : ∀ d p A, p + d = N → fk_cf b E ck (n - sp p) (sp p) A = fk_gz b E sp (fun i v => decide (fk_oc ck (b i) (b (i + 1)) v = v)) (fun i q v => fk_cpt ck (b i) (b (i + 1)) q v) d p A := by
  intro d
  induction d with
  | zero =>
    intro p A hp
    have e : p = N := by omega
    subst e
    rw [h.2.2.2.2.1, Nat.sub_self]
    rfl
  | succ d ih =>
    intro p A hp
    rw [fk_cf_node ck h (by omega)]
    by_cases hi : fk_oc ck (b (sp p)) (b (sp p + 1)) (A (sp p)) = A (sp p)
    · rw [if_pos hi, fk_gz_t (ok := fun i v => decide (fk_oc ck (b i) (b (i + 1)) v = v)) (by simpa using hi), ih (p + 1) _ (by omega)]
    · rw [if_neg hi, fk_gz_f (ok := fun i v => decide (fk_oc ck (b i) (b (i + 1)) v = v)) (by simpa using hi)]
theorem fk_ck_eq {cl : Nat → Int32} {ck : Nat → Nat} (hcl : ∀ w, w < cnt → cl w = nI (ck w)) {k w : Nat} (hw : (k = 3 ∨ 15 < k) → w < cnt) (v : Int32) : fk_oc ck k w v = fk_rcs cl k (fk_yy k w) v := by
  unfold fk_oc fk_rcs fk_yy
  split
  · rw [if_neg (by decide), if_pos (Or.inl rfl), if_pos (Or.inl rfl), hcl w (hw (by decide))]
  · rw [if_neg (by decide), if_neg (by decide), if_pos rfl, if_pos (by decide), Nat.add_comm]
  · rw [if_neg (by decide), if_neg (by decide), if_neg (by decide), if_pos rfl, if_pos (by decide), Nat.add_comm]
  · rw [if_neg (by decide), if_pos (Or.inr rfl), if_pos (Or.inr (by decide)), hcl w (hw (by decide))]
  · rename_i h3 h16 h17 h18
    by_cases h : k < 3
    · rw [if_pos h]
    · rw [if_neg h, if_neg (fun q => q.elim h3 h18), if_neg h16, if_neg h17]
theorem fk_ck_part {cl : Nat → Int32} {ck : Nat → Nat} (hcl : ∀ w, w < cnt → cl w = nI (ck w)) {k w : Nat} (hk : k ≤ 18) (hw : (k = 3 ∨ 15 < k) → w < cnt) (v : Int32) {q : Nat} (hq : q < fk_ar k) : fk_cpt ck k w q v = if q = 0 then (if k = 18 then nI (1 + 2 * fk_yy k w) else if 15 < k then cl (fk_yy k w) else v) else (if k = 18 then nI (2 + 2 * fk_yy k w) else v) := by
  unfold fk_cpt fk_yy
  split
  · have h1 : q = 0 := by have : fk_ar 16 = 1 := by decide
                          omega
    rw [if_pos h1, if_neg (by decide), if_pos (by decide), if_pos (by decide), hcl w (hw (by decide))]
  · have h1 : q = 0 := by have : fk_ar 17 = 1 := by decide
                          omega
    rw [if_pos h1, if_neg (by decide), if_pos (by decide), if_pos (by decide), hcl w (hw (by decide))]
  · rw [if_pos rfl, if_pos rfl, if_pos (Or.inr (by decide))]
    by_cases h0 : q = 0
    · rw [if_pos h0, if_pos h0, Nat.add_comm]
    · rw [if_neg h0, if_neg h0, Nat.add_comm]
  · rename_i h16 h17 h18
    have n16 : k ≠ 16 := h16
    have n17 : k ≠ 17 := h17
    have n18 : k ≠ 18 := h18
    rw [if_neg h18, if_neg h18, if_neg (show ¬ 15 < k by omega), ite_self]
theorem fk_rck_stay {cl : Nat → Int32} {f : Nat} (h : fk_NW b n cnt E sp sl N) : ∀ d p S pl X, p + d = N → (∀ i, i ≤ sp p → pl = nI i → (fk_rck b sp sl cl f d p S pl X).2.1 = pl) ∧ ∀ z, (∀ q, p ≤ q → q < N → z ≠ 40 * f + sp q) → (fk_rck b sp sl cl f d p S pl X).2.2 z = X z := by
  intro d
  induction d with
  | zero => intro p S pl X _; exact ⟨fun _ _ _ => rfl, fun _ _ => rfl⟩
  | succ d ih =>
    intro p S pl X hp
    have hm := h.mono p (p + 1) (by omega) (by omega)
    obtain ⟨e, hk9, -⟩ := h.node (p := p) (by omega)
    have hn := h.1
    have hlt := hk9.1
    refine ⟨fun i hi hpl => ?_, fun z hz => ?_⟩
    · subst hpl
      rw [fk_rck_S, fk_nt_stay hi (by omega), ite_self]
      exact (ih (p + 1) _ _ _ (by omega)).1 i (by omega) rfl
    · rw [fk_rck_S, (ih (p + 1) _ _ _ (by omega)).2 z (fun q h1 h2 => hz q (by omega) h2), pk_un (hz p (Nat.le_refl _) (by omega))]
theorem fk_ck_sim {cl : Nat → Int32} {ck : Nat → Nat} {f : Nat} (h : fk_NW b n cnt E sp sl N) (hcl : ∀ w, w < cnt → cl w = nI (ck w)) {pl : Int32} (hpl : pl < 0) : ∀ d p S A X, p + d = N → fk_J9 E sp sl p S A →
    (fk_rck b sp sl cl f d p S pl X).2.1 = (match (fk_cf b E ck (n - sp p) (sp p) A).1 with | none => pl | some i => nI i) ∧ ((fk_cf b E ck (n - sp p) (sp p) A).1 = none → ∀ q, p ≤ q → q < N → (fk_rck b sp sl cl f d p S pl X).2.2 (40 * f + sp q) = (fk_cf b E ck (n - sp p) (sp p) A).2 (sp q)) := by
  intro d
  induction d with
  | zero =>
    intro p S A X hp _
    have e : p = N := by omega
    subst e
    rw [h.2.2.2.2.1, Nat.sub_self]
    exact ⟨rfl, fun _ q h1 h2 => by omega⟩
  | succ d ih =>
    intro p S A X hp hJ
    have hpN : p < N := by omega
    obtain ⟨e, hk9, a1, a2, a3, a4, a5, ⟨q9, a6⟩, a7⟩ := h.node hpN
    obtain ⟨s1, s2⟩ := h.2.2.2.2.2.2 p hpN
    have hn := h.1
    have hm := h.mono p (p + 1) (by omega) (by omega)
    have hs := h.2.2.2.1 p hpN
    have hh := fk_hd_pos (b (sp p))
    have htop : S (sl p - 1) = A (sp p) := hJ 0 (by omega)
    rw [fk_rck_S, fk_cf_node ck h hpN, htop, ← fk_ck_eq hcl hk9.2.2.2 (A (sp p))]
    by_cases hi : fk_oc ck (b (sp p)) (b (sp p + 1)) (A (sp p)) = A (sp p)
    · rw [if_pos hi, if_pos hi]
      obtain ⟨t1, t2⟩ := fk_Ts_ir hn _ _ _ a6
      obtain ⟨w1, w2⟩ := fk_gw_at (E := E) (v := fun q => fk_cpt ck (b (sp p)) (b (sp p + 1)) q (A (sp p))) (fk_ar (b (sp p))) 0 (sp p + fk_hd (b (sp p))) A (fun j hj => (t2 j hj).2.1)
      obtain ⟨j1, j2⟩ := fk_wj_at (if b (sp p) = 18 then nI (1 + 2 * fk_yy (b (sp p)) (b (sp p + 1))) else if 15 < b (sp p) then cl (fk_yy (b (sp p)) (b (sp p + 1))) else A (sp p)) (if b (sp p) = 18 then nI (2 + 2 * fk_yy (b (sp p)) (b (sp p + 1))) else A (sp p)) (fk_ar (b (sp p))) (sl p - 1) S
      have hJ' := h.sim hpN hJ (w := fun q => fk_cpt ck (b (sp p)) (b (sp p + 1)) q (A (sp p))) (fun q hq => by rw [w1 q hq, Nat.zero_add]) (fun y hy => w2 y (Or.inr hy)) (fun q hq => (j1 q hq).trans (fk_ck_part hcl hk9.2.1 hk9.2.2.2 _ hq).symm) (fun j hj => j2 j (Or.inl hj))
      obtain ⟨g1, g2⟩ := ih (p + 1) _ _ (upd X (40 * f + sp p) (A (sp p))) (by omega) hJ'
      refine ⟨g1, fun hne q h1 h2 => ?_⟩
      by_cases hq : q = p
      · subst hq
        rw [(fk_rck_stay h d (q + 1) _ _ _ (by omega)).2 _ (fun r r1 r2 => by have := h.mono q r (by omega) (by omega); omega), pk_us]
        rw [fk_cf_gn ck h d (q + 1) _ (by omega)] at hne ⊢
        rw [(fk_gz_fin h d (q + 1) _ (by omega) hne).1 (sp q) (by omega), w2 _ (Or.inl (by omega))]
      · exact g2 hne q (by omega) h2
    · rw [if_neg hi, if_neg hi, fk_nt_first (by omega) hpl]
      refine ⟨?_, fun hne => by cases hne⟩
      exact (fk_rck_stay h d (p + 1) _ _ _ (by omega)).1 (sp p) (by omega) rfl
end
