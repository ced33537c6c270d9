/-! Rule 5: what a flow waits for at once. Class against reference; which names the mask holds. -/
theorem z_dw_S (b : Nat → Nat) (E : Nat → Int32) (d i hid : Nat) (mq : Int32) : fk_dw b E (d + 1) i hid mq = if i < hid ∨ ¬ 0 < E i then fk_dw b E d (i + 1) hid mq else if b i = 14 then fk_dw b E d (i + 1) (E i).toNatClampNeg mq else if b i = 3 ∨ 15 < b i then fk_dw b E d (i + 1) hid (mq ||| (nI 1 <<< (nI (b (i + 1)) &&& 31))) else fk_dw b E d (i + 1) hid mq := rfl
section
variable {b : Nat → Nat} {n cnt : Nat} {E : Nat → Int32} {sp sl : Nat → Nat} {N : Nat}
theorem z_dw_2 (h : fk_NW b n cnt E sp sl N) {p : Nat} (hp : p < N) (hid : Nat) (mq : Int32) : fk_dw b E (n - (sp p + 1)) (sp p + 1) hid mq = fk_dw b E (n - sp (p + 1)) (sp (p + 1)) hid mq := by
  obtain ⟨e, hk9, a1, a2, a3, a4, a5, -, -⟩ := h.node hp
  have hs := h.2.2.2.1 p hp
  have hh := fk_hd_pos (b (sp p))
  have ho := hk9.2.2.1
  rcases (by omega : fk_hd (b (sp p)) = 1 ∨ fk_hd (b (sp p)) = 2) with h1 | h2
  · have e1 : sp (p + 1) = sp p + 1 := by omega
    rw [e1]
  · have e1 : sp (p + 1) = sp p + 1 + 1 := by omega
    have e2 : n - (sp p + 1) = n - (sp p + 1 + 1) + 1 := by omega
    rw [e1, e2, z_dw_S, if_pos (Or.inr (by rw [a5 h2]; exact fk_irr))]
theorem z_dw_sim (h : fk_NW b n cnt E sp sl N) : ∀ d p S hid mq, p + d = N → (∀ k, k < sl p → (S (sl p - 1 - k) = 0 ∧ hid ≤ fk_ir E k (sp p)) ∨ (¬ S (sl p - 1 - k) = 0 ∧ fk_ir E (k + 1) (sp p) ≤ hid)) →
    (fk_rnm b sp sl d p S mq).2 = fk_dw b E (n - sp p) (sp p) hid mq := by
  intro d
  induction d with
  | zero =>
    intro p S hid mq hp _
    have e : p = N := by omega
    subst e
    rw [h.2.2.2.2.1, Nat.sub_self]
    rfl
  | succ d ih =>
    intro p S hid mq hp hJ
    have hpN : p < N := by omega
    obtain ⟨e, hk9, a1, a2, a3, a4, a5, ⟨q9, a6⟩, a7⟩ := h.node hpN
    obtain ⟨s1, s2⟩ := h.2.2.2.2.2.2 p hpN
    have hn := h.1
    have hs := h.2.2.2.1 p hpN
    have hh := fk_hd_pos (b (sp p))
    obtain ⟨t1, t2⟩ := fk_Ts_ir hn _ _ _ a6
    have hlt := hk9.1
    have hE : (E (sp p)).toNatClampNeg = e := by rw [a1, nI_clamp (by omega)]
    have ie : ∀ k, fk_ir E (k + 1) (sp p) = fk_ir E k e := fun k => by show fk_ir E k (E (sp p)).toNatClampNeg = _; rw [hE]
    have er : ∀ k, fk_ir E (fk_ar (b (sp p)) + k) (sp (p + 1)) = fk_ir E (k + 1) (sp p) := by
      intro k
      rw [ie, fk_ir_add, hs, t1]
    obtain ⟨dn, hdn⟩ : ∃ dn, n - sp p = dn + 1 := ⟨n - sp p - 1, by omega⟩
    have hdn2 : dn = n - (sp p + 1) := by omega
    obtain ⟨j1, j2⟩ := fk_wj_at (if b (sp p) = 14 then nI 1 else S (sl p - 1)) (if b (sp p) = 14 then nI 1 else S (sl p - 1)) (fk_ar (b (sp p))) (sl p - 1) S
    obtain ⟨W, hW⟩ : ∃ W : Nat → Int32, W = fk_wj (if b (sp p) = 14 then nI 1 else S (sl p - 1)) (if b (sp p) = 14 then nI 1 else S (sl p - 1)) (fk_ar (b (sp p))) (sl p - 1) S := ⟨_, rfl⟩
    rw [← hW] at j1 j2
    have n1 : ¬ nI 1 = 0 := by decide
    have hsl : sl (p + 1) = sl p - 1 + fk_ar (b (sp p)) := by omega
    -- a later root, as it was
    have old : ∀ k, k + 1 < sl p → W (sl (p + 1) - 1 - (fk_ar (b (sp p)) + k)) = S (sl p - 1 - (k + 1)) := fun k hk => by
      rw [show sl (p + 1) - 1 - (fk_ar (b (sp p)) + k) = sl p - 1 - (k + 1) by omega, j2 _ (Or.inl (by omega))]
    have new : ∀ q, q < fk_ar (b (sp p)) → W (sl (p + 1) - 1 - q) = if b (sp p) = 14 then nI 1 else S (sl p - 1) := fun q hq => by
      rw [hsl, j1 q hq, ite_self]
    rw [fk_rnm_S, ← hW, hdn, z_dw_S, hdn2]
    rcases hJ 0 (by omega) with ⟨z1, z2⟩ | ⟨z1, z2⟩
    · have z1 : S (sl p - 1) = 0 := z1
      have z2 : hid ≤ sp p := z2
      rw [if_neg (show ¬ (sp p < hid ∨ ¬ 0 < E (sp p)) from fun q => q.elim (fun q => by omega) (fun q => q a2))]
      by_cases h14 : b (sp p) = 14
      · rw [if_pos (show b (sp p) = 14 from h14), z_dw_2 h hpN, hE, if_neg (show ¬ (S (sl p - 1) = 0 ∧ (b (sp p) = 3 ∨ 15 < b (sp p))) from fun q => by omega)]
        refine ih (p + 1) _ _ _ (by omega) (fun k hk => ?_)
        by_cases hka : k < fk_ar (b (sp p))
        · refine Or.inr ⟨by rw [new k hka, if_pos h14]; exact n1, ?_⟩
          rw [hs]
          exact (t2 k hka).2.2
        · obtain ⟨k', rfl⟩ : ∃ k', k = fk_ar (b (sp p)) + k' := ⟨k - fk_ar (b (sp p)), by omega⟩
          have c1 := a7 k' (by omega)
          have c2 := a7 (k' + 1) (by omega)
          refine Or.inl ?_
          rw [old k' (by omega), er, ie]
          refine ⟨?_, c1.2⟩
          rcases hJ (k' + 1) (by omega) with ⟨y1, y2⟩ | ⟨y1, y2⟩
          · exact y1
          · rw [ie] at y2
            have := c2.2
            omega
      · have old2 : ∀ (mr : Int32), (fk_rnm b sp sl d (p + 1) W mr).2 = fk_dw b E (n - sp (p + 1)) (sp (p + 1)) hid mr := fun mr => by
          refine ih (p + 1) _ _ _ (by omega) (fun k hk => ?_)
          by_cases hka : k < fk_ar (b (sp p))
          · refine Or.inl ⟨by rw [new k hka, if_neg h14]; exact z1, ?_⟩
            rw [hs]
            have := (t2 k hka).1
            omega
          · obtain ⟨k', rfl⟩ : ∃ k', k = fk_ar (b (sp p)) + k' := ⟨k - fk_ar (b (sp p)), by omega⟩
            rw [old k' (by omega), er, show fk_ar (b (sp p)) + k' + 1 = fk_ar (b (sp p)) + (k' + 1) by omega, er]
            exact hJ (k' + 1) (by omega)
        rw [if_neg (show ¬ b (sp p) = 14 from h14), old2]
        by_cases h3 : b (sp p) = 3 ∨ 15 < b (sp p)
        · rw [if_pos (show b (sp p) = 3 ∨ 15 < b (sp p) from h3), if_pos (show S (sl p - 1) = 0 ∧ (b (sp p) = 3 ∨ 15 < b (sp p)) from ⟨z1, h3⟩), z_dw_2 h hpN]
        · rw [if_neg (show ¬ (b (sp p) = 3 ∨ 15 < b (sp p)) from h3), if_neg (show ¬ (S (sl p - 1) = 0 ∧ (b (sp p) = 3 ∨ 15 < b (sp p))) from fun q => h3 q.2), z_dw_2 h hpN]
    · have z1 : ¬ S (sl p - 1) = 0 := z1
      rw [ie] at z2
      have z2 : e ≤ hid := z2
      rw [if_pos (show sp p < hid ∨ ¬ 0 < E (sp p) from Or.inl (by omega)), z_dw_2 h hpN, if_neg (show ¬ (S (sl p - 1) = 0 ∧ (b (sp p) = 3 ∨ 15 < b (sp p))) from fun q => z1 q.1)]
      refine ih (p + 1) _ _ _ (by omega) (fun k hk => ?_)
      by_cases hka : k < fk_ar (b (sp p))
      · refine Or.inr ⟨?_, ?_⟩
        · rw [new k hka]
          split
          · exact n1
          · exact z1
        · rw [hs]
          have := (t2 k hka).2.2
          omega
      · obtain ⟨k', rfl⟩ : ∃ k', k = fk_ar (b (sp p)) + k' := ⟨k - fk_ar (b (sp p)), by omega⟩
        rw [old k' (by omega), er, show fk_ar (b (sp p)) + k' + 1 = fk_ar (b (sp p)) + (k' + 1) by omega, er]
        exact hJ (k' + 1) (by omega)
/-- flags: 0 outside every pre -/
abbrev z_fl (b : Nat → Nat) : Nat → Nat → Int32 → Int32 := fun i _ v => if b i = 14 then nI 1 else v
theorem z_fl_none : ∀ d p A, (fk_gz b E sp (fun _ _ => true) (z_fl b) d p A).1 = none := by
  intro d
  induction d with
  | zero => intro p A; rfl
  | succ d ih => intro p A; rw [fk_gz_t (ok := fun _ _ => true) rfl]; exact ih _ _
theorem z_names (h : fk_NW b n cnt E sp sl N) (hc : cnt ≤ 12) : ∀ d p S A mq, p + d = N → fk_J9 E sp sl p S A → (∀ g, g < 12 → fk_wf mq g = true → fk_wf (fk_rnm b sp sl d p S mq).2 g = true) ∧ ∀ q, p ≤ q → q < N → (fk_gz b E sp (fun _ _ => true) (z_fl b) d p A).2 (sp q) = 0 → (b (sp q) = 3 ∨ 15 < b (sp q)) → fk_wf (fk_rnm b sp sl d p S mq).2 (b (sp q + 1)) = true := by
  intro d
  induction d with
  | zero => intro p S A mq hp _; exact ⟨fun _ _ h => h, fun q h1 h2 => by omega⟩
  | succ d ih =>
    intro p S A mq hp hJ
    have hpN : p < N := by omega
    obtain ⟨e, hk9, a1, a2, a3, a4, a5, ⟨q9, a6⟩, a7⟩ := h.node hpN
    obtain ⟨s1, s2⟩ := h.2.2.2.2.2.2 p hpN
    have hn := h.1
    have hs := h.2.2.2.1 p hpN
    have hh := fk_hd_pos (b (sp p))
    obtain ⟨t1, t2⟩ := fk_Ts_ir hn _ _ _ a6
    have htop : S (sl p - 1) = A (sp p) := hJ 0 (by omega)
    obtain ⟨w1, w2⟩ := fk_gw_at (E := E) (v := fun q => z_fl b (sp p) q (A (sp p))) (fk_ar (b (sp p))) 0 (sp p + fk_hd (b (sp p))) A (fun j hj => (t2 j hj).2.1)
    obtain ⟨j1, j2⟩ := fk_wj_at (if b (sp p) = 14 then nI 1 else S (sl p - 1)) (if b (sp p) = 14 then nI 1 else S (sl p - 1)) (fk_ar (b (sp p))) (sl p - 1) S
    have hJ' := h.sim hpN hJ (w := fun q => z_fl b (sp p) q (A (sp p))) (fun q hq => by rw [w1 q hq]) (fun y hy => w2 y (Or.inr hy)) (fun q hq => by rw [j1 q hq, ite_self, htop]) (fun j hj => j2 j (Or.inl hj))
    rw [fk_rnm_S, fk_gz_t (ok := fun _ _ => true) rfl]
    obtain ⟨g1, g2⟩ := ih (p + 1) _ _ (if S (sl p - 1) = 0 ∧ (b (sp p) = 3 ∨ 15 < b (sp p)) then mq ||| (nI 1 <<< (nI (b (sp p + 1)) &&& 31)) else mq) (by omega) hJ'
    refine ⟨fun g hg hw => g1 g hg ?_, fun q h1 h2 hz hk => ?_⟩
    · split
      · rw [fk_wf_or _ _ hg, hw, Bool.true_or]
      · exact hw
    · by_cases hq : q = p
      · subst hq
        rw [(fk_gz_fin h d (q + 1) _ (by omega) (z_fl_none _ _ _)).1 (sp q) (by omega), w2 _ (Or.inl (by omega))] at hz
        have hb := hk9.2.2.2 hk
        refine g1 _ (by omega) ?_
        rw [if_pos ⟨htop.trans hz, hk⟩, fk_wf_or _ _ (by omega), fk_wf_1 (by omega) (by omega), decide_eq_true rfl, Bool.or_true]
      · exact g2 q (by omega) h2 hz hk
/-- every byte where a node begins is one of the parts' places -/
theorem z_node_of (h : fk_NW b n cnt E sp sl N) {i : Nat} (hi : 0 < E i) : ∀ q, q ≤ N → i < sp q → ∃ p, p < q ∧ sp p = i := by
  intro q
  induction q with
  | zero => intro _ h1; rw [h.2.2.1] at h1; omega
  | succ q ih =>
    intro hq h1
    by_cases h2 : i < sp q
    · obtain ⟨p, p1, p2⟩ := ih (by omega) h2
      exact ⟨p, by omega, p2⟩
    · obtain ⟨e, hk9, a1, a2, a3, a4, a5, -, -⟩ := h.node (p := q) (by omega)
      have hs := h.2.2.2.1 q (by omega)
      have hh := fk_hd_pos (b (sp q))
      by_cases h3 : i = sp q
      · exact ⟨q, by omega, h3.symm⟩
      · have e1 : i = sp q + 1 := by omega
        rw [e1, a5 (by omega)] at hi
        exact absurd hi fk_irr
end
