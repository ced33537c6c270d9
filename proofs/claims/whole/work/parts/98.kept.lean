/-! What an instant leaves in the reference. -/
theorem z_ifk {f k : Nat} {c : Prop} [Decidable c] (h : f ≠ k) (a b : Int32) : (if f < k ∧ c then a else b) = if f < k + 1 ∧ c then a else b := by
  by_cases hc : f < k ∧ c
  · rw [if_pos hc, if_pos ⟨by omega, hc.2⟩]
  · rw [if_neg hc, if_neg (fun q => hc ⟨by omega, q.2⟩)]
section
variable {n cnt : Nat} {ck P m Np : Nat → Nat} {bb sp sl on : Nat → Nat → Nat} {E Ty : Nat → Nat → Int32} {bl : Nat → Int32} {C1 R1 R2 : fk_M}
theorem z_ie (hEv : ∀ f, f < n → R1 91 f = 0 → (fk_NW (bb f) (m f) cnt (E f) (sp f) (sl f) (Np f) ∧ sl f (Np f) = 0) ∧ C1 (P f + 2) = E f ∧ z_Ev C1 (P f) f (bb f) (E f) (sp f) (Np f) ck bl (R1 94) (R1 103) (R1 105) (Ty f) (fun _ => True)) : ∀ k, k ≤ n → (∀ q, q ≠ 89 → q ≠ 104 → q ≠ 109 → fk_ie Np bb sp sl R1 k q = R1 q) ∧ (∀ t, t ≠ 29 → t ≠ 30 → fk_ie Np bb sp sl R1 k 89 t = R1 89 t) ∧ ∀ f, f < k → R1 91 f = 0 → ∀ p, p < Np f → bb f (sp f p) = 14 → fk_hi C1 (C1 (P f + 3) (sp f p)).toNatClampNeg = true → fk_ie Np bb sp sl R1 k 104 (40 * f + sp f p) = fk_ev C1 (P f) (bb f) 11 (sp f (p + 1)) ∧ (Ty f (sp f p) = nI 1 → fk_ie Np bb sp sl R1 k 104 (40 * f + sp f p) = 0 ∨ fk_ie Np bb sp sl R1 k 104 (40 * f + sp f p) = nI 1) := by
  intro k
  induction k with
  | zero => intro _; exact ⟨fun _ _ _ _ => rfl, fun _ _ _ => rfl, fun f hf => by omega⟩
  | succ k ih =>
    intro hk
    obtain ⟨g1, g2, g3⟩ := ih (by omega)
    have e : fk_ie Np bb sp sl R1 (k + 1) = if fk_ie Np bb sp sl R1 k 91 k = 0 then fk_rqm Np bb sp sl k (fk_ie Np bb sp sl R1 k) else fk_ie Np bb sp sl R1 k := rfl
    rw [e, g1 91 (by decide) (by decide) (by decide)]
    by_cases hi : R1 91 k = 0
    · rw [if_pos hi]
      obtain ⟨⟨hN, hsl⟩, hE, hH⟩ := hEv k (by omega) hi
      obtain ⟨r1, r2, r3⟩ := z_ra hN hE hH (Np k) (fk_ie Np bb sp sl R1 k 109) (fk_ie Np bb sp sl R1 k 104) (Nat.le_refl _) (fun j hj => by omega)
      have e104 : fk_rqm Np bb sp sl k (fk_ie Np bb sp sl R1 k) 104 = (fk_ra (bb k) (sp k) (sl k) k (R1 94) (R1 103) (R1 105) (Np k) (fk_ie Np bb sp sl R1 k 109) (fk_ie Np bb sp sl R1 k 104)).2 := by
        unfold fk_rqm fk_w3
        rw [va_up_ne _ _ (by decide), va_up_self, g1 94 (by decide) (by decide) (by decide), g1 103 (by decide) (by decide) (by decide), g1 105 (by decide) (by decide) (by decide)]
      refine ⟨fun q a b c => ?_, fun t a b => ?_, fun f hf hfi p hp h14 hh => ?_⟩
      · unfold fk_rqm fk_w3
        rw [va_up_ne _ _ a, va_up_ne _ _ b, va_up_ne _ _ c]
        exact g1 q a b c
      · unfold fk_rqm fk_w3
        rw [va_up_self, pk_un b, pk_un a]
        exact g2 t a b
      · rw [e104]
        by_cases ef : f = k
        · subst ef
          exact r2 p hp h14 trivial hh
        · rw [r3 _ (fun q hq _ => ?_)]
          · exact g3 f (by omega) hfi p hp h14 hh
          · obtain ⟨⟨hNf, -⟩, -, -⟩ := hEv f (by omega) hfi
            obtain ⟨-, k1, -⟩ := hNf.node hp
            obtain ⟨-, k2, -⟩ := hN.node hq
            have := k1.1
            have := k2.1
            have := hNf.1
            have := hN.1
            omega
    · rw [if_neg hi]
      refine ⟨g1, g2, fun f hf hfi => ?_⟩
      by_cases ef : f = k
      · subst ef; exact absurd hfi hi
      · exact g3 f (by omega) hfi
theorem z_kp {M : fk_M} {b : Nat → Nat} {s o : Nat → Nat} {f N : Nat} (hm : ∀ p q, p < q → q < N → s p < s q) : ∀ d p A B, p + d = N → (∀ z, (∀ q, p ≤ q → q < N → z ≠ 40 * f + s q) → (fk_kp M b s o f d p A B).1 z = A z ∧ (fk_kp M b s o f d p A B).2 z = B z) ∧ ∀ q, p ≤ q → q < N → (fk_kp M b s o f d p A B).1 (40 * f + s q) = (if (b (s q) = 14 ∨ b (s q) = 15) ∧ fk_hm M (o q) = true then M 104 (40 * f + s q) else A (40 * f + s q)) ∧ (fk_kp M b s o f d p A B).2 (40 * f + s q) = if (b (s q) = 14 ∨ b (s q) = 15) ∧ fk_hm M (o q) = true then nI 1 else B (40 * f + s q) := by
  intro d
  induction d with
  | zero => intro p A B hp; exact ⟨fun _ _ => ⟨rfl, rfl⟩, fun q h1 h2 => by omega⟩
  | succ d ih =>
    intro p A B hp
    rw [fk_kp_S]
    by_cases hc : (b (s p) = 14 ∨ b (s p) = 15) ∧ fk_hm M (o p) = true
    · rw [if_pos hc]
      obtain ⟨g1, g2⟩ := ih (p + 1) (upd A (40 * f + s p) (M 104 (40 * f + s p))) (upd B (40 * f + s p) (nI 1)) (by omega)
      refine ⟨fun z hz => ?_, fun q h1 h2 => ?_⟩
      · obtain ⟨k1, k2⟩ := g1 z (fun q h1 h2 => hz q (by omega) h2)
        rw [k1, k2, pk_un (hz p (Nat.le_refl _) (by omega)), pk_un (hz p (Nat.le_refl _) (by omega))]
        exact ⟨rfl, rfl⟩
      · by_cases e : q = p
        · subst e
          obtain ⟨k1, k2⟩ := g1 (40 * f + s q) (fun r r1 r2 => by have := hm q r (by omega) r2; omega)
          rw [k1, k2, pk_us, pk_us, if_pos hc, if_pos hc]
          exact ⟨rfl, rfl⟩
        · obtain ⟨k1, k2⟩ := g2 q (by omega) h2
          have := hm p q (by omega) h2
          rw [k1, k2, pk_un (by omega), pk_un (by omega)]
          exact ⟨rfl, rfl⟩
    · rw [if_neg hc]
      obtain ⟨g1, g2⟩ := ih (p + 1) A B (by omega)
      refine ⟨fun z hz => g1 z (fun q h1 h2 => hz q (by omega) h2), fun q h1 h2 => ?_⟩
      by_cases e : q = p
      · subst e
        obtain ⟨k1, k2⟩ := g1 (40 * f + s q) (fun r r1 r2 => by have := hm q r (by omega) r2; omega)
        rw [k1, k2, if_neg hc, if_neg hc]
        exact ⟨rfl, rfl⟩
      · exact g2 q (by omega) h2
theorem z_ig (hN : ∀ f, f < n → R2 91 f = 0 → (∀ p q, p < q → q < Np f → sp f p < sp f q) ∧ ∀ p, p < Np f → sp f p < 40) : ∀ k, k ≤ n → (∀ q, q ≠ 103 → q ≠ 105 → fk_ig Np bb sp sl on R2 k q = R2 q) ∧ ∀ f, f < n → R2 91 f = 0 → ∀ p, p < Np f → fk_ig Np bb sp sl on R2 k 103 (40 * f + sp f p) = (if f < k ∧ (bb f (sp f p) = 14 ∨ bb f (sp f p) = 15) ∧ fk_hm R2 (on f p) = true then R2 104 (40 * f + sp f p) else R2 103 (40 * f + sp f p)) ∧ fk_ig Np bb sp sl on R2 k 105 (40 * f + sp f p) = if f < k ∧ (bb f (sp f p) = 14 ∨ bb f (sp f p) = 15) ∧ fk_hm R2 (on f p) = true then nI 1 else R2 105 (40 * f + sp f p) := by
  intro k
  induction k with
  | zero => intro _; exact ⟨fun _ _ _ => rfl, fun f hf _ p hp => by rw [if_neg (by omega), if_neg (by omega)]; exact ⟨rfl, rfl⟩⟩
  | succ k ih =>
    intro hk
    obtain ⟨g1, g2⟩ := ih (by omega)
    have e : fk_ig Np bb sp sl on R2 (k + 1) = if fk_ig Np bb sp sl on R2 k 91 k = 0 then fk_kpm Np bb sp sl on k (fk_ig Np bb sp sl on R2 k) else fk_ig Np bb sp sl on R2 k := rfl
    obtain ⟨Z, hZ⟩ : ∃ z : fk_M, z = fk_ig Np bb sp sl on R2 k := ⟨_, rfl⟩
    rw [e, ← hZ]
    rw [← hZ] at g1 g2
    rw [g1 91 (by decide) (by decide)]
    have hm : ∀ c, fk_hm Z c = fk_hm R2 c := fun c => by unfold fk_hm; rw [g1 96 (by decide) (by decide), g1 94 (by decide) (by decide)]
    by_cases hi : R2 91 k = 0
    · rw [if_pos hi]
      obtain ⟨n1, n2⟩ := hN k (by omega) hi
      obtain ⟨k1, k2⟩ := z_kp (M := Z) (b := bb k) (s := sp k) (o := on k) (f := k) (N := Np k) n1 (Np k) 0 (Z 103) (Z 105) (by omega)
      have e103 : fk_kpm Np bb sp sl on k Z 103 = (fk_kp Z (bb k) (sp k) (on k) k (Np k) 0 (Z 103) (Z 105)).1 := by unfold fk_kpm; rw [va_up_ne _ _ (by decide), va_up_self]
      have e105 : fk_kpm Np bb sp sl on k Z 105 = (fk_kp Z (bb k) (sp k) (on k) k (Np k) 0 (Z 103) (Z 105)).2 := by unfold fk_kpm; rw [va_up_self]
      refine ⟨fun q a b => ?_, fun f hf hfi p hp => ?_⟩
      · unfold fk_kpm
        rw [va_up_ne _ _ b, va_up_ne _ _ a]
        exact g1 q a b
      · rw [e103, e105]
        by_cases ef : f = k
        · subst ef
          obtain ⟨q1, q2⟩ := k2 p (by omega) hp
          obtain ⟨q3, q4⟩ := g2 f hf hfi p hp
          rw [if_neg (by omega)] at q3
          rw [if_neg (by omega)] at q4
          rw [q1, q2, hm, g1 104 (by decide) (by decide), q3, q4]
          by_cases hcd : (bb f (sp f p) = 14 ∨ bb f (sp f p) = 15) ∧ fk_hm R2 (on f p) = true
          · rw [if_pos hcd, if_pos hcd, if_pos ⟨by omega, hcd⟩, if_pos ⟨by omega, hcd⟩]
            exact ⟨rfl, rfl⟩
          · rw [if_neg hcd, if_neg hcd, if_neg (fun q => hcd q.2), if_neg (fun q => hcd q.2)]
            exact ⟨rfl, rfl⟩
        · obtain ⟨-, m2⟩ := hN f hf hfi
          obtain ⟨q1, q2⟩ := k1 (40 * f + sp f p) (fun q _ hq => by have := m2 p hp; have := n2 q hq; omega)
          obtain ⟨q3, q4⟩ := g2 f hf hfi p hp
          exact ⟨(q1.trans q3).trans (z_ifk ef _ _), (q2.trans q4).trans (z_ifk ef _ _)⟩
    · rw [if_neg hi]
      refine ⟨g1, fun f hf hfi p hp => ?_⟩
      obtain ⟨q3, q4⟩ := g2 f hf hfi p hp
      have hne : f ≠ k := fun q => by subst q; exact hi hfi
      exact ⟨q3.trans (z_ifk hne _ _), q4.trans (z_ifk hne _ _)⟩
end
