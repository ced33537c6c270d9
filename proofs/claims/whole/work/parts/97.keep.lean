/-! What an instant leaves: pasts, counts, kept values. -/
theorem z_rb {x : Nat} {b : Nat → Nat} {M : fk_M} {n cnt : Nat} (hX : fk_X x) (hn : n ≤ 40) (hc : cnt ≤ 12) (hT : fk_T b n cnt (M (x + 2)) 11 0 n) : ∀ m, m ≤ n → (∀ q, q ≠ x + 4 → fk_rb x b M m q = M q) ∧ ∀ j, fk_rb x b M m (x + 4) j = if j < m ∧ 0 < M (x + 2) j ∧ b j = 14 ∧ fk_hi M (M (x + 3) j).toNatClampNeg = true then fk_ev M x b 11 (j + fk_hd (b j)) else M (x + 4) j := by
  intro m
  induction m with
  | zero => intro _; exact ⟨fun _ _ => rfl, fun j => by rw [if_neg (by omega)]; rfl⟩
  | succ m ih =>
    intro hm
    obtain ⟨g1, g2⟩ := ih (by omega)
    have e : fk_rb x b M (m + 1) = fk_rb1 x b (fk_rb x b M m) m := rfl
    have h4 : ∀ f, f < 12 → 3 + 6 * f ≠ x + 4 := fun f hf q => (fk_X4 hX hf).1 q.symm
    have hhi : fk_hi (fk_rb x b M m) (M (x + 3) m).toNatClampNeg = fk_hi M (M (x + 3) m).toNatClampNeg ∨ 25 ≤ (M (x + 3) m).toNatClampNeg := by
      by_cases hq : (M (x + 3) m).toNatClampNeg < 25
      · exact Or.inl (z_hi_cong (Or.inr (g1 _ (h4 _ (by omega)))))
      · exact Or.inr (by omega)
    have hhi2 : fk_hi (fk_rb x b M m) (M (x + 3) m).toNatClampNeg = fk_hi M (M (x + 3) m).toNatClampNeg := by
      refine z_hi_cong (Or.inr (g1 _ (fun q => ?_)))
      have h8 := fk_X83 hX (i := 4) (by decide)
      rcases hX with rfl | ⟨z, hz, rfl⟩ <;> omega
    rw [e]
    unfold fk_rb1
    rw [g1 (x + 2) (by omega), g1 (x + 3) (by omega), hhi2]
    by_cases hcnd : 0 < M (x + 2) m ∧ b m = 14 ∧ fk_hi M (M (x + 3) m).toNatClampNeg = true
    · rw [if_pos hcnd]
      refine ⟨fun q hq => by rw [va_up_ne _ _ hq]; exact g1 q hq, fun j => ?_⟩
      rw [va_up_self]
      by_cases ej : j = m
      · subst ej
        rw [pk_us, if_pos ⟨by omega, hcnd⟩]
        obtain ⟨q, e2, hq10, -, -, -, -, hts⟩ := fk_node (by omega) hT (i := j) (by omega) hcnd.1
        have har : fk_ar (b j) = 1 := by rw [hcnd.2.1]; rfl
        obtain ⟨y, hy⟩ := z_Ts_at hn _ _ _ hts 0 (by omega)
        have hy2 := (fk_ev_to hn hy (show q ≤ 11 by omega)).2
        have hh := fk_hd_pos (b j)
        refine z_ev_cong hn rfl (g1 (x + 2) (by omega)) (g1 (x + 3) (by omega)) (g1 83 (fun q => ?_)) (fun w hw => by rw [g1 _ (h4 w (by omega))]) 11 _ y hy2 (fun i hi => ?_)
        · have h8 := fk_X83 hX (i := 4) (by decide)
          omega
        · rw [g2 i, if_neg (by have : j + fk_hd (b j) ≤ i := hi; omega)]
      · rw [pk_un ej, g2 j]
        by_cases hjm : j < m
        · by_cases hcj : 0 < M (x + 2) j ∧ b j = 14 ∧ fk_hi M (M (x + 3) j).toNatClampNeg = true
          · rw [if_pos ⟨hjm, hcj⟩, if_pos ⟨by omega, hcj⟩]
          · rw [if_neg (fun q => hcj q.2), if_neg (fun q => hcj q.2)]
        · rw [if_neg (fun q => hjm q.1), if_neg (fun q => by omega)]
    · rw [if_neg hcnd]
      refine ⟨g1, fun j => ?_⟩
      rw [g2 j]
      by_cases ej : j = m
      · subst ej
        rw [if_neg (by omega), if_neg (fun q => hcnd q.2)]
      · by_cases hjm : j < m
        · by_cases hcj : 0 < M (x + 2) j ∧ b j = 14 ∧ fk_hi M (M (x + 3) j).toNatClampNeg = true
          · rw [if_pos ⟨hjm, hcj⟩, if_pos ⟨by omega, hcj⟩]
          · rw [if_neg (fun q => hcj q.2), if_neg (fun q => hcj q.2)]
        · rw [if_neg (fun q => hjm q.1), if_neg (fun q => by omega)]
theorem z_rb0 {x : Nat} {b : Nat → Nat} {M : fk_M} : fk_rb x b M 0 = M := rfl
section
variable {n : Nat} {ck P sz : Nat → Nat} {bb : Nat → Nat → Nat} {C1 : fk_M}
theorem z_s2 (hS : fk_Sh n ck P sz bb C1) (hP : ∀ i j, i < 12 → j < 12 → P i = P j → i = j) : ∀ k, k ≤ n → (∀ q, (∀ j, j < k → q ≠ P j + 4) → fk_s2 P sz bb C1 k q = C1 q) ∧ ∀ f, f < k → 0 < sz f → ∀ j, fk_s2 P sz bb C1 k (P f + 4) j = if j < sz f ∧ 0 < C1 (P f + 2) j ∧ bb f j = 14 ∧ fk_hi C1 (C1 (P f + 3) j).toNatClampNeg = true then fk_ev C1 (P f) (bb f) 11 (j + fk_hd (bb f j)) else C1 (P f + 4) j := by
  have hn := hS.2.1
  have hPX : ∀ j, j < 12 → fk_X (P j) := fun j hj => (hS.2.2 j hj).1
  intro k
  induction k with
  | zero => intro _; exact ⟨fun _ _ => rfl, fun f hf => by omega⟩
  | succ k ih =>
    intro hk
    obtain ⟨g1, g2⟩ := ih (by omega)
    have e : fk_s2 P sz bb C1 (k + 1) = fk_rb (P k) (bb k) (fk_s2 P sz bb C1 k) (sz k) := rfl
    obtain ⟨M, hM⟩ : ∃ z : fk_M, z = fk_s2 P sz bb C1 k := ⟨_, rfl⟩
    rw [e, ← hM]
    rw [← hM] at g1 g2
    have hX := hPX k (by omega)
    have own : ∀ i, i < 5 → M (P k + i) = C1 (P k + i) := fun i hi => g1 _ (fun j hj q => by
      have := hP k j (by omega) (by omega) (fk_XX hX (hPX j (by omega)) hi (by decide) q)
      omega)
    have fl : ∀ f, f < 12 → M (3 + 6 * f) = C1 (3 + 6 * f) := fun f hf => g1 _ (fun j hj q => (fk_X4 (hPX j (by omega)) hf).1 q.symm)
    have m83 : M 83 = C1 83 := g1 83 (fun j hj q => by have := fk_X83 (hPX j (by omega)) (i := 4) (by decide); omega)
    by_cases h0 : 0 < sz k
    · obtain ⟨a1, a2, a3, a4, a5, a6, a7, a8, a9, -⟩ := hS.2.2 k (by omega)
      have hT := a9 h0
      obtain ⟨r1, r2⟩ := z_rb (x := P k) (b := bb k) (M := M) hX a6 hn (by rw [own 2 (by decide)]; exact hT) (sz k) (Nat.le_refl _)
      refine ⟨fun q hq => by rw [r1 q (hq k (by omega))]; exact g1 q (fun j hj => hq j (by omega)), fun f hf hsz j => ?_⟩
      by_cases ef : f = k
      · subst ef
        rw [r2 j, own 2 (by decide), own 3 (by decide), own 4 (by decide)]
        have hhi : j < 40 → fk_hi M (C1 (P f + 3) j).toNatClampNeg = fk_hi C1 (C1 (P f + 3) j).toNatClampNeg := fun hj => by
          obtain ⟨q, q1, q2⟩ := a8 j hj
          rw [q2, nI_clamp (by omega)]
          exact z_hi_cong (Or.inr (fl _ (by omega)))
        by_cases hj : j < sz f ∧ 0 < C1 (P f + 2) j ∧ bb f j = 14
        · rw [hhi (by omega)]
          by_cases hh : fk_hi C1 (C1 (P f + 3) j).toNatClampNeg = true
          · rw [if_pos ⟨hj.1, hj.2.1, hj.2.2, hh⟩, if_pos ⟨hj.1, hj.2.1, hj.2.2, hh⟩]
            obtain ⟨q, e2, hq10, -, -, -, -, hts⟩ := fk_node (by omega) hT (i := j) hj.1 hj.2.1
            have har : fk_ar (bb f j) = 1 := by rw [hj.2.2]; rfl
            obtain ⟨y, hy⟩ := z_Ts_at a6 _ _ _ hts 0 (by omega)
            have hy2 := (fk_ev_to a6 hy (show q ≤ 11 by omega)).2
            exact z_ev_cong a6 rfl (own 2 (by decide)) (own 3 (by decide)) m83 (fun w hw => by rw [fl w (by omega)]) 11 _ y hy2 (fun i _ => by rw [own 4 (by decide)])
          · rw [if_neg (fun q => hh q.2.2.2), if_neg (fun q => hh q.2.2.2)]
        · rw [if_neg (fun q => hj ⟨q.1, q.2.1, q.2.2.1⟩), if_neg (fun q => hj ⟨q.1, q.2.1, q.2.2.1⟩)]
      · rw [r1 _ (fun q => ef (hP f k (by omega) (by omega) (by omega)))]
        exact g2 f (by omega) hsz j
    · have hz : sz k = 0 := by omega
      rw [hz, z_rb0]
      refine ⟨fun q hq => g1 q (fun j hj => hq j (by omega)), fun f hf hsz j => ?_⟩
      by_cases ef : f = k
      · subst ef; omega
      · exact g2 f (by omega) hsz j
theorem z_s3 {C2 : fk_M} : ∀ k, k ≤ 25 → (∀ q, q ≠ 83 → fk_s3 C2 k q = C2 q) ∧ ∀ c, fk_s3 C2 k 83 c = if c < k then C2 83 c + nI (fk_hi C2 c).toNat else C2 83 c := by
  intro k
  induction k with
  | zero => intro _; exact ⟨fun _ _ => rfl, fun c => by rw [if_neg (by omega)]; rfl⟩
  | succ k ih =>
    intro hk
    obtain ⟨g1, g2⟩ := ih (by omega)
    have e : fk_s3 C2 (k + 1) = va_up (fk_s3 C2 k) 83 (upd (fk_s3 C2 k 83) k (fk_s3 C2 k 83 k + nI (fk_hi (fk_s3 C2 k) k).toNat)) := rfl
    rw [e]
    refine ⟨fun q hq => by rw [va_up_ne _ _ hq]; exact g1 q hq, fun c => ?_⟩
    rw [va_up_self]
    have hhi : fk_hi (fk_s3 C2 k) k = fk_hi C2 k := z_hi_cong (Or.inr (g1 _ (by omega)))
    by_cases ec : c = k
    · subst ec
      rw [pk_us, g2 c, if_neg (by omega), if_pos (by omega), hhi]
    · rw [pk_un ec, g2 c]
      by_cases hlt : c < k
      · rw [if_pos hlt, if_pos (by omega)]
      · rw [if_neg hlt, if_neg (by omega)]
end
/-- clocks of the nodes: of flows there are -/
theorem z_clk {b : Nat → Nat} {n cnt : Nat} {E : Nat → Int32} {sp sl : Nat → Nat} {N f : Nat} {ck : Nat → Nat} {v : Int32} {A X : Nat → Int32} (h : fk_NW b n cnt E sp sl N) (hC : z_Ck ck b E sp N f v A X) (hv : ∃ c, c ≤ 2 * cnt ∧ v = nI c) (hck : ∀ w, w < cnt → ck w ≤ 2 * cnt) : ∀ p, p ≤ N → ∀ k, k < sl p → ∃ c, c ≤ 2 * cnt ∧ A (fk_ir E k (sp p)) = nI c := by
  intro p
  induction p with
  | zero =>
    intro _ k hk
    rw [h.2.2.2.2.2.1] at hk
    have : k = 0 := by omega
    subst this
    rw [h.2.2.1]
    obtain ⟨c, c1, c2⟩ := hv
    exact ⟨c, c1, hC.1.trans c2⟩
  | succ p ih =>
    intro hp k hk
    have hpN : p < N := by omega
    obtain ⟨e, hk9, a1, a2, a3, a4, a5, ⟨q9, a6⟩, a7⟩ := h.node hpN
    obtain ⟨s1, s2⟩ := h.2.2.2.2.2.2 p hpN
    have hs := h.2.2.2.1 p hpN
    obtain ⟨t1, t2⟩ := fk_Ts_ir h.1 _ _ _ a6
    by_cases hka : k < fk_ar (b (sp p))
    · rw [hs, (hC.2 p hpN).1.2 k hka]
      have hw := hk9.2.2.2
      have h0 : ∃ c, c ≤ 2 * cnt ∧ A (sp p) = nI c := ih (by omega) 0 (by omega)
      unfold fk_cpt
      split
      · rename_i hb
        exact ⟨_, hck _ (hw (by omega)), rfl⟩
      · rename_i hb
        exact ⟨_, hck _ (hw (by omega)), rfl⟩
      · rename_i hb
        have := hw (by omega)
        refine ⟨_, ?_, rfl⟩
        split <;> omega
      · exact h0
    · obtain ⟨k', rfl⟩ : ∃ k', k = fk_ar (b (sp p)) + k' := ⟨k - fk_ar (b (sp p)), by omega⟩
      have er : fk_ir E (fk_ar (b (sp p)) + k') (sp (p + 1)) = fk_ir E (k' + 1) (sp p) := by
        rw [(a7 k' (by omega)).1, fk_ir_add, hs, t1]
      rw [er]
      exact ih (by omega) (k' + 1) (by omega)
