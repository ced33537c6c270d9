/-! type and set. -/
section
variable {Gd : fk_Gt}
theorem fk_hosts {n : Nat} {ck sz : Nat → Nat} {M M' : fk_M} (h3 : fk_R3 n ck sz M) (e : ∀ f, f < 12 → M' (3 + 6 * f) 4 = M (3 + 6 * f) 4) (e93 : M' 93 = M 93) : ∀ f, f < 12 → M' (3 + 6 * f) 4 = M' 93 f ∧ (n ≤ f → M' (3 + 6 * f) 4 = 0) ∧ (f < n → ¬ M (3 + 6 * f) 1 = 0 → M' (3 + 6 * f) 4 = 0 ∨ M' (3 + 6 * f) 4 = 1) := by
  intro f hf
  rw [e f hf, e93]
  obtain ⟨b1, b2, b3, b4, b5⟩ := h3.1 f hf
  exact ⟨b3, fun h => (b5 h).2.1, fun hf2 hb => h3.2.2 f hf2 hb⟩
theorem o_type (hG : fk_Gs Gd) (l : Launch) (hfl : l.flags = flags0) : fk_o_type l (fk_Rel Gd) := by
  intro g ov M h w v
  have h0 := h
  obtain ⟨n, ck, P, sz, Np, bb, sp, sl, x, dl, db, h1, h2, h3, h4, h5⟩ := h
  have h2' := h2
  obtain ⟨a1, a2, a3, a4, a5, a6, a7, a8, a9⟩ := h2
  by_cases hv : v < nI 1 ∨ nI 8 < v
  · exact ⟨1, 1, M, fk_th M 1, ov, 0, by decide, by decide, h_type_t1 l g ov M M w v (t_D_type1 l hfl g ov M v (hv.imp id (fun q => Int32.not_le.mpr q)) w) ⟨rfl, rfl⟩ ⟨by decide, by decide⟩, c_M_typeBad l g ov M w v hv, fk_th_0, h0.th hG 1⟩
  · have hv0 : ¬ v < 0 := fun q => hv (Or.inl (by rw [Int32.lt_iff_toInt_lt] at q ⊢; have e : (nI 1).toInt = 1 := by decide
                                                  have e0 : (0 : Int32).toInt = 0 := by decide
                                                  omega))
    obtain ⟨k, hk31, rfl⟩ := nI_of hv0
    have hk1 : 1 ≤ k := by
      have q : ¬ nI k < nI 1 := fun q => hv (Or.inl q)
      rw [nI_ltI hk31 (by decide)] at q
      omega
    have hk8 : k ≤ 8 := by
      have q : ¬ nI 8 < nI k := fun q => hv (Or.inr q)
      rw [nI_ltI (by decide) hk31] at q
      omega
    by_cases h40 : 40 < dl + k
    · have c9 := c_M_type l g ov M w k hk1 hk8 dl a6 a7
      rw [if_pos h40] at c9
      exact ⟨2, 1, M, fk_th M 2, ov, 0, by decide, by decide, h_type_t2 l g ov M M w (nI k) (t_D_type2 l hfl g ov M x a1 a2 dl k a5 hk1 hk8 h40 a7 w) ⟨rfl, rfl⟩ ⟨by decide, by decide⟩, c9, fk_th_0, h0.th hG 2⟩
    · obtain ⟨d1, d2, d3⟩ := fk_dty_at (x := x) w k dl M hk8
      have hx0 := fk_X83 a1 (i := 0) (by decide)
      have hx1 := fk_X83 a1 (i := 1) (by decide)
      rw [if_neg (by omega)] at d1
      have e89 : fk_dty x w k dl M 89 = M 89 := d3 89 (by omega) (by omega)
      have c9 := c_M_type l g ov (fk_dty x w k dl M) w k hk1 hk8 dl (by rw [e89]; exact a6) a7
      rw [if_neg h40] at c9
      obtain ⟨m1, m2, m3⟩ := fk_mty_at w k dl (fk_th (fk_dty x w k dl M) 0)
      rw [if_neg (by omega)] at m1
      refine ⟨0, 1, fk_dty x w k dl M, _, ov, 0, by decide, by decide, h_type_r l g ov M _ w (nI k) (c_D_type l g ov M x a1 a2 dl k a5 hk1 hk8 (by omega) w) ⟨rfl, rfl⟩ ⟨by decide, by decide⟩, c9, ?_, ?_⟩
      · rw [m1, pk_un (by decide)]
        exact fk_th_0
      · have hq : ∀ q, q ≠ 89 → q ≠ 106 → q ≠ x → q ≠ x + 1 → fk_mty w k dl (fk_th (fk_dty x w k dl M) 0) q = M q := fun q b1 b2 b3 b4 => by rw [m3 q b1 b2, fk_th_ne b1, d3 q b3 b4]
        have hf4 : ∀ j, j < 12 → fk_mty w k dl (fk_th (fk_dty x w k dl M) 0) (3 + 6 * j) = M (3 + 6 * j) := fun j hj => by
          have hx4 := fk_X4 a1 hj
          exact hq _ (by omega) (by omega) (fun e => hx4.2.2.2.2 e.symm) (fun e => hx4.2.2.2.1 e.symm)
        refine fk_Rel.ag hG h1 h2' h3 h4 h5 (M' := fk_mty w k dl (fk_th (fk_dty x w k dl M) 0)) ⟨fun q b1 b2 b3 b4 b5 b6 b7 b8 b9 => hq q b4 b6 b1 b2, fun j hj t ht => by rw [hf4 j hj], fun t b1 b2 b3 b4 => ?_⟩ (fk_hosts h3 (fun f hf => by rw [hf4 f hf]) (hq 93 (by decide) (by decide) (by omega) (by omega))) (dl' := dl + k) (db' := fun i => if dl ≤ i then (fk_yb w (dl + k - 1 - i)).toNatClampNeg else db i) ⟨?_, ?_, by omega, fun i hi => ?_⟩
        · rw [m1, pk_un b2, fk_th_s b1, e89]
        · rw [m3 x (by omega) (by omega), fk_th_ne (by omega), d1, pk_us]
        · rw [m1, pk_us]
        · rw [m3 (x + 1) (by omega) (by omega), fk_th_ne (by omega), d2 i, m2 i, fk_th_ne (by decide), d3 106 (by omega) (by omega)]
          by_cases hc : dl ≤ i
          · obtain ⟨y, hy1, -, hy2⟩ := fk_byte w (d := dl + k - 1 - i) (by omega)
            rw [if_pos (c := dl ≤ i ∧ i < dl + k) ⟨hc, hi⟩, if_pos (c := dl ≤ i ∧ i < dl + k) ⟨hc, hi⟩, if_pos (c := dl ≤ i) hc, hy2, nI_clamp (by omega)]
            exact ⟨rfl, rfl, hy1⟩
          · rw [if_neg (c := dl ≤ i ∧ i < dl + k) (fun q => hc q.1), if_neg (c := dl ≤ i ∧ i < dl + k) (fun q => hc q.1), if_neg (c := dl ≤ i) hc]
            exact a8 i (by omega)
theorem o_set (hG : fk_Gs Gd) (l : Launch) (hfl : l.flags = flags0) : fk_o_set l (fk_Rel Gd) := by
  intro g ov M h v w
  have h0 := h
  obtain ⟨n, ck, P, sz, Np, bb, sp, sl, x, dl, db, h1, h2, h3, h4, h5⟩ := h
  have hn := h1.1.2.1
  have h2' := h2
  obtain ⟨a1, a2, a3, a4, a5, a6, a7, a8, a9⟩ := h2
  have hx0 := fk_X83 a1 (i := 0) (by decide)
  have hx1 := fk_X83 a1 (i := 1) (by decide)
  by_cases ho : fk_ou v n = true
  · have c9 := c_M_set l g ov M v w n h1.2.1.2.1 hn
    rw [show decide (fk_ou v n = true ∨ M 91 v.toNatClampNeg = 0) = true from decide_eq_true (Or.inl ho), if_pos (by decide)] at c9
    exact ⟨1, 1, M, fk_th M 1, ov, 0, by decide, by decide, h_set_t1 l g ov M M v w (t_D_set1 l hfl g ov M n h1.1.1 v w (fk_ou_hs ho)) ⟨rfl, rfl⟩ ⟨by decide, by decide⟩, c9, fk_th_0, h0.th hG 1⟩
  · have hf : fk_ou v n = false := by simpa using ho
    obtain ⟨j, hj, rfl⟩ := fk_ou_in (by omega) hf
    obtain ⟨b1, b2, b3, b4, b5⟩ := h3.1 j (by omega)
    by_cases hi : M (3 + 6 * j) 2 = 0
    · have c9 := c_M_set l g ov M (nI j) w n h1.2.1.2.1 hn
      rw [nI_clamp (by omega), show decide (fk_ou (nI j) n = true ∨ M 91 j = 0) = true from decide_eq_true (Or.inr (by rw [← b2]; exact hi)), if_pos (by decide)] at c9
      exact ⟨1, 1, M, fk_th M 1, ov, 0, by decide, by decide, h_set_t1 l g ov M M (nI j) w (t_D_set2 l hfl g ov M n j h1.1.1 hn hj w hi) ⟨rfl, rfl⟩ ⟨by decide, by decide⟩, c9, fk_th_0, h0.th hG 1⟩
    · obtain ⟨M8, hM8⟩ : ∃ z : fk_M, z = va_up M (3 + 6 * j) (upd (M (3 + 6 * j)) 4 (if ¬ M (3 + 6 * j) 1 = 0 ∧ ¬ w = 0 then nI 1 else w)) := ⟨_, rfl⟩
      have c8 := c_D_set l g ov M n j h1.1.1 hn hj hi w
      rw [← hM8] at c8
      have e : ∀ k, k ≠ 3 + 6 * j → M8 k = M k := fun k hk => by rw [hM8, va_up_ne _ _ hk]
      have c9 := c_M_set l g ov M8 (nI j) w n (by rw [e 89 (by omega)]; exact h1.2.1.2.1) hn
      rw [nI_clamp (by omega), hf, e 91 (by omega), e 90 (by omega), e 93 (by omega), show decide (false = true ∨ M 91 j = 0) = false from decide_eq_false (fun q => q.elim (by decide) (fun q => hi (by rw [b2]; exact q))), if_neg (c := 0 < false.toNat) (by decide)] at c9
      refine ⟨0, 1, M8, _, ov, 0, by decide, by decide, h_set_r l g ov M M8 (nI j) w c8 ⟨rfl, rfl⟩ ⟨by decide, by decide⟩, c9, ?_, ?_⟩
      · rw [va_up_ne _ _ (by decide)]
        exact fk_th_0
      · have hAg : fk_Ag x M (va_up (fk_th M8 0) 93 (upd (M 93) j (if ¬ M 90 j = 0 ∧ ¬ w = 0 then nI 1 else w))) := by
          refine fk_Ag.up ?_ (Or.inl rfl) a1 _
          unfold fk_th
          refine fk_Ag.up89 ?_ a1 (Or.inl rfl) _
          rw [hM8]
          exact (fk_Ag.rf x M).host (by omega) _
        refine fk_Rel.ag hG h1 h2' h3 h4 h5 hAg (fun f hf9 => ?_) (dl' := dl) (db' := db) ⟨?_, ?_, a7, fun i hi9 => ?_⟩
        · rw [va_up_ne _ _ (by omega), fk_th_ne (by omega), va_up_self]
          obtain ⟨d1, d2, d3, d4, d5⟩ := h3.1 f hf9
          by_cases hfj : f = j
          · subst hfj
            rw [hM8, va_up_self, pk_us, pk_us, b1]
            refine ⟨rfl, fun q => absurd q (by omega), fun _ hb => ?_⟩
            by_cases hw : w = 0
            · rw [if_neg (fun q => q.2 hw)]
              exact Or.inl hw
            · rw [if_pos ⟨by rw [← b1]; rw [b1]; exact hb, hw⟩]
              exact Or.inr rfl
          · rw [e _ (by omega), pk_un hfj]
            exact ⟨d3, fun q => (d5 q).2.1, fun q hb => h3.2.2 f q hb⟩
        · rw [va_up_ne _ _ (by omega), fk_th_ne (by omega), e _ (fk_X4 a1 (show j < 12 by omega)).2.2.2.2]
          exact a5
        · rw [va_up_ne _ _ (by decide), fk_th_s (by decide), e 89 (by omega)]
          exact a6
        · rw [va_up_ne _ _ (by omega), fk_th_ne (by omega), e _ (fk_X4 a1 (show j < 12 by omega)).2.2.2.1, va_up_ne _ _ (by decide), fk_th_ne (by decide), e 106 (by omega)]
          exact a8 i hi9
end
