/-! equation: the call. -/
section
variable {Gd : fk_Gt}
theorem o_equation (hG : fk_Gs Gd) (l : Launch) (hfl : l.flags = flags0) : fk_o_equation l (fk_Rel Gd) := by
  intro g ov M h v
  obtain ⟨n, ck, P, sz, Np, bb, sp, sl, x, dl, db, h1, h2, h3, h4, h5⟩ := h
  have hn := h1.1.2.1
  have h2' := h2
  obtain ⟨a1, a2, a3, a4, a5, a6, a7, a8, a9⟩ := h2
  have hx0 := fk_X83 a1 (i := 0) (by decide)
  have hx2 := fk_X83 a1 (i := 2) (by decide)
  have hx4 : ∀ j, j < 12 → x ≠ 3 + 6 * j ∧ x + 2 ≠ 3 + 6 * j := fun j hj => ⟨(fk_X4 a1 hj).2.2.2.2, (fk_X4 a1 hj).2.2.1⟩
  -- what the reference does to a draft that is thrown away
  have bad : ∀ M8 : fk_M, (∀ k, k ≠ x → k ≠ x + 2 → M8 k = M k) → M8 x 4 = nI 0 → ((fk_iw db dl n 42 (upd (M8 109) 0 (nI 0)) 1 (M8 107) 0 0).1 = false ∨ fk_ou v n = true ∨ ¬ M 91 v.toNatClampNeg = 0) → fk_CV l y_M_equation b_M_equation 5 (fk_rm 2) g ov M8 (fk_th (fk_me1 db dl n M8) 1) [.ref (fk_a g 89), .int v] ∧ fk_Rel Gd (fk_th (fk_me1 db dl n M8) 1) := by
    intro M8 e ex hc
    have e89 : M8 89 = M 89 := e 89 (by omega) (by omega)
    have e106 : M8 106 = M 106 := e 106 (by omega) (by omega)
    have c9 := c_M_equation l g ov M8 db dl n a7 hn (by rw [e89]; exact a6) (by rw [e89]; exact h1.2.1.2.1) (fun i hi => by rw [e106]; exact (a8 i hi).2.1) (fun i hi => (a8 i hi).2.2) v
    rw [e 91 (by omega) (by omega), if_pos hc] at c9
    exact ⟨c9, fk_eq_bad hG h1 h2' h3 h4 h5 e ex db dl⟩
  have eq3 : ∀ k, k ≠ x → k ≠ x + 2 → fk_q3 M x k = M k := fun k b1 _ => va_up_ne _ _ b1
  have ex3 : fk_q3 M x x 4 = nI 0 := by unfold fk_q3; rw [va_up_self, pk_us]
  by_cases ho : fk_ou v n = true
  · obtain ⟨c9, hR⟩ := bad _ eq3 ex3 (Or.inr (Or.inl ho))
    exact ⟨1, 2, _, _, ov, 0, by decide, by decide, h_equation_t1 l g ov M _ v (t_D_equation1 l hfl g ov M n h1.1.1 v (fk_ou_hs ho) x a1 a2) ⟨rfl, rfl⟩ ⟨by decide, by decide⟩, c9, fk_th_0, hR⟩
  · have hf : fk_ou v n = false := by simpa using ho
    obtain ⟨j, hj, rfl⟩ := fk_ou_in (by omega) hf
    obtain ⟨b1, b2, b3, b4, b5⟩ := h3.1 j (by omega)
    by_cases hi : M (3 + 6 * j) 2 = 0
    · by_cases hwf : fk_pe db dl n 11 0 = some dl
      · obtain ⟨MA, hMA⟩ : ∃ z : fk_M, z = fk_eqm db dl n M j x (P j) := ⟨_, rfl⟩
        obtain ⟨hSh, hRel⟩ := fk_eq_good (Gd := Gd) h1 h2' h3 h4 hj hi hwf hMA
        have hP : ∀ f, f < 12 → fk_X (va_up P j x f) := fun f hf => (hSh.2.2 f hf).1
        have c8 := c_D_equation l g ov M n j h1.1.1 hn hj hi x (P j) a1 ((h1.1.2.2 j (by omega)).1) a2 ((h1.1.2.2 j (by omega)).2.1) db dl a7 a5 (fun i hi => (a8 i hi).1) (fun i hi => (a8 i hi).2.2) hwf ck (va_up P j x) (va_up sz j dl) (va_up bb j db) (by rw [← hMA]; exact hSh)
        rw [← hMA] at c8
        have hY := (h1.1.2.2 j (by omega)).1
        have hy0 := fk_X83 hY (i := 0) (by decide)
        have k8 : ∀ k, 89 ≤ k → fk_rs (va_up P j x) (fk_fg MA) n k = M k := fun k hk => by
          rw [fk_rs_hi hP hn (by omega), fk_fg_k (by omega), hMA]
          unfold fk_eqm fk_q3 fk_q2 fk_q1
          rw [va_up_ne _ _ (by omega), va_up_ne _ _ (by omega), va_up_ne _ _ (by omega), va_up_ne _ _ (by omega)]
        have c9 := c_M_equation l g ov (fk_rs (va_up P j x) (fk_fg MA) n) db dl n a7 hn (by rw [k8 89 (by decide)]; exact a6) (by rw [k8 89 (by decide)]; exact h1.2.1.2.1) (fun i hi => by rw [k8 106 (by decide)]; exact (a8 i hi).2.1) (fun i hi => (a8 i hi).2.2) (nI j)
        obtain ⟨N, S', St', i1, -⟩ := (fk_iw_draft (b := db) (n := dl) (cnt := n) a7 (fk_rs (va_up P j x) (fk_fg MA) n 109) (fk_rs (va_up P j x) (fk_fg MA) n 107)).1 hwf
        rw [nI_clamp (by omega), k8 91 (by decide), if_neg (by
          rintro (q | q | q)
          · rw [i1] at q; cases q
          · exact ho q
          · exact q (by rw [← b2]; exact hi))] at c9
        refine ⟨0, 2, _, _, ov, 0, by decide, by decide, h_equation_r l g ov M _ (nI j) c8 ⟨rfl, rfl⟩ ⟨by decide, by decide⟩, c9, ?_, hRel⟩
        unfold fk_me2
        rw [fk_ma_89t (by decide), va_up_ne _ _ (by decide), va_up_ne _ _ (by decide), va_up_ne _ _ (by decide), va_up_ne _ _ (by decide)]
        exact fk_th_0
      · obtain ⟨M8, hM8⟩ : ∃ z : fk_M, z = fk_q3 (va_up M (x + 2) (fk_we db dl n 11 0 (fk_fl (M (x + 2)) 40 0))) x := ⟨_, rfl⟩
        have e8 : ∀ k, k ≠ x → k ≠ x + 2 → M8 k = M k := fun k b1 b2 => by rw [hM8]; unfold fk_q3; rw [va_up_ne _ _ b1, va_up_ne _ _ b2]
        have ex8 : M8 x 4 = nI 0 := by rw [hM8]; unfold fk_q3; rw [va_up_self, pk_us]
        obtain ⟨c9, hR⟩ := bad M8 e8 ex8 (Or.inl ((fk_iw_draft (b := db) (n := dl) (cnt := n) a7 (M8 109) (M8 107)).2 hwf))
        refine ⟨1, 2, M8, _, ov, 0, by decide, by decide, h_equation_t1 l g ov M M8 (nI j) (rm := fk_rx 15) ?_ ⟨rfl, rfl⟩ ⟨by decide, by decide⟩, c9, fk_th_0, hR⟩
        rw [hM8]
        exact t_D_equation3 l hfl g ov M n j h1.1.1 hn hj hi x a1 a2 db dl a7 a5 (fun i hi => (a8 i hi).1) (fun i hi => (a8 i hi).2.2) hwf
    · obtain ⟨c9, hR⟩ := bad _ eq3 ex3 (Or.inr (Or.inr (by rw [nI_clamp (by omega), ← b2]; exact hi)))
      exact ⟨1, 2, _, _, ov, 0, by decide, by decide, h_equation_t1 l g ov M _ (nI j) (t_D_equation2 l hfl g ov M n j h1.1.1 hn hj hi x a1 a2) ⟨rfl, rfl⟩ ⟨by decide, by decide⟩, c9, fk_th_0, hR⟩
end
