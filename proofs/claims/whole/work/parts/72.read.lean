/-! Calls that only answer: time, flows, fault, order, present, value, seen. -/
theorem fk_ou_hs {v : Int32} {n : Nat} (h : fk_ou v n = true) : fk_hs v n = false := by
  unfold fk_hs
  refine decide_eq_false (fun q => ?_)
  rcases of_decide_eq_true h with h | h
  · exact q.1 h
  · exact h (Int32.not_le.mp q.2)
theorem fk_th_0 {M : fk_M} {q : Nat} : fk_th M q 89 0 = nI q := by unfold fk_th; rw [va_up_self, pk_us]
theorem fk_ou_j {j n : Nat} (hj : j < n) (hn : n ≤ 12) : fk_ou (nI j) n = false := by
  unfold fk_ou
  refine decide_eq_false (fun q => ?_)
  rcases q with q | q
  · exact nI_pos (by omega) q
  · exact q ((nI_ltI (by omega) (by omega)).mpr hj)
section
variable {Gd : fk_Gt}
theorem o_time (hG : fk_Gs Gd) (l : Launch) : fk_o_time l (fk_Rel Gd) := by
  intro g ov M h
  have h0 := h
  obtain ⟨n, ck, P, sz, Np, bb, sp, sl, x, dl, db, h1, h2, h3, h4, h5⟩ := h
  exact ⟨0, 0, M, fk_th M 0, M 83 0, by decide, by decide, c_D_time l g ov M, by rw [h4.2.2.2.1]; exact c_M_time l g ov M, h0.th hG 0⟩
theorem o_flows (hG : fk_Gs Gd) (l : Launch) : fk_o_flows l (fk_Rel Gd) := by
  intro g ov M h
  have h0 := h
  obtain ⟨n, ck, P, sz, Np, bb, sp, sl, x, dl, db, h1, h2, h3, h4, h5⟩ := h
  exact ⟨0, 0, M, fk_th M 0, M 1 1, by decide, by decide, c_D_flows l g ov M, by rw [h1.1.1, ← h1.2.1.2.1]; exact c_M_flows l g ov M, h0.th hG 0⟩
theorem o_fault (hG : fk_Gs Gd) (l : Launch) (hfl : l.flags = flags0) : fk_o_fault l (fk_Rel Gd) := by
  intro g ov M h v
  have h0 := h
  obtain ⟨n, ck, P, sz, Np, bb, sp, sl, x, dl, db, h1, h2, h3, h4, h5⟩ := h
  by_cases ho : fk_ou v 2 = true
  · have c9 := c_M_fault l g ov M v
    rw [ho] at c9
    refine ⟨1, 1, M, fk_th M 1, ov, _, by decide, by decide, h_fault_t1 l g ov M M v (t_D_fault l hfl g ov M v ?_ ?_) ⟨rfl, rfl⟩ ⟨by decide, by decide⟩, c9, fk_th_0, fun h => absurd h (by decide), h0.th hG 1⟩
    · intro e
      subst e
      exact absurd ho (by decide)
    · intro e
      subst e
      exact absurd ho (by decide)
  · have hf : fk_ou v 2 = false := by simpa using ho
    obtain ⟨j, hj, rfl⟩ := fk_ou_in (by decide) hf
    have c9 := c_M_fault l g ((if j = 0 then M 79 5 else M 79 6) : Int32).toInt64 M (nI j)
    rw [hf, if_neg (c := false = true) (by decide)] at c9
    refine ⟨0, 1, M, fk_th M 0, _, if j = 0 then M 79 5 else M 79 6, by decide, by decide, h_fault_r l g ov M M (nI j) _ (c_D_fault l g ov M j hj) ⟨rfl, rfl⟩ ⟨by decide, by decide⟩, ?_, fk_th_0, fun _ => rfl, h0.th hG 0⟩
    have e : (if nI j = 0 then M 89 24 else M 89 25) = if j = 0 then M 79 5 else M 79 6 := by
      rcases (by omega : j = 0 ∨ j = 1) with rfl | rfl
      · rw [if_pos (by decide), if_pos rfl, h4.2.1]
      · rw [if_neg (by decide), if_neg (by decide), h4.2.2.1]
    rw [e] at c9
    exact c9
theorem o_order (hG : fk_Gs Gd) (l : Launch) (hfl : l.flags = flags0) : fk_o_order l (fk_Rel Gd) := by
  intro g ov M h v
  have h0 := h
  obtain ⟨n, ck, P, sz, Np, bb, sp, sl, x, dl, db, h1, h2, h3, h4, h5⟩ := h
  obtain ⟨a1, a2, a3, a4, a5, o, a6, a7, a8⟩ := h4
  by_cases hp : M 79 4 = 0
  · have c9 := c_M_order l g ov M v o a7 a6
    rw [show decide (M 89 23 = 0) = true from decide_eq_true (by rw [← a1]; exact hp)] at c9
    exact ⟨1, 1, M, fk_th M 1, ov, _, by decide, by decide, h_order_t1 l g ov M M v (t_D_order1 l hfl g ov M v hp) ⟨rfl, rfl⟩ ⟨by decide, by decide⟩, c9, fk_th_0, fun h => absurd h (by decide), h0.th hG 1⟩
  · have hg9 : decide (M 89 23 = 0) = false := decide_eq_false (by rw [← a1]; exact hp)
    obtain ⟨b1, b2⟩ := a8 hp
    by_cases ho : fk_ou v o = true
    · have c9 := c_M_order l g ov M v o a7 a6
      rw [hg9, ho] at c9
      refine ⟨2, 1, M, fk_th M 2, ov, _, by decide, by decide, h_order_t2 l g ov M M v (t_D_order2 l hfl g ov M v hp ?_) ⟨rfl, rfl⟩ ⟨by decide, by decide⟩, c9, fk_th_0, fun h => absurd h (by decide), h0.th hG 2⟩
      rw [b1]
      exact of_decide_eq_true ho
    · have hf : fk_ou v o = false := by simpa using ho
      obtain ⟨j, hj, rfl⟩ := fk_ou_in (by omega) hf
      have c9 := c_M_order l g (M 77 j).toInt64 M (nI j) o a7 a6
      rw [hg9, hf, if_neg (by decide), nI_clamp (by omega), ← b2 j hj] at c9
      exact ⟨0, 1, M, fk_th M 0, _, M 77 j, by decide, by decide, h_order_r l g ov M M (nI j) _ (c_D_order l g ov M j o hp b1 hj a6) ⟨rfl, rfl⟩ ⟨by decide, by decide⟩, c9, fk_th_0, fun _ => rfl, h0.th hG 0⟩
theorem o_present (hG : fk_Gs Gd) (l : Launch) (hfl : l.flags = flags0) : fk_o_present l (fk_Rel Gd) := by
  intro g ov M h v
  have h0 := h
  obtain ⟨n, ck, P, sz, Np, bb, sp, sl, x, dl, db, h1, h2, h3, h4, h5⟩ := h
  have hn := h1.1.2.1
  by_cases ho : fk_ou v n = true
  · have c9 := c_M_present l g ov M v n h1.2.1.2.1 hn
    rw [ho] at c9
    exact ⟨1, 1, M, fk_th M 1, ov, nI 0, by decide, by decide, h_present_t1 l g ov M M v (t_D_present1 l hfl g ov M n h1.1.1 v (fk_ou_hs ho)) ⟨rfl, rfl⟩ ⟨by decide, by decide⟩, c9, fk_th_0, fun h => absurd h (by decide), by decide, h0.th hG 1⟩
  · have hf : fk_ou v n = false := by simpa using ho
    obtain ⟨j, hj, rfl⟩ := fk_ou_in (by omega) hf
    obtain ⟨b1, b2, b3, b4⟩ := h4.2.2.2.2.1 j hj
    have h5 : M (3 + 6 * j) 5 = 0 ∨ M (3 + 6 * j) 5 = 1 := by rw [b2]; exact b3
    have c9 := c_M_present l g (M (3 + 6 * j) 5).toInt64 M (nI j) n h1.2.1.2.1 hn
    rw [hf, if_neg (by decide), nI_clamp (by omega)] at c9
    refine ⟨0, 1, M, fk_th M 0, _, M (3 + 6 * j) 5, by decide, by decide, h_present_r l g ov M M (nI j) _ h5 (c_D_present l g ov M n j h1.1.1 hn hj h5) ⟨rfl, rfl⟩ ⟨by decide, by decide⟩, ?_, fk_th_0, fun _ => rfl, h5, h0.th hG 0⟩
    have e : nI (decide (¬ M 96 j = 0)).toNat = M (3 + 6 * j) 5 := by
      rw [b2]
      rcases b3 with b3 | b3
      · rw [b3]; decide
      · rw [b3]; decide
    rw [e] at c9
    exact c9
theorem o_seen (hG : fk_Gs Gd) (l : Launch) (hfl : l.flags = flags0) : fk_o_seen l (fk_Rel Gd) := by
  intro g ov M h v
  have h0 := h
  obtain ⟨n, ck, P, sz, Np, bb, sp, sl, x, dl, db, h1, h2, h3, h4, h5⟩ := h
  have hn := h1.1.2.1
  by_cases ho : fk_ou v n = true
  · have c9 := c_M_seen l g ov M v n h1.2.1.2.1 hn
    rw [ho] at c9
    exact ⟨1, 1, M, fk_th M 1, ov, nI 0, by decide, by decide, h_seen_t1 l g ov M M v (t_D_seen1 l hfl g ov M n h1.1.1 v (fk_ou_hs ho)) ⟨rfl, rfl⟩ ⟨by decide, by decide⟩, c9, fk_th_0, fun h => absurd h (by decide), h0.th hG 1⟩
  · have hf : fk_ou v n = false := by simpa using ho
    obtain ⟨j, hj, rfl⟩ := fk_ou_in (by omega) hf
    obtain ⟨b1, b2, b3, b4⟩ := h4.2.2.2.2.1 j hj
    obtain ⟨c1, c2, c3, c4, c5⟩ := h1.1.2.2 j (by omega)
    have c9 := c_M_seen l g (M 83 (ck j)).toInt64 M (nI j) n h1.2.1.2.1 hn
    rw [hf, if_neg (by decide), nI_clamp (by omega), b1] at c9
    exact ⟨0, 1, M, fk_th M 0, _, M 83 (ck j), by decide, by decide, h_seen_r l g ov M M (nI j) _ (c_D_seen l g ov M n j h1.1.1 hn hj (ck j) c3 c4) ⟨rfl, rfl⟩ ⟨by decide, by decide⟩, c9, fk_th_0, fun _ => rfl, h0.th hG 0⟩
theorem o_value (hG : fk_Gs Gd) (l : Launch) (hfl : l.flags = flags0) : fk_o_value l (fk_Rel Gd) := by
  intro g ov M h v
  have h0 := h
  obtain ⟨n, ck, P, sz, Np, bb, sp, sl, x, dl, db, h1, h2, h3, h4, h5⟩ := h
  have hn := h1.1.2.1
  by_cases ho : fk_ou v n = true
  · have c9 := c_M_value l g ov M v n h1.2.1.2.1 hn
    rw [ho] at c9
    exact ⟨1, 1, M, fk_th M 1, ov, _, by decide, by decide, h_value_t1 l g ov M M v (t_D_value1 l hfl g ov M n h1.1.1 v (fk_ou_hs ho)) ⟨rfl, rfl⟩ ⟨by decide, by decide⟩, c9, fk_th_0, fun h => absurd h (by decide), h0.th hG 1⟩
  · have hf : fk_ou v n = false := by simpa using ho
    obtain ⟨j, hj, rfl⟩ := fk_ou_in (by omega) hf
    obtain ⟨b1, b2, b3, b4⟩ := h4.2.2.2.2.1 j hj
    obtain ⟨c1, c2, c3, c4, c5⟩ := h1.1.2.2 j (by omega)
    by_cases hs : M 95 j = 0
    · have c9 := c_M_value l g ov M (nI j) n h1.2.1.2.1 hn
      rw [hf, nI_clamp (by omega), show decide (¬ false = true ∧ M 95 j = 0) = true from decide_eq_true ⟨by decide, hs⟩] at c9
      exact ⟨2, 1, M, fk_th M 2, ov, _, by decide, by decide, h_value_t2 l g ov M M (nI j) (t_D_value2 l hfl g ov M n j h1.1.1 hn hj (ck j) c3 c4 (by rw [← b1]; exact hs)) ⟨rfl, rfl⟩ ⟨by decide, by decide⟩, c9, fk_th_0, fun h => absurd h (by decide), h0.th hG 2⟩
    · have c9 := c_M_value l g (M (3 + 6 * j) 6).toInt64 M (nI j) n h1.2.1.2.1 hn
      rw [hf, nI_clamp (by omega), show decide (¬ false = true ∧ M 95 j = 0) = false from decide_eq_false (fun q => hs q.2), if_neg (by decide), ← b4 hs] at c9
      exact ⟨0, 1, M, fk_th M 0, _, M (3 + 6 * j) 6, by decide, by decide, h_value_r l g ov M M (nI j) _ (c_D_value l g ov M n j h1.1.1 hn hj (ck j) c3 c4 (by rw [← b1]; exact hs)) ⟨rfl, rfl⟩ ⟨by decide, by decide⟩, c9, fk_th_0, fun _ => rfl, h0.th hG 0⟩
end
