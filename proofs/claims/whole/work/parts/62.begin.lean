/-! The law from its entry: the world is made, then the loop; and the claim. -/
section FKZ
variable {p : Program} {e : Env} {s : State} {m : MethodId} {below : List Frame} {meth : Method} {c : Code}
set_option maxHeartbeats 4000000 in
set_option maxRecDepth 100000 in
theorem fk_start (l : Launch) {b L : Nat} {xs : Nat → Int32} {Rr : Nat → fk_M → Prop} (hst : fk_steps l Rr) (hR0 : Rr 0 fk_M0) (hL : L ≤ 2048) (C0 : lw_At p s m meth c b L xs) : W p l e room_1 s m #[Value.ref b] below meth c s.heap [] 0 0 (lw_Z below #[Value.ref b] s) (entryFrame m ([Value.ref b] : List Value).toArray 7) := by
  obtain ⟨hx, hb, hr, hml, hown, hts, hX, hbl, hlk, hgv⟩ := C0
  obtain ⟨g, hg0, hg, E, Y, O⟩ := fk_entry hts hgv
  have S : fk_S p m c code 7 s #[Value.ref b] "FlowDeskLaw" := ⟨hx, hb, hml, hown, fun w hw => hts w (List.mem_filter.mp hw).1⟩
  have h0 : s.heap.size = g.2.2.2.1 + 0 := by rw [hg0]; rfl
  have G : fk_BH g 0 (fun _ => .inr (0, [])) s s.heap [] := ⟨fun k q hq => absurd (fk_ws_lt hq) (by omega), va_S.rf⟩
  have hl := lv_entry [Value.ref b] (n := 7) (Nat.le_of_ble_eq_true rfl)
  rw [lg_entry_eq]
  generalize hls : (lg_sl [Value.ref b] ++ List.replicate (7 - (lg_sl [Value.ref b]).length) Slot.unset).toArray = ls at hl ⊢
  have hl : lv_has ls 7 [(0, .ref b)] := hl
  refine fk_bnew hg S E h0 rfl G (ci := 6) rfl p_D bd_D i_16 i_17 i_1 ⟨by decide, by decide⟩ d_L_law_0 (fun H G => ?_)
  obtain ⟨C1, hC1⟩ : ∃ z : Nat → va_E, z = va_up (fun _ => .inr (0, [])) 0 (.inr (6, [.null, .null, .null, .null, .null])) := ⟨_, rfl⟩
  rw [← hC1] at G
  refine lv_dup S.1 S.2.1 d_L_law_3 rfl ?_
  refine fk_bci hg S E O h0 rfl G (rest := [.ref (fk_a g 0)]) (n0 := 0) (b_Di l g hg C1 (by rw [hC1, va_up_self])) i_20 i_19 i_1 (by decide +kernel) rfl i_18 ⟨rfl, rfl⟩ ⟨by decide, by decide⟩ rfl rfl hl.1 (Nat.le_of_ble_eq_true rfl) d_L_law_4 ⟨by decide, by decide⟩ (fun H locs G => ?_)
  refine lv_astore_n (lv' := [(1, .ref (fk_a g 0)), (0, .ref b)]) S.1 S.2.1 d_L_law_7 rfl hl (by decide) rfl (fun ls hl => ?_)
  refine fk_bnew hg S E h0 rfl G (ci := 7) rfl p_M bd_M i_616 i_617 i_8 ⟨by decide, by decide⟩ d_L_law_8 (fun H G => ?_)
  obtain ⟨C2, hC2⟩ : ∃ z : Nat → va_E, z = va_up (fk_mix g 0 C1) 89 (.inr (7, [.int 0, .int 0, .null, .null, .null, .null, .null, .null, .null, .null, .null, .null, .null, .null, .null, .null, .null, .null, .null, .int 0, .null, .int 0, .int 0, .int 0, .int 0, .int 0, .null, .int 0, .null, .int 0, .int 0])) := ⟨_, rfl⟩
  rw [← hC2] at G
  refine lv_dup S.1 S.2.1 d_L_law_11 rfl ?_
  refine fk_bci hg S E O h0 rfl G (rest := [.ref (fk_a g 89)]) (n0 := 0) (b_Mi l g hg C2 (by rw [hC2, va_up_self])) i_620 i_619 i_8 (by decide +kernel) rfl i_618 ⟨rfl, rfl⟩ ⟨by decide, by decide⟩ rfl rfl hl.1 (Nat.le_of_ble_eq_true rfl) d_L_law_12 ⟨by decide, by decide⟩ (fun H locs G => ?_)
  refine lv_astore_n (lv' := [(2, .ref (fk_a g 89)), (1, .ref (fk_a g 0)), (0, .ref b)]) S.1 S.2.1 d_L_law_15 rfl hl (by decide) rfl (fun ls hl => ?_)
  refine lv_iconst (v := nI 1) S.1 S.2.1 d_L_law_16 (by decide +kernel) ?_
  refine fk_bna hg S E h0 rfl G (atype := .long) fk_rw2 (fk_ra2 E) (N := 1) rfl (by decide) (a0 := (1, .inr (.inl (fun _ => 0)))) rfl (by decide) ⟨by decide, by decide⟩ d_L_law_17 (fun H G => ?_)
  refine lv_astore_n (lv' := [(3, .ref (fk_a g 110)), (2, .ref (fk_a g 89)), (1, .ref (fk_a g 0)), (0, .ref b)]) S.1 S.2.1 d_L_law_19 rfl hl (by decide) rfl (fun ls hl => ?_)
  refine lv_iconst (v := nI 0) S.1 S.2.1 d_L_law_20 (by decide +kernel) ?_
  refine lv_istore (lv' := fk_lv g b 0) S.1 S.2.1 d_L_law_21 hl (by decide) rfl (fun ls hl => ?_)
  have hw : fk_ws g 111 (va_up (fk_mix g 89 C2) 110 (.inl (g.2.1 2, 1, .inr (.inl (fun _ => 0))))) = fk_wl g 0 fk_M0 := by
    refine (fk_ws_eq (C' := fk_F g) (fun k hk => ?_)).trans rfl
    by_cases h1 : k = 110
    · subst h1
      rw [va_up_self]
      exact (fk_cell_110 (g := g) (ov := 0) (r := fk_M0 110)).symm
    · rw [va_up_ne _ _ h1]
      by_cases h2 : k < 89
      · rw [fk_mix_lt h2, hC2, va_up_ne _ _ (by omega), fk_mix_ge (Nat.zero_le _)]
      · rw [fk_mix_ge (by omega)]
  have G9 : fk_H g 0 fk_M0 s H locs := by
    obtain ⟨q1, q2⟩ := G
    rw [hw] at q1
    exact ⟨q1, by rw [← hw]; exact fk_ws_D hg, q2⟩
  exact fk_loop S hr hlk E Y hX hbl hg0 hL hst 512 0 0 fk_M0 H locs ls _ _ (by omega) (by omega) (by decide) (by decide) hR0 G9 hl
end FKZ
