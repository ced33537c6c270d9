/-! Contracts of Expression (readOne apart), Flow, Network. Written by wip/gen/s_expr.py. -/
theorem fk_nb {v : Int32} (h : v = 0 ∨ v = 1) : narrow .boolean (.int v) = .int v := by rcases h with rfl | rfl <;> rfl
theorem fk_fb {v : Int32} (h : v = 0 ∨ v = 1) : fits .boolean (.int v) = true := by rcases h with rfl | rfl <;> rfl
theorem fk_tv0 : ∀ k, k < 19 → (fk_tv 0).getD k 0 = nI (fk_hd k) := by decide +kernel
theorem fk_tv1 : ∀ k, k < 19 → (fk_tv 1).getD k 0 = nI (fk_ar k) := by decide +kernel
theorem fk_upid (M : fk_M) (k : Nat) : va_up M k (M k) = M := by
  funext j
  unfold va_up
  by_cases h : j = k
  · rw [if_pos h, h]
  · rw [if_neg h]
theorem d_E_append_0 : decode b_E_append 0 = .ok (.aload_n 0, 1) := by decide +kernel
theorem d_E_append_1 : decode b_E_append 1 = .ok (.getfield 9, 3) := by decide +kernel
theorem d_E_append_4 : decode b_E_append 4 = .ok (.aload_n 0, 1) := by decide +kernel
theorem d_E_append_5 : decode b_E_append 5 = .ok (.getfield 24, 3) := by decide +kernel
theorem d_E_append_8 : decode b_E_append 8 = .ok (.iload_n 1, 1) := by decide +kernel
theorem d_E_append_9 : decode b_E_append 9 = .ok (.iastore, 1) := by decide +kernel
theorem d_E_append_10 : decode b_E_append 10 = .ok (.aload_n 0, 1) := by decide +kernel
theorem d_E_append_11 : decode b_E_append 11 = .ok (.dup, 1) := by decide +kernel
theorem d_E_append_12 : decode b_E_append 12 = .ok (.getfield 24, 3) := by decide +kernel
theorem d_E_append_15 : decode b_E_append 15 = .ok (.iconst 1, 1) := by decide +kernel
theorem d_E_append_16 : decode b_E_append 16 = .ok (.iadd, 1) := by decide +kernel
theorem d_E_append_17 : decode b_E_append 17 = .ok (.putfield 24, 3) := by decide +kernel
theorem d_E_append_20 : decode b_E_append 20 = .ok (.return_, 1) := by decide +kernel
theorem m_E_append : fk_MI y_E_append b_E_append 2 none 1 := ⟨i_475, i_474, fk_mp (q := (y_E_append, 5)) (by decide +kernel), i_4, by decide +kernel⟩
set_option maxHeartbeats 4000000 in
set_option maxRecDepth 100000 in
theorem c_E_append (l : Launch) (g : fk_G) (ov : Int64) (M : fk_M) (x : Nat) (hX : fk_X x) (n : Nat) (hn : M x 4 = nI n) (h40 : n < 40) (v : Int32) : fk_CV l y_E_append b_E_append 2 (fk_rm 0) g ov M (va_up (va_up M (x + 1) (upd (M (x + 1)) n v)) x (upd (M x) 4 (nI (n + 1)))) [.ref (fk_a g x), .int v] := by
  refine fk_ofV rfl (Nat.le_of_ble_eq_true rfl) ?_
  intro p e s m args below meth c ls S hr hlk E G hl
  have hl : lv_has ls 2 [(0, .ref (fk_a g x)), (1, .int v)] := hl
  refine lv_aload_n S.1 S.2.1 d_E_append_0 rfl (lv_at hl 0 rfl) ?_
  refine fk_gf S E G x (by have := fk_Xlt hX; omega) (v := .ref (fk_a g (x + 1))) (congrArg (fk_ce g ov x (M x)) (fk_kx0 hX)) rfl 0 (by decide) rfl i_43 rfl d_E_append_1 ?_
  refine lv_aload_n S.1 S.2.1 d_E_append_4 rfl (lv_at hl 0 rfl) ?_
  refine fk_gf S E G x (by have := fk_Xlt hX; omega) (v := .int (M x 4)) (congrArg (fk_ce g ov x (M x)) (fk_kx0 hX)) rfl 4 (by decide) rfl i_56 rfl d_E_append_5 ?_
  rw [hn]
  refine lv_iload_n S.1 S.2.1 d_E_append_8 rfl (lv_at hl 1 rfl) ?_
  refine fk_is S E G (x + 1) (by have := fk_Xlt hX; omega) (fun r => congrArg (fk_ce g ov (x + 1) r) (fk_kx1 hX)) n rfl (by omega) (by decide) d_E_append_9 (fun H locs G => ?_)
  obtain ⟨M1, hM1⟩ : ∃ z : fk_M, z = va_up M (x + 1) (upd (M (x + 1)) n v) := ⟨_, rfl⟩
  rw [← hM1] at G
  have hx1 : M1 x = M x := by rw [hM1, va_up_ne _ _ (by omega)]
  refine lv_aload_n S.1 S.2.1 d_E_append_10 rfl (lv_at hl 0 rfl) ?_
  refine lv_dup S.1 S.2.1 d_E_append_11 rfl ?_
  refine fk_gf S E G x (by have := fk_Xlt hX; omega) (v := .int (M1 x 4)) (congrArg (fk_ce g ov x (M1 x)) (fk_kx0 hX)) rfl 4 (by decide) rfl i_56 rfl d_E_append_12 ?_
  rw [hx1, hn]
  refine lv_iconst (v := nI 1) S.1 S.2.1 d_E_append_15 (by decide +kernel) ?_
  refine fk_iadd S.1 S.2.1 d_E_append_16 ?_
  refine fk_pf S E G x (by have := fk_Xlt hX; omega) (congrArg (fk_ce g ov x (M1 x)) (fk_kx0 hX)) rfl 4 (by decide) rfl i_56 (upd (M1 x) 4 (nI (n + 1))) (congrArg (fk_ce g ov x (upd (M1 x) 4 (nI (n + 1)))) (fk_kx0 hX)) rfl (ty := (.int)) (by decide +kernel) rfl rfl (Nat.le_of_ble_eq_true rfl) d_E_append_17 (fun H locs G => ?_)
  obtain ⟨M2, hM2⟩ : ∃ z : fk_M, z = va_up M1 x (upd (M1 x) 4 (nI (n + 1))) := ⟨_, rfl⟩
  rw [← hM2] at G
  exact fk_vret S hr hlk E G (by rw [hM2, hx1, hM1]) d_E_append_20
theorem d_E_beginsAt_0 : decode b_E_beginsAt 0 = .ok (.aload_n 0, 1) := by decide +kernel
theorem d_E_beginsAt_1 : decode b_E_beginsAt 1 = .ok (.getfield 15, 3) := by decide +kernel
theorem d_E_beginsAt_4 : decode b_E_beginsAt 4 = .ok (.iload_n 1, 1) := by decide +kernel
theorem d_E_beginsAt_5 : decode b_E_beginsAt 5 = .ok (.iaload, 1) := by decide +kernel
theorem d_E_beginsAt_6 : decode b_E_beginsAt 6 = .ok (.ifCond .le 7, 3) := by decide +kernel
theorem d_E_beginsAt_9 : decode b_E_beginsAt 9 = .ok (.iconst 1, 1) := by decide +kernel
theorem d_E_beginsAt_10 : decode b_E_beginsAt 10 = .ok (.goto 4, 3) := by decide +kernel
theorem d_E_beginsAt_13 : decode b_E_beginsAt 13 = .ok (.iconst 0, 1) := by decide +kernel
theorem d_E_beginsAt_14 : decode b_E_beginsAt 14 = .ok (.ireturn, 1) := by decide +kernel
theorem m_E_beginsAt : fk_MI y_E_beginsAt b_E_beginsAt 2 (some .boolean) 1 := ⟨i_250, i_249, fk_mp (q := (y_E_beginsAt, 5)) (by decide +kernel), i_4, by decide +kernel⟩
set_option maxHeartbeats 4000000 in
set_option maxRecDepth 100000 in
theorem c_E_beginsAt (l : Launch) (g : fk_G) (ov : Int64) (M : fk_M) (x : Nat) (hX : fk_X x) (i : Nat) (hi : i < 40) : fk_CI l y_E_beginsAt b_E_beginsAt 2 (some .boolean) (fk_rm 0) g ov M M [.ref (fk_a g x), .int (nI i)] (nI (decide (0 < M (x + 2) i)).toNat) := by
  refine fk_ofI rfl (Nat.le_of_ble_eq_true rfl) ?_
  intro p e s m args below meth c ls S hr hlk E G hl
  have hl : lv_has ls 2 [(0, .ref (fk_a g x)), (1, .int (nI i))] := hl
  refine lv_aload_n S.1 S.2.1 d_E_beginsAt_0 rfl (lv_at hl 0 rfl) ?_
  refine fk_gf S E G x (by have := fk_Xlt hX; omega) (v := .ref (fk_a g (x + 2))) (congrArg (fk_ce g ov x (M x)) (fk_kx0 hX)) rfl 1 (by decide) rfl i_47 rfl d_E_beginsAt_1 ?_
  refine lv_iload_n S.1 S.2.1 d_E_beginsAt_4 rfl (lv_at hl 1 rfl) ?_
  refine fk_ia S E G (x + 2) (by have := fk_Xlt hX; omega) (congrArg (fk_ce g ov (x + 2) (M (x + 2))) (fk_kx2 hX)) i rfl (by omega) (by decide) (v := M (x + 2) i) rfl d_E_beginsAt_5 ?_
  refine lv_if_le (tgt := 13) S.1 S.2.1 d_E_beginsAt_6 rfl (fun hc1 => ?_) (fun hc1 => ?_)
  · refine lv_iconst (v := nI 0) S.1 S.2.1 d_E_beginsAt_13 (by decide +kernel) ?_
    exact fk_zret S hr hlk E G rfl (fk_b0 (decide_eq_false (Int32.not_lt.mpr hc1))) (fk_bz _) d_E_beginsAt_14
  · refine lv_iconst (v := nI 1) S.1 S.2.1 d_E_beginsAt_9 (by decide +kernel) ?_
    refine lv_goto (tgt := 14) S.1 S.2.1 d_E_beginsAt_10 rfl ?_
    exact fk_zret S hr hlk E G rfl (fk_b1 (decide_eq_true (Int32.not_le.mp hc1))) (fk_bz _) d_E_beginsAt_14
theorem d_E_firstPart_0 : decode b_E_firstPart 0 = .ok (.iload_n 1, 1) := by decide +kernel
theorem d_E_firstPart_1 : decode b_E_firstPart 1 = .ok (.getstatic 38, 3) := by decide +kernel
theorem d_E_firstPart_4 : decode b_E_firstPart 4 = .ok (.aload_n 0, 1) := by decide +kernel
theorem d_E_firstPart_5 : decode b_E_firstPart 5 = .ok (.getfield 9, 3) := by decide +kernel
theorem d_E_firstPart_8 : decode b_E_firstPart 8 = .ok (.iload_n 1, 1) := by decide +kernel
theorem d_E_firstPart_9 : decode b_E_firstPart 9 = .ok (.iaload, 1) := by decide +kernel
theorem d_E_firstPart_10 : decode b_E_firstPart 10 = .ok (.iaload, 1) := by decide +kernel
theorem d_E_firstPart_11 : decode b_E_firstPart 11 = .ok (.iadd, 1) := by decide +kernel
theorem d_E_firstPart_12 : decode b_E_firstPart 12 = .ok (.ireturn, 1) := by decide +kernel
theorem m_E_firstPart : fk_MI y_E_firstPart b_E_firstPart 2 (some .int) 1 := ⟨i_304, i_303, fk_mp (q := (y_E_firstPart, 5)) (by decide +kernel), i_4, by decide +kernel⟩
set_option maxHeartbeats 4000000 in
set_option maxRecDepth 100000 in
theorem c_E_firstPart (l : Launch) (g : fk_G) (ov : Int64) (M : fk_M) (x : Nat) (hX : fk_X x) (i k : Nat) (hi : i < 40) (hk : k < 19) (hb : M (x + 1) i = nI k) : fk_CI l y_E_firstPart b_E_firstPart 2 (some .int) (fk_rm 0) g ov M M [.ref (fk_a g x), .int (nI i)] (nI (i + fk_hd k)) := by
  refine fk_ofI rfl (Nat.le_of_ble_eq_true rfl) ?_
  intro p e s m args below meth c ls S hr hlk E G hl
  have hl : lv_has ls 2 [(0, .ref (fk_a g x)), (1, .int (nI i))] := hl
  refine lv_iload_n S.1 S.2.1 d_E_firstPart_0 rfl (lv_at hl 1 rfl) ?_
  refine fk_gsn S E G 0 (by decide) (List.mem_of_getElem? (i := 51) rfl) d_E_firstPart_1 ?_
  refine lv_aload_n S.1 S.2.1 d_E_firstPart_4 rfl (lv_at hl 0 rfl) ?_
  refine fk_gf S E G x (by have := fk_Xlt hX; omega) (v := .ref (fk_a g (x + 1))) (congrArg (fk_ce g ov x (M x)) (fk_kx0 hX)) rfl 0 (by decide) rfl i_43 rfl d_E_firstPart_5 ?_
  refine lv_iload_n S.1 S.2.1 d_E_firstPart_8 rfl (lv_at hl 1 rfl) ?_
  refine fk_ia S E G (x + 1) (by have := fk_Xlt hX; omega) (congrArg (fk_ce g ov (x + 1) (M (x + 1))) (fk_kx1 hX)) i rfl (by omega) (by decide) (v := nI k) hb d_E_firstPart_9 ?_
  refine fk_ti S E G 0 (by decide) k rfl hk (v := nI (fk_hd k)) (fk_tv0 k hk) d_E_firstPart_10 ?_
  refine fk_iadd S.1 S.2.1 d_E_firstPart_11 ?_
  exact fk_iret S hr hlk E G rfl rfl d_E_firstPart_12
theorem d_E_secondPart_0 : decode b_E_secondPart 0 = .ok (.aload_n 0, 1) := by decide +kernel
theorem d_E_secondPart_1 : decode b_E_secondPart 1 = .ok (.getfield 15, 3) := by decide +kernel
theorem d_E_secondPart_4 : decode b_E_secondPart 4 = .ok (.aload_n 0, 1) := by decide +kernel
theorem d_E_secondPart_5 : decode b_E_secondPart 5 = .ok (.iload_n 1, 1) := by decide +kernel
theorem d_E_secondPart_6 : decode b_E_secondPart 6 = .ok (.invokevirtual 48, 3) := by decide +kernel
theorem d_E_secondPart_9 : decode b_E_secondPart 9 = .ok (.iaload, 1) := by decide +kernel
theorem d_E_secondPart_10 : decode b_E_secondPart 10 = .ok (.ireturn, 1) := by decide +kernel
theorem m_E_secondPart : fk_MI y_E_secondPart b_E_secondPart 2 (some .int) 1 := ⟨i_571, i_570, fk_mp (q := (y_E_secondPart, 5)) (by decide +kernel), i_4, by decide +kernel⟩
set_option maxHeartbeats 4000000 in
set_option maxRecDepth 100000 in
theorem c_E_secondPart (l : Launch) (g : fk_G) (ov : Int64) (M : fk_M) (x : Nat) (hX : fk_X x) (i k : Nat) (hi : i < 40) (hk : k < 19) (hb : M (x + 1) i = nI k) (h1 : i + fk_hd k < 40) : fk_CI l y_E_secondPart b_E_secondPart 2 (some .int) (fk_rm 1) g ov M M [.ref (fk_a g x), .int (nI i)] (M (x + 2) (i + fk_hd k)) := by
  refine fk_ofI rfl (Nat.le_of_ble_eq_true rfl) ?_
  intro p e s m args below meth c ls S hr hlk E G hl
  have hl : lv_has ls 2 [(0, .ref (fk_a g x)), (1, .int (nI i))] := hl
  refine lv_aload_n S.1 S.2.1 d_E_secondPart_0 rfl (lv_at hl 0 rfl) ?_
  refine fk_gf S E G x (by have := fk_Xlt hX; omega) (v := .ref (fk_a g (x + 2))) (congrArg (fk_ce g ov x (M x)) (fk_kx0 hX)) rfl 1 (by decide) rfl i_47 rfl d_E_secondPart_1 ?_
  refine lv_aload_n S.1 S.2.1 d_E_secondPart_4 rfl (lv_at hl 0 rfl) ?_
  refine lv_iload_n S.1 S.2.1 d_E_secondPart_5 rfl (lv_at hl 1 rfl) ?_
  refine fk_cvi S E G x (by have := fk_Xlt hX; omega) (congrArg (fk_ce g ov x (M x)) (fk_kx0 hX)) rfl (rest := [.ref (fk_a g (x + 2))]) (c_E_firstPart l g ov M x hX i k hi hk hb) m_E_firstPart i_572 ⟨rfl, rfl⟩ ⟨by decide, by decide⟩ rfl rfl hl.1 (Nat.le_of_ble_eq_true rfl) d_E_secondPart_6 ⟨Nat.zero_le _, Nat.zero_le _⟩ (fun H locs G => ?_)
  refine fk_ia S E G (x + 2) (by have := fk_Xlt hX; omega) (congrArg (fk_ce g ov (x + 2) (M (x + 2))) (fk_kx2 hX)) (i + fk_hd k) rfl h1 (by decide) (v := M (x + 2) (i + fk_hd k)) rfl d_E_secondPart_9 ?_
  exact fk_iret S hr hlk E G rfl rfl d_E_secondPart_10
theorem d_E_thirdPart_0 : decode b_E_thirdPart 0 = .ok (.aload_n 0, 1) := by decide +kernel
theorem d_E_thirdPart_1 : decode b_E_thirdPart 1 = .ok (.getfield 15, 3) := by decide +kernel
theorem d_E_thirdPart_4 : decode b_E_thirdPart 4 = .ok (.aload_n 0, 1) := by decide +kernel
theorem d_E_thirdPart_5 : decode b_E_thirdPart 5 = .ok (.iload_n 1, 1) := by decide +kernel
theorem d_E_thirdPart_6 : decode b_E_thirdPart 6 = .ok (.invokevirtual 52, 3) := by decide +kernel
theorem d_E_thirdPart_9 : decode b_E_thirdPart 9 = .ok (.iaload, 1) := by decide +kernel
theorem d_E_thirdPart_10 : decode b_E_thirdPart 10 = .ok (.ireturn, 1) := by decide +kernel
theorem m_E_thirdPart : fk_MI y_E_thirdPart b_E_thirdPart 2 (some .int) 1 := ⟨i_576, i_575, fk_mp (q := (y_E_thirdPart, 5)) (by decide +kernel), i_4, by decide +kernel⟩
set_option maxHeartbeats 4000000 in
set_option maxRecDepth 100000 in
theorem c_E_thirdPart (l : Launch) (g : fk_G) (ov : Int64) (M : fk_M) (x : Nat) (hX : fk_X x) (i k : Nat) (hi : i < 40) (hk : k < 19) (hb : M (x + 1) i = nI k) (h1 : i + fk_hd k < 40) (q : Nat) (h2 : M (x + 2) (i + fk_hd k) = nI q) (hq : q < 40) : fk_CI l y_E_thirdPart b_E_thirdPart 2 (some .int) (fk_rm 2) g ov M M [.ref (fk_a g x), .int (nI i)] (M (x + 2) q) := by
  refine fk_ofI rfl (Nat.le_of_ble_eq_true rfl) ?_
  intro p e s m args below meth c ls S hr hlk E G hl
  have hl : lv_has ls 2 [(0, .ref (fk_a g x)), (1, .int (nI i))] := hl
  refine lv_aload_n S.1 S.2.1 d_E_thirdPart_0 rfl (lv_at hl 0 rfl) ?_
  refine fk_gf S E G x (by have := fk_Xlt hX; omega) (v := .ref (fk_a g (x + 2))) (congrArg (fk_ce g ov x (M x)) (fk_kx0 hX)) rfl 1 (by decide) rfl i_47 rfl d_E_thirdPart_1 ?_
  refine lv_aload_n S.1 S.2.1 d_E_thirdPart_4 rfl (lv_at hl 0 rfl) ?_
  refine lv_iload_n S.1 S.2.1 d_E_thirdPart_5 rfl (lv_at hl 1 rfl) ?_
  refine fk_cvi S E G x (by have := fk_Xlt hX; omega) (congrArg (fk_ce g ov x (M x)) (fk_kx0 hX)) rfl (rest := [.ref (fk_a g (x + 2))]) (h2 ▸ c_E_secondPart l g ov M x hX i k hi hk hb h1) m_E_secondPart i_577 ⟨rfl, rfl⟩ ⟨by decide, by decide⟩ rfl rfl hl.1 (Nat.le_of_ble_eq_true rfl) d_E_thirdPart_6 ⟨Nat.zero_le _, Nat.zero_le _⟩ (fun H locs G => ?_)
  refine fk_ia S E G (x + 2) (by have := fk_Xlt hX; omega) (congrArg (fk_ce g ov (x + 2) (M (x + 2))) (fk_kx2 hX)) q rfl hq (by decide) (v := M (x + 2) q) rfl d_E_thirdPart_9 ?_
  exact fk_iret S hr hlk E G rfl rfl d_E_thirdPart_10
theorem d_E_named_0 : decode b_E_named 0 = .ok (.aload_n 0, 1) := by decide +kernel
theorem d_E_named_1 : decode b_E_named 1 = .ok (.getfield 9, 3) := by decide +kernel
theorem d_E_named_4 : decode b_E_named 4 = .ok (.iload_n 1, 1) := by decide +kernel
theorem d_E_named_5 : decode b_E_named 5 = .ok (.iconst 1, 1) := by decide +kernel
theorem d_E_named_6 : decode b_E_named 6 = .ok (.iadd, 1) := by decide +kernel
theorem d_E_named_7 : decode b_E_named 7 = .ok (.iaload, 1) := by decide +kernel
theorem d_E_named_8 : decode b_E_named 8 = .ok (.ireturn, 1) := by decide +kernel
theorem m_E_named : fk_MI y_E_named b_E_named 2 (some .int) 1 := ⟨i_260, i_259, fk_mp (q := (y_E_named, 5)) (by decide +kernel), i_4, by decide +kernel⟩
set_option maxHeartbeats 4000000 in
set_option maxRecDepth 100000 in
theorem c_E_named (l : Launch) (g : fk_G) (ov : Int64) (M : fk_M) (x : Nat) (hX : fk_X x) (i : Nat) (hi : i + 1 < 40) : fk_CI l y_E_named b_E_named 2 (some .int) (fk_rm 0) g ov M M [.ref (fk_a g x), .int (nI i)] (M (x + 1) (i + 1)) := by
  refine fk_ofI rfl (Nat.le_of_ble_eq_true rfl) ?_
  intro p e s m args below meth c ls S hr hlk E G hl
  have hl : lv_has ls 2 [(0, .ref (fk_a g x)), (1, .int (nI i))] := hl
  refine lv_aload_n S.1 S.2.1 d_E_named_0 rfl (lv_at hl 0 rfl) ?_
  refine fk_gf S E G x (by have := fk_Xlt hX; omega) (v := .ref (fk_a g (x + 1))) (congrArg (fk_ce g ov x (M x)) (fk_kx0 hX)) rfl 0 (by decide) rfl i_43 rfl d_E_named_1 ?_
  refine lv_iload_n S.1 S.2.1 d_E_named_4 rfl (lv_at hl 1 rfl) ?_
  refine lv_iconst (v := nI 1) S.1 S.2.1 d_E_named_5 (by decide +kernel) ?_
  refine fk_iadd S.1 S.2.1 d_E_named_6 ?_
  refine fk_ia S E G (x + 1) (by have := fk_Xlt hX; omega) (congrArg (fk_ce g ov (x + 1) (M (x + 1))) (fk_kx1 hX)) (i + 1) rfl (by omega) (by decide) (v := M (x + 1) (i + 1)) rfl d_E_named_7 ?_
  exact fk_iret S hr hlk E G rfl rfl d_E_named_8
theorem d_F_hasEquation_0 : decode b_F_hasEquation 0 = .ok (.aload_n 0, 1) := by decide +kernel
theorem d_F_hasEquation_1 : decode b_F_hasEquation 1 = .ok (.getfield 10, 3) := by decide +kernel
theorem d_F_hasEquation_4 : decode b_F_hasEquation 4 = .ok (.getfield 16, 3) := by decide +kernel
theorem d_F_hasEquation_7 : decode b_F_hasEquation 7 = .ok (.ifCond .le 7, 3) := by decide +kernel
theorem d_F_hasEquation_10 : decode b_F_hasEquation 10 = .ok (.iconst 1, 1) := by decide +kernel
theorem d_F_hasEquation_11 : decode b_F_hasEquation 11 = .ok (.goto 4, 3) := by decide +kernel
theorem d_F_hasEquation_14 : decode b_F_hasEquation 14 = .ok (.iconst 0, 1) := by decide +kernel
theorem d_F_hasEquation_15 : decode b_F_hasEquation 15 = .ok (.ireturn, 1) := by decide +kernel
theorem m_F_hasEquation : fk_MI y_F_hasEquation b_F_hasEquation 1 (some .boolean) 0 := ⟨i_277, i_276, fk_mp (q := (y_F_hasEquation, 7)) (by decide +kernel), i_3, by decide +kernel⟩
set_option maxHeartbeats 4000000 in
set_option maxRecDepth 100000 in
theorem c_F_hasEquation (l : Launch) (g : fk_G) (ov : Int64) (M : fk_M) (j q : Nat) (hj : j < 12) (hq : M (3 + 6 * j) 0 = nI q) (hX : fk_X q) : fk_CI l y_F_hasEquation b_F_hasEquation 1 (some .boolean) (fk_rm 0) g ov M M [.ref (fk_a g (3 + 6 * j))] (nI (decide (0 < M q 4)).toNat) := by
  refine fk_ofI rfl (Nat.le_of_ble_eq_true rfl) ?_
  intro p e s m args below meth c ls S hr hlk E G hl
  have hl : lv_has ls 1 [(0, .ref (fk_a g (3 + 6 * j)))] := hl
  refine lv_aload_n S.1 S.2.1 d_F_hasEquation_0 rfl (lv_at hl 0 rfl) ?_
  refine fk_gf S E G (3 + 6 * j) (by omega) (v := .ref (fk_a g q)) (fk_flow hj hq (fk_Xb hX)) rfl 0 (by decide) rfl i_73 rfl d_F_hasEquation_1 ?_
  refine fk_gn S E G q (by have := fk_Xlt hX; omega) (v := .int (M q 4)) (congrArg (fk_ce g ov q (M q)) (fk_kx0 hX)) rfl 4 (by decide) rfl (List.mem_of_getElem? (i := 8) rfl) rfl d_F_hasEquation_4 ?_
  refine lv_if_le (tgt := 14) S.1 S.2.1 d_F_hasEquation_7 rfl (fun hc1 => ?_) (fun hc1 => ?_)
  · refine lv_iconst (v := nI 0) S.1 S.2.1 d_F_hasEquation_14 (by decide +kernel) ?_
    exact fk_zret S hr hlk E G rfl (fk_b0 (decide_eq_false (Int32.not_lt.mpr hc1))) (fk_bz _) d_F_hasEquation_15
  · refine lv_iconst (v := nI 1) S.1 S.2.1 d_F_hasEquation_10 (by decide +kernel) ?_
    refine lv_goto (tgt := 15) S.1 S.2.1 d_F_hasEquation_11 rfl ?_
    exact fk_zret S hr hlk E G rfl (fk_b1 (decide_eq_true (Int32.not_le.mp hc1))) (fk_bz _) d_F_hasEquation_15
/-- v is the number of one of n flows -/
def fk_hs (v : Int32) (n : Nat) : Bool := decide (¬ v < 0 ∧ ¬ nI n ≤ v)
theorem d_N_has_0 : decode b_N_has 0 = .ok (.iload_n 1, 1) := by decide +kernel
theorem d_N_has_1 : decode b_N_has 1 = .ok (.ifCond .lt 15, 3) := by decide +kernel
theorem d_N_has_4 : decode b_N_has 4 = .ok (.iload_n 1, 1) := by decide +kernel
theorem d_N_has_5 : decode b_N_has 5 = .ok (.aload_n 0, 1) := by decide +kernel
theorem d_N_has_6 : decode b_N_has 6 = .ok (.getfield 18, 3) := by decide +kernel
theorem d_N_has_9 : decode b_N_has 9 = .ok (.if_icmp .ge 7, 3) := by decide +kernel
theorem d_N_has_12 : decode b_N_has 12 = .ok (.iconst 1, 1) := by decide +kernel
theorem d_N_has_13 : decode b_N_has 13 = .ok (.goto 4, 3) := by decide +kernel
theorem d_N_has_16 : decode b_N_has 16 = .ok (.iconst 0, 1) := by decide +kernel
theorem d_N_has_17 : decode b_N_has 17 = .ok (.ireturn, 1) := by decide +kernel
theorem m_N_has : fk_MI y_N_has b_N_has 2 (some .boolean) 1 := ⟨i_369, i_368, fk_mp (q := (y_N_has, 2)) (by decide +kernel), i_2, by decide +kernel⟩
set_option maxHeartbeats 4000000 in
set_option maxRecDepth 100000 in
theorem c_N_has (l : Launch) (g : fk_G) (ov : Int64) (M : fk_M) (v : Int32) (n : Nat) (hn : M 1 1 = nI n) : fk_CI l y_N_has b_N_has 2 (some .boolean) (fk_rm 0) g ov M M [.ref (fk_a g 1), .int v] (nI (fk_hs v n).toNat) := by
  refine fk_ofI rfl (Nat.le_of_ble_eq_true rfl) ?_
  intro p e s m args below meth c ls S hr hlk E G hl
  have hl : lv_has ls 2 [(0, .ref (fk_a g 1)), (1, .int v)] := hl
  refine lv_iload_n S.1 S.2.1 d_N_has_0 rfl (lv_at hl 1 rfl) ?_
  refine lv_if_lt (tgt := 16) S.1 S.2.1 d_N_has_1 rfl (fun hc1 => ?_) (fun hc1 => ?_)
  · refine lv_iconst (v := nI 0) S.1 S.2.1 d_N_has_16 (by decide +kernel) ?_
    exact fk_zret S hr hlk E G rfl (fk_b0 (decide_eq_false (fun q => q.1 hc1))) (fk_bz _) d_N_has_17
  · refine lv_iload_n S.1 S.2.1 d_N_has_4 rfl (lv_at hl 1 rfl) ?_
    refine lv_aload_n S.1 S.2.1 d_N_has_5 rfl (lv_at hl 0 rfl) ?_
    refine fk_gf S E G 1 (by decide) (v := .int (M 1 1)) (congrArg (fk_ce g ov 1 (M 1)) kd_1) rfl 1 (by decide) rfl i_115 rfl d_N_has_6 ?_
    rw [hn]
    refine lv_icmp_ge (tgt := 16) S.1 S.2.1 d_N_has_9 rfl (fun hc2 => ?_) (fun hc2 => ?_)
    · refine lv_iconst (v := nI 0) S.1 S.2.1 d_N_has_16 (by decide +kernel) ?_
      exact fk_zret S hr hlk E G rfl (fk_b0 (decide_eq_false (fun q => q.2 hc2))) (fk_bz _) d_N_has_17
    · refine lv_iconst (v := nI 1) S.1 S.2.1 d_N_has_12 (by decide +kernel) ?_
      refine lv_goto (tgt := 17) S.1 S.2.1 d_N_has_13 rfl ?_
      exact fk_zret S hr hlk E G rfl (fk_b1 (decide_eq_true ⟨hc1, hc2⟩)) (fk_bz _) d_N_has_17
theorem fk_hs_nI {j n : Nat} (hj : j < 2 ^ 31) (hn : n < 2 ^ 31) : fk_hs (nI j) n = decide (j < n) := by
  unfold fk_hs
  by_cases h : j < n
  · rw [decide_eq_true h, decide_eq_true ⟨nI_pos hj, nI_ge h hn⟩]
  · rw [decide_eq_false h, decide_eq_false (fun q => q.2 (nI_le (by omega) hj))]
/-- a clock: the basic one, or one of a boolean flow's two -/
def fk_ic (M : fk_M) (n c : Nat) : Bool := decide ((c - 1) / 2 < n ∧ ¬ M (3 + 6 * ((c - 1) / 2)) 1 = 0)
theorem d_N_isClock_0 : decode b_N_isClock 0 = .ok (.iload_n 1, 1) := by decide +kernel
theorem d_N_isClock_1 : decode b_N_isClock 1 = .ok (.ifCond .gt 13, 3) := by decide +kernel
theorem d_N_isClock_4 : decode b_N_isClock 4 = .ok (.iload_n 1, 1) := by decide +kernel
theorem d_N_isClock_5 : decode b_N_isClock 5 = .ok (.ifCond .ne 7, 3) := by decide +kernel
theorem d_N_isClock_8 : decode b_N_isClock 8 = .ok (.iconst 1, 1) := by decide +kernel
theorem d_N_isClock_9 : decode b_N_isClock 9 = .ok (.goto 4, 3) := by decide +kernel
theorem d_N_isClock_12 : decode b_N_isClock 12 = .ok (.iconst 0, 1) := by decide +kernel
theorem d_N_isClock_13 : decode b_N_isClock 13 = .ok (.ireturn, 1) := by decide +kernel
theorem d_N_isClock_14 : decode b_N_isClock 14 = .ok (.aload_n 0, 1) := by decide +kernel
theorem d_N_isClock_15 : decode b_N_isClock 15 = .ok (.iload_n 1, 1) := by decide +kernel
theorem d_N_isClock_16 : decode b_N_isClock 16 = .ok (.invokestatic 22, 3) := by decide +kernel
theorem d_N_isClock_19 : decode b_N_isClock 19 = .ok (.invokevirtual 26, 3) := by decide +kernel
theorem d_N_isClock_22 : decode b_N_isClock 22 = .ok (.ifCond .eq 22, 3) := by decide +kernel
theorem d_N_isClock_25 : decode b_N_isClock 25 = .ok (.aload_n 0, 1) := by decide +kernel
theorem d_N_isClock_26 : decode b_N_isClock 26 = .ok (.getfield 11, 3) := by decide +kernel
theorem d_N_isClock_29 : decode b_N_isClock 29 = .ok (.iload_n 1, 1) := by decide +kernel
theorem d_N_isClock_30 : decode b_N_isClock 30 = .ok (.invokestatic 22, 3) := by decide +kernel
theorem d_N_isClock_33 : decode b_N_isClock 33 = .ok (.aaload, 1) := by decide +kernel
theorem d_N_isClock_34 : decode b_N_isClock 34 = .ok (.getfield 30, 3) := by decide +kernel
theorem d_N_isClock_37 : decode b_N_isClock 37 = .ok (.ifCond .eq 7, 3) := by decide +kernel
theorem d_N_isClock_40 : decode b_N_isClock 40 = .ok (.iconst 1, 1) := by decide +kernel
theorem d_N_isClock_41 : decode b_N_isClock 41 = .ok (.goto 4, 3) := by decide +kernel
theorem d_N_isClock_44 : decode b_N_isClock 44 = .ok (.iconst 0, 1) := by decide +kernel
theorem d_N_isClock_45 : decode b_N_isClock 45 = .ok (.ireturn, 1) := by decide +kernel
theorem m_N_isClock : fk_MI y_N_isClock b_N_isClock 2 (some .boolean) 1 := ⟨i_364, i_363, fk_mp (q := (y_N_isClock, 2)) (by decide +kernel), i_2, by decide +kernel⟩
set_option maxHeartbeats 4000000 in
set_option maxRecDepth 100000 in
theorem c_N_isClock (l : Launch) (g : fk_G) (ov : Int64) (M : fk_M) (ck : Nat) (h0 : 0 < ck) (hc : ck < 2 ^ 31) (n : Nat) (hn : M 1 1 = nI n) (h12 : n ≤ 12) : fk_CI l y_N_isClock b_N_isClock 2 (some .boolean) (fk_rm 1) g ov M M [.ref (fk_a g 1), .int (nI ck)] (nI (fk_ic M n ck).toNat) := by
  refine fk_ofI rfl (Nat.le_of_ble_eq_true rfl) ?_
  intro p e s m args below meth c ls S hr hlk E G hl
  have hl : lv_has ls 2 [(0, .ref (fk_a g 1)), (1, .int (nI ck))] := hl
  refine lv_iload_n S.1 S.2.1 d_N_isClock_0 rfl (lv_at hl 1 rfl) ?_
  refine fk_zgt (tgt := 14) S.1 S.2.1 hc d_N_isClock_1 rfl (fun hc1 => ?_) (fun hc1 => ?_)
  · refine lv_aload_n S.1 S.2.1 d_N_isClock_14 rfl (lv_at hl 0 rfl) ?_
    refine lv_iload_n S.1 S.2.1 d_N_isClock_15 rfl (lv_at hl 1 rfl) ?_
    refine fk_cti S E G (rest := [.ref (fk_a g 1)]) (c_D_flowBehind l g ov M ck h0 hc) m_D_flowBehind (List.mem_of_getElem? (i := 24) rfl) ⟨rfl, rfl⟩ ⟨by decide, by decide⟩ rfl rfl hl.1 (Nat.le_of_ble_eq_true rfl) d_N_isClock_16 ⟨Nat.zero_le _, Nat.zero_le _⟩ (fun H locs G => ?_)
    refine fk_cvi S E G 1 (by decide) (congrArg (fk_ce g ov 1 (M 1)) kd_1) rfl (rest := []) (fk_hs_nI (j := (ck - 1) / 2) (n := n) (by omega) (by omega) ▸ c_N_has l g ov M (nI ((ck - 1) / 2)) n hn) m_N_has i_366 ⟨rfl, rfl⟩ ⟨by decide, by decide⟩ rfl rfl hl.1 (Nat.le_of_ble_eq_true rfl) d_N_isClock_19 ⟨Nat.zero_le _, Nat.zero_le _⟩ (fun H locs G => ?_)
    refine fk_zeq (tgt := 44) S.1 S.2.1 (fk_bl _) d_N_isClock_22 rfl (fun hc2 => ?_) (fun hc2 => ?_)
    · have hc2 := of_decide_eq_false (fk_bf hc2)
      refine lv_iconst (v := nI 0) S.1 S.2.1 d_N_isClock_44 (by decide +kernel) ?_
      exact fk_zret S hr hlk E G rfl (fk_b0 (decide_eq_false (fun q => hc2 q.1))) (fk_bz _) d_N_isClock_45
    · have hc2 := of_decide_eq_true (fk_bt hc2)
      refine lv_aload_n S.1 S.2.1 d_N_isClock_25 rfl (lv_at hl 0 rfl) ?_
      refine fk_gf S E G 1 (by decide) (v := .ref (fk_a g 2)) (congrArg (fk_ce g ov 1 (M 1)) kd_1) rfl 0 (by decide) rfl i_110 rfl d_N_isClock_26 ?_
      refine lv_iload_n S.1 S.2.1 d_N_isClock_29 rfl (lv_at hl 1 rfl) ?_
      refine fk_cti S E G (rest := [.ref (fk_a g 2)]) (c_D_flowBehind l g ov M ck h0 hc) m_D_flowBehind (List.mem_of_getElem? (i := 24) rfl) ⟨rfl, rfl⟩ ⟨by decide, by decide⟩ rfl rfl hl.1 (Nat.le_of_ble_eq_true rfl) d_N_isClock_30 ⟨Nat.zero_le _, Nat.zero_le _⟩ (fun H locs G => ?_)
      refine fk_rw S E G ((ck - 1) / 2) rfl (by omega) d_N_isClock_33 ?_
      refine fk_gn S E G (3 + 6 * ((ck - 1) / 2)) (by omega) (v := .int (M (3 + 6 * ((ck - 1) / 2)) 1)) (congrArg (fk_ce g ov (3 + 6 * ((ck - 1) / 2)) (M (3 + 6 * ((ck - 1) / 2)))) (fk_kf (show (ck - 1) / 2 < 12 by omega))) rfl 1 (by decide) rfl (List.mem_of_getElem? (i := 17) rfl) rfl d_N_isClock_34 ?_
      refine lv_if_eq (tgt := 44) S.1 S.2.1 d_N_isClock_37 rfl (fun hc3 => ?_) (fun hc3 => ?_)
      · refine lv_iconst (v := nI 0) S.1 S.2.1 d_N_isClock_44 (by decide +kernel) ?_
        exact fk_zret S hr hlk E G rfl (fk_b0 (decide_eq_false (fun q => q.2 hc3))) (fk_bz _) d_N_isClock_45
      · refine lv_iconst (v := nI 1) S.1 S.2.1 d_N_isClock_40 (by decide +kernel) ?_
        refine lv_goto (tgt := 45) S.1 S.2.1 d_N_isClock_41 rfl ?_
        exact fk_zret S hr hlk E G rfl (fk_b1 (decide_eq_true ⟨hc2, hc3⟩)) (fk_bz _) d_N_isClock_45
  · exact absurd hc1 (by omega)
set_option maxHeartbeats 4000000 in
set_option maxRecDepth 100000 in
theorem c_N_isClock0 (l : Launch) (g : fk_G) (ov : Int64) (M : fk_M) (v : Int32) (hv : ¬ 0 < v) : fk_CI l y_N_isClock b_N_isClock 2 (some .boolean) (fk_rm 0) g ov M M [.ref (fk_a g 1), .int v] (nI (decide (v = 0)).toNat) := by
  refine fk_ofI rfl (Nat.le_of_ble_eq_true rfl) ?_
  intro p e s m args below meth c ls S hr hlk E G hl
  have hl : lv_has ls 2 [(0, .ref (fk_a g 1)), (1, .int v)] := hl
  refine lv_iload_n S.1 S.2.1 d_N_isClock_0 rfl (lv_at hl 1 rfl) ?_
  refine lv_if_gt (tgt := 14) S.1 S.2.1 d_N_isClock_1 rfl (fun hc1 => ?_) (fun hc1 => ?_)
  · exact absurd hc1 hv
  · refine lv_iload_n S.1 S.2.1 d_N_isClock_4 rfl (lv_at hl 1 rfl) ?_
    refine lv_if_ne (tgt := 12) S.1 S.2.1 d_N_isClock_5 rfl (fun hc2 => ?_) (fun hc2 => ?_)
    · refine lv_iconst (v := nI 0) S.1 S.2.1 d_N_isClock_12 (by decide +kernel) ?_
      exact fk_zret S hr hlk E G rfl (fk_b0 (decide_eq_false hc2)) (fk_bz _) d_N_isClock_13
    · refine lv_iconst (v := nI 1) S.1 S.2.1 d_N_isClock_8 (by decide +kernel) ?_
      refine lv_goto (tgt := 13) S.1 S.2.1 d_N_isClock_9 rfl ?_
      exact fk_zret S hr hlk E G rfl (fk_b1 (decide_eq_true hc2)) (fk_bz _) d_N_isClock_13
theorem d_N_append_0 : decode b_N_append 0 = .ok (.aload_n 0, 1) := by decide +kernel
theorem d_N_append_1 : decode b_N_append 1 = .ok (.getfield 11, 3) := by decide +kernel
theorem d_N_append_4 : decode b_N_append 4 = .ok (.aload_n 0, 1) := by decide +kernel
theorem d_N_append_5 : decode b_N_append 5 = .ok (.getfield 18, 3) := by decide +kernel
theorem d_N_append_8 : decode b_N_append 8 = .ok (.aaload, 1) := by decide +kernel
theorem d_N_append_9 : decode b_N_append 9 = .ok (.astore 4, 2) := by decide +kernel
theorem d_N_append_11 : decode b_N_append 11 = .ok (.aload 4, 2) := by decide +kernel
theorem d_N_append_13 : decode b_N_append 13 = .ok (.iload_n 1, 1) := by decide +kernel
theorem d_N_append_14 : decode b_N_append 14 = .ok (.putfield 30, 3) := by decide +kernel
theorem d_N_append_17 : decode b_N_append 17 = .ok (.aload 4, 2) := by decide +kernel
theorem d_N_append_19 : decode b_N_append 19 = .ok (.iload_n 2, 1) := by decide +kernel
theorem d_N_append_20 : decode b_N_append 20 = .ok (.putfield 34, 3) := by decide +kernel
theorem d_N_append_23 : decode b_N_append 23 = .ok (.aload 4, 2) := by decide +kernel
theorem d_N_append_25 : decode b_N_append 25 = .ok (.iload_n 3, 1) := by decide +kernel
theorem d_N_append_26 : decode b_N_append 26 = .ok (.putfield 37, 3) := by decide +kernel
theorem d_N_append_29 : decode b_N_append 29 = .ok (.aload_n 0, 1) := by decide +kernel
theorem d_N_append_30 : decode b_N_append 30 = .ok (.dup, 1) := by decide +kernel
theorem d_N_append_31 : decode b_N_append 31 = .ok (.getfield 18, 3) := by decide +kernel
theorem d_N_append_34 : decode b_N_append 34 = .ok (.iconst 1, 1) := by decide +kernel
theorem d_N_append_35 : decode b_N_append 35 = .ok (.iadd, 1) := by decide +kernel
theorem d_N_append_36 : decode b_N_append 36 = .ok (.putfield 18, 3) := by decide +kernel
theorem d_N_append_39 : decode b_N_append 39 = .ok (.aload_n 0, 1) := by decide +kernel
theorem d_N_append_40 : decode b_N_append 40 = .ok (.getfield 18, 3) := by decide +kernel
theorem d_N_append_43 : decode b_N_append 43 = .ok (.iconst 1, 1) := by decide +kernel
theorem d_N_append_44 : decode b_N_append 44 = .ok (.isub, 1) := by decide +kernel
theorem d_N_append_45 : decode b_N_append 45 = .ok (.ireturn, 1) := by decide +kernel
theorem m_N_append : fk_MI y_N_append b_N_append 5 (some .int) 3 := ⟨i_457, i_456, fk_mp (q := (y_N_append, 2)) (by decide +kernel), i_2, by decide +kernel⟩
set_option maxHeartbeats 4000000 in
set_option maxRecDepth 100000 in
theorem c_N_append (l : Launch) (g : fk_G) (ov : Int64) (M : fk_M) (n : Nat) (hn : M 1 1 = nI n) (h12 : n < 12) (vb vc vi : Int32) (hb : vb = 0 ∨ vb = 1) (hi : vi = 0 ∨ vi = 1) : fk_CI l y_N_append b_N_append 5 (some .int) (fk_rm 0) g ov M (va_up (va_up M (3 + 6 * n) (upd (upd (upd (M (3 + 6 * n)) 1 vb) 3 vc) 2 vi)) 1 (upd (M 1) 1 (nI (n + 1)))) [.ref (fk_a g 1), .int vb, .int vc, .int vi] (nI n) := by
  refine fk_ofI rfl (Nat.le_of_ble_eq_true rfl) ?_
  intro p e s m args below meth c ls S hr hlk E G hl
  have hl : lv_has ls 5 [(0, .ref (fk_a g 1)), (1, .int vb), (2, .int vc), (3, .int vi)] := hl
  refine lv_aload_n S.1 S.2.1 d_N_append_0 rfl (lv_at hl 0 rfl) ?_
  refine fk_gf S E G 1 (by decide) (v := .ref (fk_a g 2)) (congrArg (fk_ce g ov 1 (M 1)) kd_1) rfl 0 (by decide) rfl i_110 rfl d_N_append_1 ?_
  refine lv_aload_n S.1 S.2.1 d_N_append_4 rfl (lv_at hl 0 rfl) ?_
  refine fk_gf S E G 1 (by decide) (v := .int (M 1 1)) (congrArg (fk_ce g ov 1 (M 1)) kd_1) rfl 1 (by decide) rfl i_115 rfl d_N_append_5 ?_
  rw [hn]
  refine fk_rw S E G n rfl (by omega) d_N_append_8 ?_
  refine lv_astore (lv' := [(4, .ref (fk_a g (3 + 6 * n))), (0, .ref (fk_a g 1)), (1, .int vb), (2, .int vc), (3, .int vi)]) S.1 S.2.1 d_N_append_9 hl (by decide) rfl (fun ls hl => ?_)
  refine lv_aload S.1 S.2.1 d_N_append_11 (lv_at hl 0 rfl) ?_
  refine lv_iload_n S.1 S.2.1 d_N_append_13 rfl (lv_at hl 2 rfl) ?_
  refine fk_pn S E G (3 + 6 * n) (by omega) (congrArg (fk_ce g ov (3 + 6 * n) (M (3 + 6 * n))) (fk_kf h12)) rfl 1 (by decide) rfl (List.mem_of_getElem? (i := 17) rfl) (upd (M (3 + 6 * n)) 1 vb) (congrArg (fk_ce g ov (3 + 6 * n) (upd (M (3 + 6 * n)) 1 vb)) (fk_kf h12)) rfl (ty := (.boolean)) (by decide +kernel) (fk_nb hb) (fk_fb hb) (Nat.le_of_ble_eq_true rfl) d_N_append_14 (fun H locs G => ?_)
  obtain ⟨M1, hM1⟩ : ∃ z : fk_M, z = va_up M (3 + 6 * n) (upd (M (3 + 6 * n)) 1 vb) := ⟨_, rfl⟩
  rw [← hM1] at G
  refine lv_aload S.1 S.2.1 d_N_append_17 (lv_at hl 0 rfl) ?_
  refine lv_iload_n S.1 S.2.1 d_N_append_19 rfl (lv_at hl 3 rfl) ?_
  refine fk_pn S E G (3 + 6 * n) (by omega) (congrArg (fk_ce g ov (3 + 6 * n) (M1 (3 + 6 * n))) (fk_kf h12)) rfl 3 (by decide) rfl (List.mem_of_getElem? (i := 26) rfl) (upd (M1 (3 + 6 * n)) 3 vc) (congrArg (fk_ce g ov (3 + 6 * n) (upd (M1 (3 + 6 * n)) 3 vc)) (fk_kf h12)) rfl (ty := (.int)) (by decide +kernel) rfl rfl (Nat.le_of_ble_eq_true rfl) d_N_append_20 (fun H locs G => ?_)
  obtain ⟨M2, hM2⟩ : ∃ z : fk_M, z = va_up M1 (3 + 6 * n) (upd (M1 (3 + 6 * n)) 3 vc) := ⟨_, rfl⟩
  rw [← hM2] at G
  refine lv_aload S.1 S.2.1 d_N_append_23 (lv_at hl 0 rfl) ?_
  refine lv_iload_n S.1 S.2.1 d_N_append_25 rfl (lv_at hl 4 rfl) ?_
  refine fk_pn S E G (3 + 6 * n) (by omega) (congrArg (fk_ce g ov (3 + 6 * n) (M2 (3 + 6 * n))) (fk_kf h12)) rfl 2 (by decide) rfl (List.mem_of_getElem? (i := 20) rfl) (upd (M2 (3 + 6 * n)) 2 vi) (congrArg (fk_ce g ov (3 + 6 * n) (upd (M2 (3 + 6 * n)) 2 vi)) (fk_kf h12)) rfl (ty := (.boolean)) (by decide +kernel) (fk_nb hi) (fk_fb hi) (Nat.le_of_ble_eq_true rfl) d_N_append_26 (fun H locs G => ?_)
  obtain ⟨M3, hM3⟩ : ∃ z : fk_M, z = va_up M2 (3 + 6 * n) (upd (M2 (3 + 6 * n)) 2 vi) := ⟨_, rfl⟩
  rw [← hM3] at G
  have hrow : M3 = va_up M (3 + 6 * n) (upd (upd (upd (M (3 + 6 * n)) 1 vb) 3 vc) 2 vi) := by rw [hM3, hM2, bx_uu, va_up_self, hM1, bx_uu, va_up_self]
  have hx1 : M3 1 = M 1 := by rw [hrow, va_up_ne _ _ (by omega)]
  refine lv_aload_n S.1 S.2.1 d_N_append_29 rfl (lv_at hl 1 rfl) ?_
  refine lv_dup S.1 S.2.1 d_N_append_30 rfl ?_
  refine fk_gf S E G 1 (by decide) (v := .int (M3 1 1)) (congrArg (fk_ce g ov 1 (M3 1)) kd_1) rfl 1 (by decide) rfl i_115 rfl d_N_append_31 ?_
  rw [hx1, hn]
  refine lv_iconst (v := nI 1) S.1 S.2.1 d_N_append_34 (by decide +kernel) ?_
  refine fk_iadd S.1 S.2.1 d_N_append_35 ?_
  refine fk_pf S E G 1 (by decide) (congrArg (fk_ce g ov 1 (M3 1)) kd_1) rfl 1 (by decide) rfl i_115 (upd (M3 1) 1 (nI (n + 1))) (congrArg (fk_ce g ov 1 (upd (M3 1) 1 (nI (n + 1)))) kd_1) rfl (ty := (.int)) (by decide +kernel) rfl rfl (Nat.le_of_ble_eq_true rfl) d_N_append_36 (fun H locs G => ?_)
  obtain ⟨M4, hM4⟩ : ∃ z : fk_M, z = va_up M3 1 (upd (M3 1) 1 (nI (n + 1))) := ⟨_, rfl⟩
  rw [← hM4] at G
  have hx2 : M4 1 1 = nI (n + 1) := by rw [hM4, va_up_self, pk_us]
  refine lv_aload_n S.1 S.2.1 d_N_append_39 rfl (lv_at hl 1 rfl) ?_
  refine fk_gf S E G 1 (by decide) (v := .int (M4 1 1)) (congrArg (fk_ce g ov 1 (M4 1)) kd_1) rfl 1 (by decide) rfl i_115 rfl d_N_append_40 ?_
  rw [hx2]
  refine lv_iconst (v := nI 1) S.1 S.2.1 d_N_append_43 (by decide +kernel) ?_
  refine fk_isub S.1 S.2.1 (by omega) d_N_append_44 ?_
  exact fk_iret S hr hlk E G (by rw [hM4, hx1, hrow]) (by rw [Nat.add_sub_cancel]) d_N_append_45
theorem d_N_typeOf_0 : decode b_N_typeOf 0 = .ok (.aload_n 0, 1) := by decide +kernel
theorem d_N_typeOf_1 : decode b_N_typeOf 1 = .ok (.getfield 11, 3) := by decide +kernel
theorem d_N_typeOf_4 : decode b_N_typeOf 4 = .ok (.iload_n 1, 1) := by decide +kernel
theorem d_N_typeOf_5 : decode b_N_typeOf 5 = .ok (.aaload, 1) := by decide +kernel
theorem d_N_typeOf_6 : decode b_N_typeOf 6 = .ok (.getfield 30, 3) := by decide +kernel
theorem d_N_typeOf_9 : decode b_N_typeOf 9 = .ok (.ifCond .eq 7, 3) := by decide +kernel
theorem d_N_typeOf_12 : decode b_N_typeOf 12 = .ok (.iconst 1, 1) := by decide +kernel
theorem d_N_typeOf_13 : decode b_N_typeOf 13 = .ok (.goto 4, 3) := by decide +kernel
theorem d_N_typeOf_16 : decode b_N_typeOf 16 = .ok (.iconst 0, 1) := by decide +kernel
theorem d_N_typeOf_17 : decode b_N_typeOf 17 = .ok (.ireturn, 1) := by decide +kernel
theorem m_N_typeOf : fk_MI y_N_typeOf b_N_typeOf 2 (some .int) 1 := ⟨i_281, i_280, fk_mp (q := (y_N_typeOf, 2)) (by decide +kernel), i_2, by decide +kernel⟩
set_option maxHeartbeats 4000000 in
set_option maxRecDepth 100000 in
theorem c_N_typeOf (l : Launch) (g : fk_G) (ov : Int64) (M : fk_M) (j : Nat) (hj : j < 12) : fk_CI l y_N_typeOf b_N_typeOf 2 (some .int) (fk_rm 0) g ov M M [.ref (fk_a g 1), .int (nI j)] (nI (decide (¬ M (3 + 6 * j) 1 = 0)).toNat) := by
  refine fk_ofI rfl (Nat.le_of_ble_eq_true rfl) ?_
  intro p e s m args below meth c ls S hr hlk E G hl
  have hl : lv_has ls 2 [(0, .ref (fk_a g 1)), (1, .int (nI j))] := hl
  refine lv_aload_n S.1 S.2.1 d_N_typeOf_0 rfl (lv_at hl 0 rfl) ?_
  refine fk_gf S E G 1 (by decide) (v := .ref (fk_a g 2)) (congrArg (fk_ce g ov 1 (M 1)) kd_1) rfl 0 (by decide) rfl i_110 rfl d_N_typeOf_1 ?_
  refine lv_iload_n S.1 S.2.1 d_N_typeOf_4 rfl (lv_at hl 1 rfl) ?_
  refine fk_rw S E G j rfl (by omega) d_N_typeOf_5 ?_
  refine fk_gn S E G (3 + 6 * j) (by omega) (v := .int (M (3 + 6 * j) 1)) (congrArg (fk_ce g ov (3 + 6 * j) (M (3 + 6 * j))) (fk_kf hj)) rfl 1 (by decide) rfl (List.mem_of_getElem? (i := 17) rfl) rfl d_N_typeOf_6 ?_
  refine lv_if_eq (tgt := 16) S.1 S.2.1 d_N_typeOf_9 rfl (fun hc1 => ?_) (fun hc1 => ?_)
  · refine lv_iconst (v := nI 0) S.1 S.2.1 d_N_typeOf_16 (by decide +kernel) ?_
    exact fk_iret S hr hlk E G rfl (fk_b0 (decide_eq_false (fun q => q hc1))) d_N_typeOf_17
  · refine lv_iconst (v := nI 1) S.1 S.2.1 d_N_typeOf_12 (by decide +kernel) ?_
    refine lv_goto (tgt := 17) S.1 S.2.1 d_N_typeOf_13 rfl ?_
    exact fk_iret S hr hlk E G rfl (fk_b1 (decide_eq_true hc1)) d_N_typeOf_17
