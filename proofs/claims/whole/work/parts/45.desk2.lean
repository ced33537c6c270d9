/-! FlowDesk: fault, order, set, present, value, seen, where they answer. Written by wip/gen/s_desk2.py. -/
theorem fk_hs_in {j n : Nat} (hj : j < n) (hn : n ≤ 12) : fk_hs (nI j) n = true := by
  unfold fk_hs
  exact decide_eq_true ⟨nI_pos (by omega), Int32.not_le.mpr ((nI_ltI (by omega) (by omega)).mpr hj)⟩
theorem d_D_fault_0 : decode b_D_fault 0 = .ok (.iload_n 1, 1) := by decide +kernel
theorem d_D_fault_1 : decode b_D_fault 1 = .ok (.ifCond .eq 18, 3) := by decide +kernel
theorem d_D_fault_4 : decode b_D_fault 4 = .ok (.iload_n 1, 1) := by decide +kernel
theorem d_D_fault_5 : decode b_D_fault 5 = .ok (.iconst 1, 1) := by decide +kernel
theorem d_D_fault_6 : decode b_D_fault 6 = .ok (.if_icmp .eq 13, 3) := by decide +kernel
theorem d_D_fault_9 : decode b_D_fault 9 = .ok (.new 52, 3) := by decide +kernel
theorem d_D_fault_12 : decode b_D_fault 12 = .ok (.dup, 1) := by decide +kernel
theorem d_D_fault_13 : decode b_D_fault 13 = .ok (.ldc 113, 2) := by decide +kernel
theorem d_D_fault_15 : decode b_D_fault 15 = .ok (.invokespecial 56, 3) := by decide +kernel
theorem d_D_fault_18 : decode b_D_fault 18 = .ok (.athrow, 1) := by decide +kernel
theorem d_D_fault_19 : decode b_D_fault 19 = .ok (.iload_n 1, 1) := by decide +kernel
theorem d_D_fault_20 : decode b_D_fault 20 = .ok (.ifCond .ne 13, 3) := by decide +kernel
theorem d_D_fault_23 : decode b_D_fault 23 = .ok (.aload_n 0, 1) := by decide +kernel
theorem d_D_fault_24 : decode b_D_fault 24 = .ok (.getfield 30, 3) := by decide +kernel
theorem d_D_fault_27 : decode b_D_fault 27 = .ok (.getfield 115, 3) := by decide +kernel
theorem d_D_fault_30 : decode b_D_fault 30 = .ok (.goto 10, 3) := by decide +kernel
theorem d_D_fault_33 : decode b_D_fault 33 = .ok (.aload_n 0, 1) := by decide +kernel
theorem d_D_fault_34 : decode b_D_fault 34 = .ok (.getfield 30, 3) := by decide +kernel
theorem d_D_fault_37 : decode b_D_fault 37 = .ok (.getfield 118, 3) := by decide +kernel
theorem d_D_fault_40 : decode b_D_fault 40 = .ok (.ireturn, 1) := by decide +kernel
theorem m_D_fault : fk_MI y_D_fault b_D_fault 2 (some .int) 1 := ⟨i_502, i_500, i_501, i_1, by decide +kernel⟩
set_option maxHeartbeats 4000000 in
set_option maxRecDepth 100000 in
theorem c_D_fault (l : Launch) (g : fk_G) (ov : Int64) (M : fk_M) (j : Nat) (hj : j < 2) : fk_CI l y_D_fault b_D_fault 2 (some .int) (fk_rm 0) g ov M M [.ref (fk_a g 0), .int (nI j)] (if j = 0 then M 79 5 else M 79 6) := by
  refine fk_ofI rfl (Nat.le_of_ble_eq_true rfl) ?_
  intro p e s m args below meth c ls S hr hlk E G hl
  have hl : lv_has ls 2 [(0, .ref (fk_a g 0)), (1, .int (nI j))] := hl
  refine lv_iload_n S.1 S.2.1 d_D_fault_0 rfl (lv_at hl 1 rfl) ?_
  refine fk_zeq (tgt := 19) S.1 S.2.1 (by omega) d_D_fault_1 rfl (fun hc1 => ?_) (fun hc1 => ?_)
  · refine lv_iload_n S.1 S.2.1 d_D_fault_19 rfl (lv_at hl 1 rfl) ?_
    refine fk_zne (tgt := 33) S.1 S.2.1 (by omega) d_D_fault_20 rfl (fun hc2 => ?_) (fun hc2 => ?_)
    · exact absurd hc1 (by omega)
    · refine lv_aload_n S.1 S.2.1 d_D_fault_23 rfl (lv_at hl 0 rfl) ?_
      refine fk_gf S E G 0 (by decide) (v := .ref (fk_a g 79)) (congrArg (fk_ce g ov 0 (M 0)) kd_0) rfl 2 (by decide) rfl i_203 rfl d_D_fault_24 ?_
      refine fk_gn S E G 79 (by decide) (v := .int (M 79 5)) (congrArg (fk_ce g ov 79 (M 79)) kd_79) rfl 5 (by decide) rfl (List.mem_of_getElem? (i := 46) rfl) rfl d_D_fault_27 ?_
      refine lv_goto (tgt := 40) S.1 S.2.1 d_D_fault_30 rfl ?_
      exact fk_iret S hr hlk E G rfl (by rw [if_pos hc1]) d_D_fault_40
  · refine lv_iload_n S.1 S.2.1 d_D_fault_4 rfl (lv_at hl 1 rfl) ?_
    refine lv_iconst (v := nI 1) S.1 S.2.1 d_D_fault_5 (by decide +kernel) ?_
    refine fk_ceq (tgt := 19) S.1 S.2.1 (by omega) (by omega) d_D_fault_6 rfl (fun hc3 => ?_) (fun hc3 => ?_)
    · refine lv_iload_n S.1 S.2.1 d_D_fault_19 rfl (lv_at hl 1 rfl) ?_
      refine fk_zne (tgt := 33) S.1 S.2.1 (by omega) d_D_fault_20 rfl (fun hc4 => ?_) (fun hc4 => ?_)
      · refine lv_aload_n S.1 S.2.1 d_D_fault_33 rfl (lv_at hl 0 rfl) ?_
        refine fk_gf S E G 0 (by decide) (v := .ref (fk_a g 79)) (congrArg (fk_ce g ov 0 (M 0)) kd_0) rfl 2 (by decide) rfl i_203 rfl d_D_fault_34 ?_
        refine fk_gn S E G 79 (by decide) (v := .int (M 79 6)) (congrArg (fk_ce g ov 79 (M 79)) kd_79) rfl 6 (by decide) rfl (List.mem_of_getElem? (i := 47) rfl) rfl d_D_fault_37 ?_
        exact fk_iret S hr hlk E G rfl (by rw [if_neg (by omega)]) d_D_fault_40
      · exact absurd hc4 (by omega)
    · exact absurd hc3 (by omega)
theorem d_D_order_0 : decode b_D_order 0 = .ok (.aload_n 0, 1) := by decide +kernel
theorem d_D_order_1 : decode b_D_order 1 = .ok (.getfield 30, 3) := by decide +kernel
theorem d_D_order_4 : decode b_D_order 4 = .ok (.getfield 121, 3) := by decide +kernel
theorem d_D_order_7 : decode b_D_order 7 = .ok (.ifCond .ne 13, 3) := by decide +kernel
theorem d_D_order_10 : decode b_D_order 10 = .ok (.new 63, 3) := by decide +kernel
theorem d_D_order_13 : decode b_D_order 13 = .ok (.dup, 1) := by decide +kernel
theorem d_D_order_14 : decode b_D_order 14 = .ok (.ldc 124, 2) := by decide +kernel
theorem d_D_order_16 : decode b_D_order 16 = .ok (.invokespecial 67, 3) := by decide +kernel
theorem d_D_order_19 : decode b_D_order 19 = .ok (.athrow, 1) := by decide +kernel
theorem d_D_order_20 : decode b_D_order 20 = .ok (.iload_n 1, 1) := by decide +kernel
theorem d_D_order_21 : decode b_D_order 21 = .ok (.ifCond .lt 14, 3) := by decide +kernel
theorem d_D_order_24 : decode b_D_order 24 = .ok (.iload_n 1, 1) := by decide +kernel
theorem d_D_order_25 : decode b_D_order 25 = .ok (.aload_n 0, 1) := by decide +kernel
theorem d_D_order_26 : decode b_D_order 26 = .ok (.getfield 21, 3) := by decide +kernel
theorem d_D_order_29 : decode b_D_order 29 = .ok (.getfield 126, 3) := by decide +kernel
theorem d_D_order_32 : decode b_D_order 32 = .ok (.if_icmp .lt 13, 3) := by decide +kernel
theorem d_D_order_35 : decode b_D_order 35 = .ok (.new 129, 3) := by decide +kernel
theorem d_D_order_38 : decode b_D_order 38 = .ok (.dup, 1) := by decide +kernel
theorem d_D_order_39 : decode b_D_order 39 = .ok (.ldc 131, 2) := by decide +kernel
theorem d_D_order_41 : decode b_D_order 41 = .ok (.invokespecial 133, 3) := by decide +kernel
theorem d_D_order_44 : decode b_D_order 44 = .ok (.athrow, 1) := by decide +kernel
theorem d_D_order_45 : decode b_D_order 45 = .ok (.aload_n 0, 1) := by decide +kernel
theorem d_D_order_46 : decode b_D_order 46 = .ok (.getfield 21, 3) := by decide +kernel
theorem d_D_order_49 : decode b_D_order 49 = .ok (.getfield 134, 3) := by decide +kernel
theorem d_D_order_52 : decode b_D_order 52 = .ok (.iload_n 1, 1) := by decide +kernel
theorem d_D_order_53 : decode b_D_order 53 = .ok (.iaload, 1) := by decide +kernel
theorem d_D_order_54 : decode b_D_order 54 = .ok (.ireturn, 1) := by decide +kernel
theorem m_D_order : fk_MI y_D_order b_D_order 2 (some .int) 1 := ⟨i_511, i_509, i_510, i_1, by decide +kernel⟩
set_option maxHeartbeats 4000000 in
set_option maxRecDepth 100000 in
theorem c_D_order (l : Launch) (g : fk_G) (ov : Int64) (M : fk_M) (j o : Nat) (hp : ¬ M 79 4 = 0) (ho : M 75 3 = nI o) (hjo : j < o) (h12 : o ≤ 12) : fk_CI l y_D_order b_D_order 2 (some .int) (fk_rm 0) g ov M M [.ref (fk_a g 0), .int (nI j)] (M 77 j) := by
  refine fk_ofI rfl (Nat.le_of_ble_eq_true rfl) ?_
  intro p e s m args below meth c ls S hr hlk E G hl
  have hl : lv_has ls 2 [(0, .ref (fk_a g 0)), (1, .int (nI j))] := hl
  refine lv_aload_n S.1 S.2.1 d_D_order_0 rfl (lv_at hl 0 rfl) ?_
  refine fk_gf S E G 0 (by decide) (v := .ref (fk_a g 79)) (congrArg (fk_ce g ov 0 (M 0)) kd_0) rfl 2 (by decide) rfl i_203 rfl d_D_order_1 ?_
  refine fk_gn S E G 79 (by decide) (v := .int (M 79 4)) (congrArg (fk_ce g ov 79 (M 79)) kd_79) rfl 4 (by decide) rfl (List.mem_of_getElem? (i := 45) rfl) rfl d_D_order_4 ?_
  refine lv_if_ne (tgt := 20) S.1 S.2.1 d_D_order_7 rfl (fun hc1 => ?_) (fun hc1 => ?_)
  · refine lv_iload_n S.1 S.2.1 d_D_order_20 rfl (lv_at hl 1 rfl) ?_
    refine lv_if_lt (tgt := 35) S.1 S.2.1 d_D_order_21 rfl (fun hc2 => ?_) (fun hc2 => ?_)
    · exact absurd hc2 (nI_pos (by omega))
    · refine lv_iload_n S.1 S.2.1 d_D_order_24 rfl (lv_at hl 1 rfl) ?_
      refine lv_aload_n S.1 S.2.1 d_D_order_25 rfl (lv_at hl 0 rfl) ?_
      refine fk_gf S E G 0 (by decide) (v := .ref (fk_a g 75)) (congrArg (fk_ce g ov 0 (M 0)) kd_0) rfl 1 (by decide) rfl i_202 rfl d_D_order_26 ?_
      refine fk_gn S E G 75 (by decide) (v := .int (M 75 3)) (congrArg (fk_ce g ov 75 (M 75)) kd_75) rfl 3 (by decide) rfl (List.mem_of_getElem? (i := 43) rfl) rfl d_D_order_29 ?_
      rw [ho]
      refine fk_clt (tgt := 45) S.1 S.2.1 (by omega) (by omega) d_D_order_32 rfl (fun hc3 => ?_) (fun hc3 => ?_)
      · refine lv_aload_n S.1 S.2.1 d_D_order_45 rfl (lv_at hl 0 rfl) ?_
        refine fk_gf S E G 0 (by decide) (v := .ref (fk_a g 75)) (congrArg (fk_ce g ov 0 (M 0)) kd_0) rfl 1 (by decide) rfl i_202 rfl d_D_order_46 ?_
        refine fk_gn S E G 75 (by decide) (v := .ref (fk_a g 77)) (congrArg (fk_ce g ov 75 (M 75)) kd_75) rfl 2 (by decide) rfl (List.mem_of_getElem? (i := 42) rfl) rfl d_D_order_49 ?_
        refine lv_iload_n S.1 S.2.1 d_D_order_52 rfl (lv_at hl 1 rfl) ?_
        refine fk_ia S E G 77 (by decide) (congrArg (fk_ce g ov 77 (M 77)) kd_77) j rfl (by omega) (by decide) (v := M 77 j) rfl d_D_order_53 ?_
        exact fk_iret S hr hlk E G rfl rfl d_D_order_54
      · exact absurd hjo (by omega)
  · exact absurd hc1 hp
theorem d_D_present_0 : decode b_D_present 0 = .ok (.aload_n 0, 1) := by decide +kernel
theorem d_D_present_1 : decode b_D_present 1 = .ok (.getfield 12, 3) := by decide +kernel
theorem d_D_present_4 : decode b_D_present 4 = .ok (.iload_n 1, 1) := by decide +kernel
theorem d_D_present_5 : decode b_D_present 5 = .ok (.invokevirtual 85, 3) := by decide +kernel
theorem d_D_present_8 : decode b_D_present 8 = .ok (.ifCond .ne 13, 3) := by decide +kernel
theorem d_D_present_11 : decode b_D_present 11 = .ok (.new 52, 3) := by decide +kernel
theorem d_D_present_14 : decode b_D_present 14 = .ok (.dup, 1) := by decide +kernel
theorem d_D_present_15 : decode b_D_present 15 = .ok (.ldc 154, 2) := by decide +kernel
theorem d_D_present_17 : decode b_D_present 17 = .ok (.invokespecial 56, 3) := by decide +kernel
theorem d_D_present_20 : decode b_D_present 20 = .ok (.athrow, 1) := by decide +kernel
theorem d_D_present_21 : decode b_D_present 21 = .ok (.aload_n 0, 1) := by decide +kernel
theorem d_D_present_22 : decode b_D_present 22 = .ok (.getfield 12, 3) := by decide +kernel
theorem d_D_present_25 : decode b_D_present 25 = .ok (.getfield 88, 3) := by decide +kernel
theorem d_D_present_28 : decode b_D_present 28 = .ok (.iload_n 1, 1) := by decide +kernel
theorem d_D_present_29 : decode b_D_present 29 = .ok (.aaload, 1) := by decide +kernel
theorem d_D_present_30 : decode b_D_present 30 = .ok (.getfield 156, 3) := by decide +kernel
theorem d_D_present_33 : decode b_D_present 33 = .ok (.ireturn, 1) := by decide +kernel
theorem m_D_present : fk_MI y_D_present b_D_present 2 (some .boolean) 1 := ⟨i_595, i_593, i_594, i_1, by decide +kernel⟩
set_option maxHeartbeats 4000000 in
set_option maxRecDepth 100000 in
theorem c_D_present (l : Launch) (g : fk_G) (ov : Int64) (M : fk_M) (n j : Nat) (hn : M 1 1 = nI n) (h12 : n ≤ 12) (hj : j < n) (h5 : M (3 + 6 * j) 5 = 0 ∨ M (3 + 6 * j) 5 = 1) : fk_CI l y_D_present b_D_present 2 (some .boolean) (fk_rm 1) g ov M M [.ref (fk_a g 0), .int (nI j)] (M (3 + 6 * j) 5) := by
  refine fk_ofI rfl (Nat.le_of_ble_eq_true rfl) ?_
  intro p e s m args below meth c ls S hr hlk E G hl
  have hl : lv_has ls 2 [(0, .ref (fk_a g 0)), (1, .int (nI j))] := hl
  have hh := fk_hs_in hj h12
  refine lv_aload_n S.1 S.2.1 d_D_present_0 rfl (lv_at hl 0 rfl) ?_
  refine fk_gf S E G 0 (by decide) (v := .ref (fk_a g 1)) (congrArg (fk_ce g ov 0 (M 0)) kd_0) rfl 0 (by decide) rfl i_201 rfl d_D_present_1 ?_
  refine lv_iload_n S.1 S.2.1 d_D_present_4 rfl (lv_at hl 1 rfl) ?_
  refine fk_cni S E G 1 (by decide) (congrArg (fk_ce g ov 1 (M 1)) kd_1) rfl (rest := []) (c_N_has l g ov M (nI j) n hn) m_N_has (List.mem_of_getElem? (i := 28) rfl) ⟨rfl, rfl⟩ ⟨by decide, by decide⟩ rfl rfl hl.1 (Nat.le_of_ble_eq_true rfl) d_D_present_5 ⟨Nat.zero_le _, Nat.zero_le _⟩ (fun H locs G => ?_)
  refine fk_zne (tgt := 21) S.1 S.2.1 (fk_bl _) d_D_present_8 rfl (fun hc1 => ?_) (fun hc1 => ?_)
  · refine lv_aload_n S.1 S.2.1 d_D_present_21 rfl (lv_at hl 0 rfl) ?_
    refine fk_gf S E G 0 (by decide) (v := .ref (fk_a g 1)) (congrArg (fk_ce g ov 0 (M 0)) kd_0) rfl 0 (by decide) rfl i_201 rfl d_D_present_22 ?_
    refine fk_gn S E G 1 (by decide) (v := .ref (fk_a g 2)) (congrArg (fk_ce g ov 1 (M 1)) kd_1) rfl 0 (by decide) rfl (List.mem_of_getElem? (i := 36) rfl) rfl d_D_present_25 ?_
    refine lv_iload_n S.1 S.2.1 d_D_present_28 rfl (lv_at hl 1 rfl) ?_
    refine fk_rw S E G j rfl (by omega) d_D_present_29 ?_
    refine fk_gn S E G (3 + 6 * j) (by omega) (v := .int (M (3 + 6 * j) 5)) (congrArg (fk_ce g ov (3 + 6 * j) (M (3 + 6 * j))) (fk_kf (show j < 12 by omega))) rfl 5 (by decide) rfl (List.mem_of_getElem? (i := 31) rfl) rfl d_D_present_30 ?_
    exact fk_zret S hr hlk E G rfl rfl h5 d_D_present_33
  · have hf := fk_bf hc1
    rw [hh] at hf
    exact absurd hf (by decide)
theorem d_D_seen_0 : decode b_D_seen 0 = .ok (.aload_n 0, 1) := by decide +kernel
theorem d_D_seen_1 : decode b_D_seen 1 = .ok (.getfield 12, 3) := by decide +kernel
theorem d_D_seen_4 : decode b_D_seen 4 = .ok (.iload_n 1, 1) := by decide +kernel
theorem d_D_seen_5 : decode b_D_seen 5 = .ok (.invokevirtual 85, 3) := by decide +kernel
theorem d_D_seen_8 : decode b_D_seen 8 = .ok (.ifCond .ne 13, 3) := by decide +kernel
theorem d_D_seen_11 : decode b_D_seen 11 = .ok (.new 52, 3) := by decide +kernel
theorem d_D_seen_14 : decode b_D_seen 14 = .ok (.dup, 1) := by decide +kernel
theorem d_D_seen_15 : decode b_D_seen 15 = .ok (.ldc 154, 2) := by decide +kernel
theorem d_D_seen_17 : decode b_D_seen 17 = .ok (.invokespecial 56, 3) := by decide +kernel
theorem d_D_seen_20 : decode b_D_seen 20 = .ok (.athrow, 1) := by decide +kernel
theorem d_D_seen_21 : decode b_D_seen 21 = .ok (.aload_n 0, 1) := by decide +kernel
theorem d_D_seen_22 : decode b_D_seen 22 = .ok (.getfield 37, 3) := by decide +kernel
theorem d_D_seen_25 : decode b_D_seen 25 = .ok (.iload_n 1, 1) := by decide +kernel
theorem d_D_seen_26 : decode b_D_seen 26 = .ok (.invokevirtual 159, 3) := by decide +kernel
theorem d_D_seen_29 : decode b_D_seen 29 = .ok (.ireturn, 1) := by decide +kernel
theorem m_D_seen : fk_MI y_D_seen b_D_seen 2 (some .int) 1 := ⟨i_615, i_613, i_614, i_1, by decide +kernel⟩
set_option maxHeartbeats 4000000 in
set_option maxRecDepth 100000 in
theorem c_D_seen (l : Launch) (g : fk_G) (ov : Int64) (M : fk_M) (n j : Nat) (hn : M 1 1 = nI n) (h12 : n ≤ 12) (hj : j < n) (ck : Nat) (hck : M (3 + 6 * j) 3 = nI ck) (h25 : ck < 25) : fk_CI l y_D_seen b_D_seen 2 (some .int) (fk_rm 1) g ov M M [.ref (fk_a g 0), .int (nI j)] (M 83 ck) := by
  refine fk_ofI rfl (Nat.le_of_ble_eq_true rfl) ?_
  intro p e s m args below meth c ls S hr hlk E G hl
  have hl : lv_has ls 2 [(0, .ref (fk_a g 0)), (1, .int (nI j))] := hl
  have hh := fk_hs_in hj h12
  refine lv_aload_n S.1 S.2.1 d_D_seen_0 rfl (lv_at hl 0 rfl) ?_
  refine fk_gf S E G 0 (by decide) (v := .ref (fk_a g 1)) (congrArg (fk_ce g ov 0 (M 0)) kd_0) rfl 0 (by decide) rfl i_201 rfl d_D_seen_1 ?_
  refine lv_iload_n S.1 S.2.1 d_D_seen_4 rfl (lv_at hl 1 rfl) ?_
  refine fk_cni S E G 1 (by decide) (congrArg (fk_ce g ov 1 (M 1)) kd_1) rfl (rest := []) (c_N_has l g ov M (nI j) n hn) m_N_has (List.mem_of_getElem? (i := 28) rfl) ⟨rfl, rfl⟩ ⟨by decide, by decide⟩ rfl rfl hl.1 (Nat.le_of_ble_eq_true rfl) d_D_seen_5 ⟨Nat.zero_le _, Nat.zero_le _⟩ (fun H locs G => ?_)
  refine fk_zne (tgt := 21) S.1 S.2.1 (fk_bl _) d_D_seen_8 rfl (fun hc1 => ?_) (fun hc1 => ?_)
  · refine lv_aload_n S.1 S.2.1 d_D_seen_21 rfl (lv_at hl 0 rfl) ?_
    refine fk_gf S E G 0 (by decide) (v := .ref (fk_a g 82)) (congrArg (fk_ce g ov 0 (M 0)) kd_0) rfl 3 (by decide) rfl i_204 rfl d_D_seen_22 ?_
    refine lv_iload_n S.1 S.2.1 d_D_seen_25 rfl (lv_at hl 1 rfl) ?_
    refine fk_cni S E G 82 (by decide) (congrArg (fk_ce g ov 82 (M 82)) kd_82) rfl (rest := []) (c_C_countOf l g ov M j ck (by omega) hck h25) m_C_countOf (List.mem_of_getElem? (i := 39) rfl) ⟨rfl, rfl⟩ ⟨by decide, by decide⟩ rfl rfl hl.1 (Nat.le_of_ble_eq_true rfl) d_D_seen_26 ⟨Nat.zero_le _, Nat.zero_le _⟩ (fun H locs G => ?_)
    exact fk_iret S hr hlk E G rfl rfl d_D_seen_29
  · have hf := fk_bf hc1
    rw [hh] at hf
    exact absurd hf (by decide)
theorem d_D_value_0 : decode b_D_value 0 = .ok (.aload_n 0, 1) := by decide +kernel
theorem d_D_value_1 : decode b_D_value 1 = .ok (.getfield 12, 3) := by decide +kernel
theorem d_D_value_4 : decode b_D_value 4 = .ok (.iload_n 1, 1) := by decide +kernel
theorem d_D_value_5 : decode b_D_value 5 = .ok (.invokevirtual 85, 3) := by decide +kernel
theorem d_D_value_8 : decode b_D_value 8 = .ok (.ifCond .ne 13, 3) := by decide +kernel
theorem d_D_value_11 : decode b_D_value 11 = .ok (.new 52, 3) := by decide +kernel
theorem d_D_value_14 : decode b_D_value 14 = .ok (.dup, 1) := by decide +kernel
theorem d_D_value_15 : decode b_D_value 15 = .ok (.ldc 154, 2) := by decide +kernel
theorem d_D_value_17 : decode b_D_value 17 = .ok (.invokespecial 56, 3) := by decide +kernel
theorem d_D_value_20 : decode b_D_value 20 = .ok (.athrow, 1) := by decide +kernel
theorem d_D_value_21 : decode b_D_value 21 = .ok (.aload_n 0, 1) := by decide +kernel
theorem d_D_value_22 : decode b_D_value 22 = .ok (.getfield 37, 3) := by decide +kernel
theorem d_D_value_25 : decode b_D_value 25 = .ok (.iload_n 1, 1) := by decide +kernel
theorem d_D_value_26 : decode b_D_value 26 = .ok (.invokevirtual 159, 3) := by decide +kernel
theorem d_D_value_29 : decode b_D_value 29 = .ok (.ifCond .ne 13, 3) := by decide +kernel
theorem d_D_value_32 : decode b_D_value 32 = .ok (.new 129, 3) := by decide +kernel
theorem d_D_value_35 : decode b_D_value 35 = .ok (.dup, 1) := by decide +kernel
theorem d_D_value_36 : decode b_D_value 36 = .ok (.ldc 163, 2) := by decide +kernel
theorem d_D_value_38 : decode b_D_value 38 = .ok (.invokespecial 133, 3) := by decide +kernel
theorem d_D_value_41 : decode b_D_value 41 = .ok (.athrow, 1) := by decide +kernel
theorem d_D_value_42 : decode b_D_value 42 = .ok (.aload_n 0, 1) := by decide +kernel
theorem d_D_value_43 : decode b_D_value 43 = .ok (.getfield 12, 3) := by decide +kernel
theorem d_D_value_46 : decode b_D_value 46 = .ok (.getfield 88, 3) := by decide +kernel
theorem d_D_value_49 : decode b_D_value 49 = .ok (.iload_n 1, 1) := by decide +kernel
theorem d_D_value_50 : decode b_D_value 50 = .ok (.aaload, 1) := by decide +kernel
theorem d_D_value_51 : decode b_D_value 51 = .ok (.getfield 165, 3) := by decide +kernel
theorem d_D_value_54 : decode b_D_value 54 = .ok (.ireturn, 1) := by decide +kernel
theorem m_D_value : fk_MI y_D_value b_D_value 2 (some .int) 1 := ⟨i_603, i_601, i_602, i_1, by decide +kernel⟩
set_option maxHeartbeats 4000000 in
set_option maxRecDepth 100000 in
theorem c_D_value (l : Launch) (g : fk_G) (ov : Int64) (M : fk_M) (n j : Nat) (hn : M 1 1 = nI n) (h12 : n ≤ 12) (hj : j < n) (ck : Nat) (hck : M (3 + 6 * j) 3 = nI ck) (h25 : ck < 25) (hsn : ¬ M 83 ck = 0) : fk_CI l y_D_value b_D_value 2 (some .int) (fk_rm 1) g ov M M [.ref (fk_a g 0), .int (nI j)] (M (3 + 6 * j) 6) := by
  refine fk_ofI rfl (Nat.le_of_ble_eq_true rfl) ?_
  intro p e s m args below meth c ls S hr hlk E G hl
  have hl : lv_has ls 2 [(0, .ref (fk_a g 0)), (1, .int (nI j))] := hl
  have hh := fk_hs_in hj h12
  refine lv_aload_n S.1 S.2.1 d_D_value_0 rfl (lv_at hl 0 rfl) ?_
  refine fk_gf S E G 0 (by decide) (v := .ref (fk_a g 1)) (congrArg (fk_ce g ov 0 (M 0)) kd_0) rfl 0 (by decide) rfl i_201 rfl d_D_value_1 ?_
  refine lv_iload_n S.1 S.2.1 d_D_value_4 rfl (lv_at hl 1 rfl) ?_
  refine fk_cni S E G 1 (by decide) (congrArg (fk_ce g ov 1 (M 1)) kd_1) rfl (rest := []) (c_N_has l g ov M (nI j) n hn) m_N_has (List.mem_of_getElem? (i := 28) rfl) ⟨rfl, rfl⟩ ⟨by decide, by decide⟩ rfl rfl hl.1 (Nat.le_of_ble_eq_true rfl) d_D_value_5 ⟨Nat.zero_le _, Nat.zero_le _⟩ (fun H locs G => ?_)
  refine fk_zne (tgt := 21) S.1 S.2.1 (fk_bl _) d_D_value_8 rfl (fun hc1 => ?_) (fun hc1 => ?_)
  · refine lv_aload_n S.1 S.2.1 d_D_value_21 rfl (lv_at hl 0 rfl) ?_
    refine fk_gf S E G 0 (by decide) (v := .ref (fk_a g 82)) (congrArg (fk_ce g ov 0 (M 0)) kd_0) rfl 3 (by decide) rfl i_204 rfl d_D_value_22 ?_
    refine lv_iload_n S.1 S.2.1 d_D_value_25 rfl (lv_at hl 1 rfl) ?_
    refine fk_cni S E G 82 (by decide) (congrArg (fk_ce g ov 82 (M 82)) kd_82) rfl (rest := []) (c_C_countOf l g ov M j ck (by omega) hck h25) m_C_countOf (List.mem_of_getElem? (i := 39) rfl) ⟨rfl, rfl⟩ ⟨by decide, by decide⟩ rfl rfl hl.1 (Nat.le_of_ble_eq_true rfl) d_D_value_26 ⟨Nat.zero_le _, Nat.zero_le _⟩ (fun H locs G => ?_)
    refine lv_if_ne (tgt := 42) S.1 S.2.1 d_D_value_29 rfl (fun hc2 => ?_) (fun hc2 => ?_)
    · refine lv_aload_n S.1 S.2.1 d_D_value_42 rfl (lv_at hl 0 rfl) ?_
      refine fk_gf S E G 0 (by decide) (v := .ref (fk_a g 1)) (congrArg (fk_ce g ov 0 (M 0)) kd_0) rfl 0 (by decide) rfl i_201 rfl d_D_value_43 ?_
      refine fk_gn S E G 1 (by decide) (v := .ref (fk_a g 2)) (congrArg (fk_ce g ov 1 (M 1)) kd_1) rfl 0 (by decide) rfl (List.mem_of_getElem? (i := 36) rfl) rfl d_D_value_46 ?_
      refine lv_iload_n S.1 S.2.1 d_D_value_49 rfl (lv_at hl 1 rfl) ?_
      refine fk_rw S E G j rfl (by omega) d_D_value_50 ?_
      refine fk_gn S E G (3 + 6 * j) (by omega) (v := .int (M (3 + 6 * j) 6)) (congrArg (fk_ce g ov (3 + 6 * j) (M (3 + 6 * j))) (fk_kf (show j < 12 by omega))) rfl 6 (by decide) rfl (List.mem_of_getElem? (i := 33) rfl) rfl d_D_value_51 ?_
      exact fk_iret S hr hlk E G rfl rfl d_D_value_54
    · exact absurd hc2 hsn
  · have hf := fk_bf hc1
    rw [hh] at hf
    exact absurd hf (by decide)
theorem d_D_set_0 : decode b_D_set 0 = .ok (.aload_n 0, 1) := by decide +kernel
theorem d_D_set_1 : decode b_D_set 1 = .ok (.getfield 12, 3) := by decide +kernel
theorem d_D_set_4 : decode b_D_set 4 = .ok (.iload_n 1, 1) := by decide +kernel
theorem d_D_set_5 : decode b_D_set 5 = .ok (.invokevirtual 85, 3) := by decide +kernel
theorem d_D_set_8 : decode b_D_set 8 = .ok (.ifCond .eq 18, 3) := by decide +kernel
theorem d_D_set_11 : decode b_D_set 11 = .ok (.aload_n 0, 1) := by decide +kernel
theorem d_D_set_12 : decode b_D_set 12 = .ok (.getfield 12, 3) := by decide +kernel
theorem d_D_set_15 : decode b_D_set 15 = .ok (.getfield 88, 3) := by decide +kernel
theorem d_D_set_18 : decode b_D_set 18 = .ok (.iload_n 1, 1) := by decide +kernel
theorem d_D_set_19 : decode b_D_set 19 = .ok (.aaload, 1) := by decide +kernel
theorem d_D_set_20 : decode b_D_set 20 = .ok (.getfield 92, 3) := by decide +kernel
theorem d_D_set_23 : decode b_D_set 23 = .ok (.ifCond .ne 13, 3) := by decide +kernel
theorem d_D_set_26 : decode b_D_set 26 = .ok (.new 52, 3) := by decide +kernel
theorem d_D_set_29 : decode b_D_set 29 = .ok (.dup, 1) := by decide +kernel
theorem d_D_set_30 : decode b_D_set 30 = .ok (.ldc 138, 2) := by decide +kernel
theorem d_D_set_32 : decode b_D_set 32 = .ok (.invokespecial 56, 3) := by decide +kernel
theorem d_D_set_35 : decode b_D_set 35 = .ok (.athrow, 1) := by decide +kernel
theorem d_D_set_36 : decode b_D_set 36 = .ok (.aload_n 0, 1) := by decide +kernel
theorem d_D_set_37 : decode b_D_set 37 = .ok (.getfield 12, 3) := by decide +kernel
theorem d_D_set_40 : decode b_D_set 40 = .ok (.getfield 88, 3) := by decide +kernel
theorem d_D_set_43 : decode b_D_set 43 = .ok (.iload_n 1, 1) := by decide +kernel
theorem d_D_set_44 : decode b_D_set 44 = .ok (.aaload, 1) := by decide +kernel
theorem d_D_set_45 : decode b_D_set 45 = .ok (.astore_n 3, 1) := by decide +kernel
theorem d_D_set_46 : decode b_D_set 46 = .ok (.aload_n 3, 1) := by decide +kernel
theorem d_D_set_47 : decode b_D_set 47 = .ok (.aload_n 3, 1) := by decide +kernel
theorem d_D_set_48 : decode b_D_set 48 = .ok (.getfield 140, 3) := by decide +kernel
theorem d_D_set_51 : decode b_D_set 51 = .ok (.ifCond .eq 11, 3) := by decide +kernel
theorem d_D_set_54 : decode b_D_set 54 = .ok (.iload_n 2, 1) := by decide +kernel
theorem d_D_set_55 : decode b_D_set 55 = .ok (.ifCond .eq 7, 3) := by decide +kernel
theorem d_D_set_58 : decode b_D_set 58 = .ok (.iconst 1, 1) := by decide +kernel
theorem d_D_set_59 : decode b_D_set 59 = .ok (.goto 4, 3) := by decide +kernel
theorem d_D_set_62 : decode b_D_set 62 = .ok (.iload_n 2, 1) := by decide +kernel
theorem d_D_set_63 : decode b_D_set 63 = .ok (.putfield 143, 3) := by decide +kernel
theorem d_D_set_66 : decode b_D_set 66 = .ok (.return_, 1) := by decide +kernel
theorem m_D_set : fk_MI y_D_set b_D_set 4 none 2 := ⟨i_535, i_533, i_534, i_1, by decide +kernel⟩
set_option maxHeartbeats 4000000 in
set_option maxRecDepth 100000 in
theorem c_D_set (l : Launch) (g : fk_G) (ov : Int64) (M : fk_M) (n j : Nat) (hn : M 1 1 = nI n) (h12 : n ≤ 12) (hj : j < n) (hin : ¬ M (3 + 6 * j) 2 = 0) (v : Int32) : fk_CV l y_D_set b_D_set 4 (fk_rm 1) g ov M (va_up M (3 + 6 * j) (upd (M (3 + 6 * j)) 4 (if ¬ M (3 + 6 * j) 1 = 0 ∧ ¬ v = 0 then nI 1 else v))) [.ref (fk_a g 0), .int (nI j), .int v] := by
  refine fk_ofV rfl (Nat.le_of_ble_eq_true rfl) ?_
  intro p e s m args below meth c ls S hr hlk E G hl
  have hl : lv_has ls 4 [(0, .ref (fk_a g 0)), (1, .int (nI j)), (2, .int v)] := hl
  have hh := fk_hs_in hj h12
  refine lv_aload_n S.1 S.2.1 d_D_set_0 rfl (lv_at hl 0 rfl) ?_
  refine fk_gf S E G 0 (by decide) (v := .ref (fk_a g 1)) (congrArg (fk_ce g ov 0 (M 0)) kd_0) rfl 0 (by decide) rfl i_201 rfl d_D_set_1 ?_
  refine lv_iload_n S.1 S.2.1 d_D_set_4 rfl (lv_at hl 1 rfl) ?_
  refine fk_cni S E G 1 (by decide) (congrArg (fk_ce g ov 1 (M 1)) kd_1) rfl (rest := []) (c_N_has l g ov M (nI j) n hn) m_N_has (List.mem_of_getElem? (i := 28) rfl) ⟨rfl, rfl⟩ ⟨by decide, by decide⟩ rfl rfl hl.1 (Nat.le_of_ble_eq_true rfl) d_D_set_5 ⟨Nat.zero_le _, Nat.zero_le _⟩ (fun H locs G => ?_)
  refine fk_zeq (tgt := 26) S.1 S.2.1 (fk_bl _) d_D_set_8 rfl (fun hc1 => ?_) (fun hc1 => ?_)
  · have hf := fk_bf hc1
    rw [hh] at hf
    exact absurd hf (by decide)
  · refine lv_aload_n S.1 S.2.1 d_D_set_11 rfl (lv_at hl 0 rfl) ?_
    refine fk_gf S E G 0 (by decide) (v := .ref (fk_a g 1)) (congrArg (fk_ce g ov 0 (M 0)) kd_0) rfl 0 (by decide) rfl i_201 rfl d_D_set_12 ?_
    refine fk_gn S E G 1 (by decide) (v := .ref (fk_a g 2)) (congrArg (fk_ce g ov 1 (M 1)) kd_1) rfl 0 (by decide) rfl (List.mem_of_getElem? (i := 36) rfl) rfl d_D_set_15 ?_
    refine lv_iload_n S.1 S.2.1 d_D_set_18 rfl (lv_at hl 1 rfl) ?_
    refine fk_rw S E G j rfl (by omega) d_D_set_19 ?_
    refine fk_gn S E G (3 + 6 * j) (by omega) (v := .int (M (3 + 6 * j) 2)) (congrArg (fk_ce g ov (3 + 6 * j) (M (3 + 6 * j))) (fk_kf (show j < 12 by omega))) rfl 2 (by decide) rfl (List.mem_of_getElem? (i := 19) rfl) rfl d_D_set_20 ?_
    refine lv_if_ne (tgt := 36) S.1 S.2.1 d_D_set_23 rfl (fun hc2 => ?_) (fun hc2 => ?_)
    · refine lv_aload_n S.1 S.2.1 d_D_set_36 rfl (lv_at hl 0 rfl) ?_
      refine fk_gf S E G 0 (by decide) (v := .ref (fk_a g 1)) (congrArg (fk_ce g ov 0 (M 0)) kd_0) rfl 0 (by decide) rfl i_201 rfl d_D_set_37 ?_
      refine fk_gn S E G 1 (by decide) (v := .ref (fk_a g 2)) (congrArg (fk_ce g ov 1 (M 1)) kd_1) rfl 0 (by decide) rfl (List.mem_of_getElem? (i := 36) rfl) rfl d_D_set_40 ?_
      refine lv_iload_n S.1 S.2.1 d_D_set_43 rfl (lv_at hl 1 rfl) ?_
      refine fk_rw S E G j rfl (by omega) d_D_set_44 ?_
      refine lv_astore_n (lv' := [(3, .ref (fk_a g (3 + 6 * j))), (0, .ref (fk_a g 0)), (1, .int (nI j)), (2, .int v)]) S.1 S.2.1 d_D_set_45 rfl hl (by decide) rfl (fun ls hl => ?_)
      refine lv_aload_n S.1 S.2.1 d_D_set_46 rfl (lv_at hl 0 rfl) ?_
      refine lv_aload_n S.1 S.2.1 d_D_set_47 rfl (lv_at hl 0 rfl) ?_
      refine fk_gn S E G (3 + 6 * j) (by omega) (v := .int (M (3 + 6 * j) 1)) (congrArg (fk_ce g ov (3 + 6 * j) (M (3 + 6 * j))) (fk_kf (show j < 12 by omega))) rfl 1 (by decide) rfl (List.mem_of_getElem? (i := 18) rfl) rfl d_D_set_48 ?_
      refine lv_if_eq (tgt := 62) S.1 S.2.1 d_D_set_51 rfl (fun hc3 => ?_) (fun hc3 => ?_)
      · refine lv_iload_n S.1 S.2.1 d_D_set_62 rfl (lv_at hl 3 rfl) ?_
        refine fk_pn S E G (3 + 6 * j) (by omega) (congrArg (fk_ce g ov (3 + 6 * j) (M (3 + 6 * j))) (fk_kf (show j < 12 by omega))) rfl 4 (by decide) rfl (List.mem_of_getElem? (i := 29) rfl) (upd (M (3 + 6 * j)) 4 v) (congrArg (fk_ce g ov (3 + 6 * j) (upd (M (3 + 6 * j)) 4 v)) (fk_kf (show j < 12 by omega))) rfl (ty := (.int)) (by decide +kernel) rfl rfl (Nat.le_of_ble_eq_true rfl) d_D_set_63 (fun H locs G => ?_)
        obtain ⟨M4, hM4⟩ : ∃ z : fk_M, z = va_up M (3 + 6 * j) (upd (M (3 + 6 * j)) 4 v) := ⟨_, rfl⟩
        rw [← hM4] at G
        exact fk_vret S hr hlk E G (by rw [hM4, if_neg (fun q => q.1 hc3)]) d_D_set_66
      · refine lv_iload_n S.1 S.2.1 d_D_set_54 rfl (lv_at hl 3 rfl) ?_
        refine lv_if_eq (tgt := 62) S.1 S.2.1 d_D_set_55 rfl (fun hc5 => ?_) (fun hc5 => ?_)
        · refine lv_iload_n S.1 S.2.1 d_D_set_62 rfl (lv_at hl 3 rfl) ?_
          refine fk_pn S E G (3 + 6 * j) (by omega) (congrArg (fk_ce g ov (3 + 6 * j) (M (3 + 6 * j))) (fk_kf (show j < 12 by omega))) rfl 4 (by decide) rfl (List.mem_of_getElem? (i := 29) rfl) (upd (M (3 + 6 * j)) 4 v) (congrArg (fk_ce g ov (3 + 6 * j) (upd (M (3 + 6 * j)) 4 v)) (fk_kf (show j < 12 by omega))) rfl (ty := (.int)) (by decide +kernel) rfl rfl (Nat.le_of_ble_eq_true rfl) d_D_set_63 (fun H locs G => ?_)
          obtain ⟨M6, hM6⟩ : ∃ z : fk_M, z = va_up M (3 + 6 * j) (upd (M (3 + 6 * j)) 4 v) := ⟨_, rfl⟩
          rw [← hM6] at G
          exact fk_vret S hr hlk E G (by rw [hM6, if_neg (fun q => q.2 hc5)]) d_D_set_66
        · refine lv_iconst (v := nI 1) S.1 S.2.1 d_D_set_58 (by decide +kernel) ?_
          refine lv_goto (tgt := 63) S.1 S.2.1 d_D_set_59 rfl ?_
          refine fk_pn S E G (3 + 6 * j) (by omega) (congrArg (fk_ce g ov (3 + 6 * j) (M (3 + 6 * j))) (fk_kf (show j < 12 by omega))) rfl 4 (by decide) rfl (List.mem_of_getElem? (i := 29) rfl) (upd (M (3 + 6 * j)) 4 (nI 1)) (congrArg (fk_ce g ov (3 + 6 * j) (upd (M (3 + 6 * j)) 4 (nI 1))) (fk_kf (show j < 12 by omega))) rfl (ty := (.int)) (by decide +kernel) rfl rfl (Nat.le_of_ble_eq_true rfl) d_D_set_63 (fun H locs G => ?_)
          obtain ⟨M7, hM7⟩ : ∃ z : fk_M, z = va_up M (3 + 6 * j) (upd (M (3 + 6 * j)) 4 (nI 1)) := ⟨_, rfl⟩
          rw [← hM7] at G
          exact fk_vret S hr hlk E G (by rw [hM7, if_pos ⟨hc3, hc5⟩]) d_D_set_66
    · exact absurd hc2 hin
