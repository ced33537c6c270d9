/-! FlowDesk: what does not throw. Written by wip/gen/s_desk.py. -/
theorem d_D_flows_0 : decode b_D_flows 0 = .ok (.aload_n 0, 1) := by decide +kernel
theorem d_D_flows_1 : decode b_D_flows 1 = .ok (.getfield 12, 3) := by decide +kernel
theorem d_D_flows_4 : decode b_D_flows 4 = .ok (.getfield 59, 3) := by decide +kernel
theorem d_D_flows_7 : decode b_D_flows 7 = .ok (.ireturn, 1) := by decide +kernel
theorem m_D_flows : fk_MI y_D_flows b_D_flows 1 (some .int) 0 := ⟨i_351, i_349, i_350, i_1, by decide +kernel⟩
set_option maxHeartbeats 4000000 in
set_option maxRecDepth 100000 in
theorem c_D_flows (l : Launch) (g : fk_G) (ov : Int64) (M : fk_M)  : fk_CI l y_D_flows b_D_flows 1 (some .int) (fk_rm 0) g ov M M [.ref (fk_a g 0)] (M 1 1) := by
  refine fk_ofI rfl (Nat.le_of_ble_eq_true rfl) ?_
  intro p e s m args below meth c ls S hr hlk E G hl
  have hl : lv_has ls 1 [(0, .ref (fk_a g 0))] := hl
  refine lv_aload_n S.1 S.2.1 d_D_flows_0 rfl (lv_at hl 0 rfl) ?_
  refine fk_gf S E G 0 (by decide) (v := .ref (fk_a g 1)) (congrArg (fk_ce g ov 0 (M 0)) kd_0) rfl 0 (by decide) rfl i_201 rfl d_D_flows_1 ?_
  refine fk_gn S E G 1 (by decide) (v := .int (M 1 1)) (congrArg (fk_ce g ov 1 (M 1)) kd_1) rfl 1 (by decide) rfl (List.mem_of_getElem? (i := 40) rfl) rfl d_D_flows_4 ?_
  exact fk_iret S hr hlk E G rfl rfl d_D_flows_7
theorem d_D_time_0 : decode b_D_time 0 = .ok (.aload_n 0, 1) := by decide +kernel
theorem d_D_time_1 : decode b_D_time 1 = .ok (.getfield 37, 3) := by decide +kernel
theorem d_D_time_4 : decode b_D_time 4 = .ok (.getfield 151, 3) := by decide +kernel
theorem d_D_time_7 : decode b_D_time 7 = .ok (.iconst 0, 1) := by decide +kernel
theorem d_D_time_8 : decode b_D_time 8 = .ok (.iaload, 1) := by decide +kernel
theorem d_D_time_9 : decode b_D_time 9 = .ok (.ireturn, 1) := by decide +kernel
theorem m_D_time : fk_MI y_D_time b_D_time 1 (some .int) 0 := ⟨i_347, i_345, i_346, i_1, by decide +kernel⟩
set_option maxHeartbeats 4000000 in
set_option maxRecDepth 100000 in
theorem c_D_time (l : Launch) (g : fk_G) (ov : Int64) (M : fk_M)  : fk_CI l y_D_time b_D_time 1 (some .int) (fk_rm 0) g ov M M [.ref (fk_a g 0)] (M 83 0) := by
  refine fk_ofI rfl (Nat.le_of_ble_eq_true rfl) ?_
  intro p e s m args below meth c ls S hr hlk E G hl
  have hl : lv_has ls 1 [(0, .ref (fk_a g 0))] := hl
  refine lv_aload_n S.1 S.2.1 d_D_time_0 rfl (lv_at hl 0 rfl) ?_
  refine fk_gf S E G 0 (by decide) (v := .ref (fk_a g 82)) (congrArg (fk_ce g ov 0 (M 0)) kd_0) rfl 3 (by decide) rfl i_204 rfl d_D_time_1 ?_
  refine fk_gn S E G 82 (by decide) (v := .ref (fk_a g 83)) (congrArg (fk_ce g ov 82 (M 82)) kd_82) rfl 2 (by decide) rfl (List.mem_of_getElem? (i := 48) rfl) rfl d_D_time_4 ?_
  refine lv_iconst (v := nI 0) S.1 S.2.1 d_D_time_7 (by decide +kernel) ?_
  refine fk_ia S E G 83 (by decide) (congrArg (fk_ce g ov 83 (M 83)) kd_83) 0 rfl (by decide) (by decide) (v := M 83 0) rfl d_D_time_8 ?_
  exact fk_iret S hr hlk E G rfl rfl d_D_time_9
theorem d_D_beginUnchecked_0 : decode b_D_beginUnchecked 0 = .ok (.aload_n 0, 1) := by decide +kernel
theorem d_D_beginUnchecked_1 : decode b_D_beginUnchecked 1 = .ok (.getfield 30, 3) := by decide +kernel
theorem d_D_beginUnchecked_4 : decode b_D_beginUnchecked 4 = .ok (.invokevirtual 168, 3) := by decide +kernel
theorem d_D_beginUnchecked_7 : decode b_D_beginUnchecked 7 = .ok (.aload_n 0, 1) := by decide +kernel
theorem d_D_beginUnchecked_8 : decode b_D_beginUnchecked 8 = .ok (.getfield 37, 3) := by decide +kernel
theorem d_D_beginUnchecked_11 : decode b_D_beginUnchecked 11 = .ok (.invokevirtual 106, 3) := by decide +kernel
theorem d_D_beginUnchecked_14 : decode b_D_beginUnchecked 14 = .ok (.return_, 1) := by decide +kernel
theorem m_D_beginUnchecked : fk_MI y_D_beginUnchecked b_D_beginUnchecked 1 none 0 := ⟨i_461, i_460, fk_mp (q := (y_D_beginUnchecked, 5)) (by decide +kernel), i_1, by decide +kernel⟩
set_option maxHeartbeats 4000000 in
set_option maxRecDepth 100000 in
theorem c_D_beginUnchecked (l : Launch) (g : fk_G) (ov : Int64) (M : fk_M) (n : Nat) (ck P sz : Nat → Nat) (bb : Nat → Nat → Nat) (hs : fk_Sh n ck P sz bb M) : fk_CV l y_D_beginUnchecked b_D_beginUnchecked 1 (fk_rm 2) g ov M (fk_rs P (fk_fg M) n) [.ref (fk_a g 0)] := by
  refine fk_ofV rfl (Nat.le_of_ble_eq_true rfl) ?_
  intro p e s m args below meth c ls S hr hlk E G hl
  have hl : lv_has ls 1 [(0, .ref (fk_a g 0))] := hl
  refine lv_aload_n S.1 S.2.1 d_D_beginUnchecked_0 rfl (lv_at hl 0 rfl) ?_
  refine fk_gf S E G 0 (by decide) (v := .ref (fk_a g 79)) (congrArg (fk_ce g ov 0 (M 0)) kd_0) rfl 2 (by decide) rfl i_203 rfl d_D_beginUnchecked_1 ?_
  refine fk_cnv S E G 79 (by decide) (congrArg (fk_ce g ov 79 (M 79)) kd_79) rfl (rest := []) (c_K_forget l g ov M) m_K_forget (List.mem_of_getElem? (i := 26) rfl) ⟨rfl, rfl⟩ ⟨by decide, by decide⟩ rfl rfl hl.1 (Nat.le_of_ble_eq_true rfl) d_D_beginUnchecked_4 ⟨Nat.zero_le _, Nat.zero_le _⟩ (fun H locs G => ?_)
  obtain ⟨Mf, hMf⟩ : ∃ z : fk_M, z = fk_fg M := ⟨_, rfl⟩
  rw [← hMf] at G
  have hq : fk_Eq M Mf := by
    rw [hMf]
    unfold fk_fg
    exact fk_Eq_k (by omega) _
  refine lv_aload_n S.1 S.2.1 d_D_beginUnchecked_7 rfl (lv_at hl 0 rfl) ?_
  refine fk_gf S E G 0 (by decide) (v := .ref (fk_a g 82)) (congrArg (fk_ce g ov 0 (Mf 0)) kd_0) rfl 3 (by decide) rfl i_204 rfl d_D_beginUnchecked_8 ?_
  refine fk_cnv S E G 82 (by decide) (congrArg (fk_ce g ov 82 (Mf 82)) kd_82) rfl (rest := []) (c_C_restart l g ov Mf n ck P sz bb (hs.to hq)) m_C_restart (List.mem_of_getElem? (i := 7) rfl) ⟨rfl, rfl⟩ ⟨by decide, by decide⟩ rfl rfl hl.1 (Nat.le_of_ble_eq_true rfl) d_D_beginUnchecked_11 ⟨Nat.zero_le _, Nat.zero_le _⟩ (fun H locs G => ?_)
  exact fk_vret S hr hlk E G (by rw [hMf]) d_D_beginUnchecked_14
theorem d_D_check_0 : decode b_D_check 0 = .ok (.aload_n 0, 1) := by decide +kernel
theorem d_D_check_1 : decode b_D_check 1 = .ok (.getfield 37, 3) := by decide +kernel
theorem d_D_check_4 : decode b_D_check 4 = .ok (.invokevirtual 106, 3) := by decide +kernel
theorem d_D_check_7 : decode b_D_check 7 = .ok (.aload_n 0, 1) := by decide +kernel
theorem d_D_check_8 : decode b_D_check 8 = .ok (.getfield 30, 3) := by decide +kernel
theorem d_D_check_11 : decode b_D_check 11 = .ok (.invokevirtual 109, 3) := by decide +kernel
theorem d_D_check_14 : decode b_D_check 14 = .ok (.ireturn, 1) := by decide +kernel
theorem m_D_check : fk_MI y_D_check b_D_check 1 (some .int) 0 := ⟨i_220, i_218, i_219, i_1, by decide +kernel⟩
set_option maxHeartbeats 4000000 in
set_option maxRecDepth 100000 in
theorem c_D_check (l : Launch) (g : fk_G) (ov : Int64) (M : fk_M) (n : Nat) (ck P sz : Nat → Nat) (bb : Nat → Nat → Nat) (hs : fk_Sh n ck P sz bb M) : fk_CI l y_D_check b_D_check 1 (some .int) (fk_rm 7) g ov M ((fk_exm n ck P sz bb (fk_rs P M n)).2) [.ref (fk_a g 0)] (nI (fk_exm n ck P sz bb (fk_rs P M n)).1) := by
  refine fk_ofI rfl (Nat.le_of_ble_eq_true rfl) ?_
  intro p e s m args below meth c ls S hr hlk E G hl
  have hl : lv_has ls 1 [(0, .ref (fk_a g 0))] := hl
  refine lv_aload_n S.1 S.2.1 d_D_check_0 rfl (lv_at hl 0 rfl) ?_
  refine fk_gf S E G 0 (by decide) (v := .ref (fk_a g 82)) (congrArg (fk_ce g ov 0 (M 0)) kd_0) rfl 3 (by decide) rfl i_204 rfl d_D_check_1 ?_
  refine fk_cnv S E G 82 (by decide) (congrArg (fk_ce g ov 82 (M 82)) kd_82) rfl (rest := []) (c_C_restart l g ov M n ck P sz bb hs) m_C_restart (List.mem_of_getElem? (i := 7) rfl) ⟨rfl, rfl⟩ ⟨by decide, by decide⟩ rfl rfl hl.1 (Nat.le_of_ble_eq_true rfl) d_D_check_4 ⟨Nat.zero_le _, Nat.zero_le _⟩ (fun H locs G => ?_)
  obtain ⟨Mf, hMf⟩ : ∃ z : fk_M, z = fk_rs P M n := ⟨_, rfl⟩
  rw [← hMf] at G
  have hq : fk_Eq M Mf := by rw [hMf]; exact fk_rs_Eq (fun j hj => (hs.2.2 j hj).1) M n hs.2.1
  refine lv_aload_n S.1 S.2.1 d_D_check_7 rfl (lv_at hl 0 rfl) ?_
  refine fk_gf S E G 0 (by decide) (v := .ref (fk_a g 79)) (congrArg (fk_ce g ov 0 (Mf 0)) kd_0) rfl 2 (by decide) rfl i_203 rfl d_D_check_8 ?_
  refine fk_cni S E G 79 (by decide) (congrArg (fk_ce g ov 79 (Mf 79)) kd_79) rfl (rest := []) (c_K_examine l g ov Mf n ck P sz bb (hs.to hq)) m_K_examine (List.mem_of_getElem? (i := 8) rfl) ⟨rfl, rfl⟩ ⟨by decide, by decide⟩ rfl rfl hl.1 (Nat.le_of_ble_eq_true rfl) d_D_check_11 ⟨Nat.zero_le _, Nat.zero_le _⟩ (fun H locs G => ?_)
  exact fk_iret S hr hlk E G (by rw [hMf]) (by rw [hMf]) d_D_check_14
