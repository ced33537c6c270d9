/-! FlowDesk: the ten methods, where they throw. Written by wip/gen/s_desk6.py. -/
set_option maxHeartbeats 4000000 in
set_option maxRecDepth 100000 in
theorem t_D_flow1 (l : Launch) (hfl : l.flags = flags0) (g : fk_G) (ov : Int64) (M : fk_M) (n : Nat) (hn : M 1 1 = nI n) (h12 : n ≤ 12) (vb vi v : Int32) (hcc : v < 0 ∨ ∃ cc, v = nI cc ∧ 0 < cc ∧ cc < 2 ^ 31 ∧ fk_ic M n cc = false) : fk_CX l y_D_flow b_D_flow 5 (some .int) (fk_rx 8) g ov M M [.ref (fk_a g 0), .int vb, .int v, .int vi] x_IA := by
  refine fk_ofT rfl (Nat.le_of_ble_eq_true rfl) ?_
  intro p e s m args below meth c ls S hlk hex E Z G hl
  have hl : lv_has ls 5 [(0, .ref (fk_a g 0)), (1, .int vb), (2, .int v), (3, .int vi)] := hl
  rcases hcc with hcc | ⟨cc, rfl, c1, c2, c3⟩
  · have h9 := c_N_isClock0 l g ov M v (by rw [Int32.lt_iff_toInt_lt] at hcc ⊢; omega)
    rw [show decide (v = 0) = false from decide_eq_false (fun q => by rw [q] at hcc; exact absurd hcc (by decide))] at h9
    have h9 : fk_CI l y_N_isClock b_N_isClock 2 (some .boolean) (fk_rm 0) g ov M M [.ref (fk_a g 1), .int v] (nI 0) := h9
    refine lv_aload_n S.1 S.2.1 d_D_flow_0 rfl (lv_at hl 0 rfl) ?_
    refine fk_gf S E G 0 (by decide) (v := .ref (fk_a g 1)) (congrArg (fk_ce g ov 0 (M 0)) kd_0) rfl 0 (by decide) rfl i_201 rfl d_D_flow_1 ?_
    refine lv_iload_n S.1 S.2.1 d_D_flow_4 rfl (lv_at hl 2 rfl) ?_
    refine fk_cni S E G 1 (by decide) (congrArg (fk_ce g ov 1 (M 1)) kd_1) rfl (rest := []) h9 m_N_isClock (List.mem_of_getElem? (i := 23) rfl) ⟨rfl, rfl⟩ ⟨by decide, by decide⟩ rfl rfl hl.1 (Nat.le_of_ble_eq_true rfl) d_D_flow_5 ⟨Nat.zero_le _, Nat.zero_le _⟩ (fun H locs G => ?_)
    refine fk_zne (tgt := 21) S.1 S.2.1 (by decide) d_D_flow_8 rfl (fun hc1 => ?_) (fun hc1 => ?_)
    · exact absurd hc1 (by decide)
    · exact fk_thr hfl S hlk hex E Z G xc_IA i_370 (tx := "no such clock") (List.mem_of_getElem? (i := 0) rfl) hl.1 ⟨by decide, by decide, by decide, by decide⟩ rfl d_D_flow_11 d_D_flow_14 d_D_flow_15 d_D_flow_17 d_D_flow_20
  · refine lv_aload_n S.1 S.2.1 d_D_flow_0 rfl (lv_at hl 0 rfl) ?_
    refine fk_gf S E G 0 (by decide) (v := .ref (fk_a g 1)) (congrArg (fk_ce g ov 0 (M 0)) kd_0) rfl 0 (by decide) rfl i_201 rfl d_D_flow_1 ?_
    refine lv_iload_n S.1 S.2.1 d_D_flow_4 rfl (lv_at hl 2 rfl) ?_
    refine fk_cni S E G 1 (by decide) (congrArg (fk_ce g ov 1 (M 1)) kd_1) rfl (rest := []) (show fk_CI _ _ _ _ _ _ _ _ _ _ _ (nI 0) from by have h9 := c_N_isClock l g ov M cc c1 c2 n hn h12; rw [c3] at h9; exact h9) m_N_isClock (List.mem_of_getElem? (i := 23) rfl) ⟨rfl, rfl⟩ ⟨by decide, by decide⟩ rfl rfl hl.1 (Nat.le_of_ble_eq_true rfl) d_D_flow_5 ⟨Nat.zero_le _, Nat.zero_le _⟩ (fun H locs G => ?_)
    refine fk_zne (tgt := 21) S.1 S.2.1 (by decide) d_D_flow_8 rfl (fun hc2 => ?_) (fun hc2 => ?_)
    · exact absurd hc2 (by decide)
    · exact fk_thr hfl S hlk hex E Z G xc_IA i_370 (tx := "no such clock") (List.mem_of_getElem? (i := 0) rfl) hl.1 ⟨by decide, by decide, by decide, by decide⟩ rfl d_D_flow_11 d_D_flow_14 d_D_flow_15 d_D_flow_17 d_D_flow_20
set_option maxHeartbeats 4000000 in
set_option maxRecDepth 100000 in
theorem t_D_flow2 (l : Launch) (hfl : l.flags = flags0) (g : fk_G) (ov : Int64) (M : fk_M) (hn : M 1 1 = nI 12) (vb vi : Int32) (cc : Nat) (hcc : cc = 0 ∨ (0 < cc ∧ cc < 2 ^ 31 ∧ fk_ic M 12 cc = true)) : fk_CX l y_D_flow b_D_flow 5 (some .int) (fk_rx 8) g ov M M [.ref (fk_a g 0), .int vb, .int (nI cc), .int vi] x_IS := by
  refine fk_ofT rfl (Nat.le_of_ble_eq_true rfl) ?_
  intro p e s m args below meth c ls S hlk hex E Z G hl
  have hl : lv_has ls 5 [(0, .ref (fk_a g 0)), (1, .int vb), (2, .int (nI cc)), (3, .int vi)] := hl
  rcases hcc with hcc | ⟨c1, c2, c3⟩
  · have h9 := c_N_isClock0 l g ov M (nI cc) (by rw [hcc]; decide +kernel)
    rw [show decide (nI cc = 0) = true from decide_eq_true (by rw [hcc]; exact nI_0)] at h9
    have h9 : fk_CI l y_N_isClock b_N_isClock 2 (some .boolean) (fk_rm 0) g ov M M [.ref (fk_a g 1), .int (nI cc)] (nI 1) := h9
    refine lv_aload_n S.1 S.2.1 d_D_flow_0 rfl (lv_at hl 0 rfl) ?_
    refine fk_gf S E G 0 (by decide) (v := .ref (fk_a g 1)) (congrArg (fk_ce g ov 0 (M 0)) kd_0) rfl 0 (by decide) rfl i_201 rfl d_D_flow_1 ?_
    refine lv_iload_n S.1 S.2.1 d_D_flow_4 rfl (lv_at hl 2 rfl) ?_
    refine fk_cni S E G 1 (by decide) (congrArg (fk_ce g ov 1 (M 1)) kd_1) rfl (rest := []) h9 m_N_isClock (List.mem_of_getElem? (i := 23) rfl) ⟨rfl, rfl⟩ ⟨by decide, by decide⟩ rfl rfl hl.1 (Nat.le_of_ble_eq_true rfl) d_D_flow_5 ⟨Nat.zero_le _, Nat.zero_le _⟩ (fun H locs G => ?_)
    refine fk_zne (tgt := 21) S.1 S.2.1 (by decide) d_D_flow_8 rfl (fun hc1 => ?_) (fun hc1 => ?_)
    · refine lv_aload_n S.1 S.2.1 d_D_flow_21 rfl (lv_at hl 0 rfl) ?_
      refine fk_gf S E G 0 (by decide) (v := .ref (fk_a g 1)) (congrArg (fk_ce g ov 0 (M 0)) kd_0) rfl 0 (by decide) rfl i_201 rfl d_D_flow_22 ?_
      refine fk_gn S E G 1 (by decide) (v := .int (M 1 1)) (congrArg (fk_ce g ov 1 (M 1)) kd_1) rfl 1 (by decide) rfl (List.mem_of_getElem? (i := 40) rfl) rfl d_D_flow_25 ?_
      rw [hn]
      refine lv_bipush (v := nI 12) S.1 S.2.1 d_D_flow_28 (by decide +kernel) ?_
      refine fk_clt (tgt := 43) S.1 S.2.1 (by omega) (by omega) d_D_flow_30 rfl (fun hc2 => ?_) (fun hc2 => ?_)
      · exact absurd hc2 (by omega)
      · exact fk_thr hfl S hlk hex E Z G xc_IS i_438 (tx := "no more flows") (List.mem_of_getElem? (i := 1) rfl) hl.1 ⟨by decide, by decide, by decide, by decide⟩ rfl d_D_flow_33 d_D_flow_36 d_D_flow_37 d_D_flow_39 d_D_flow_42
    · exact absurd hc1 (by decide)
  · refine lv_aload_n S.1 S.2.1 d_D_flow_0 rfl (lv_at hl 0 rfl) ?_
    refine fk_gf S E G 0 (by decide) (v := .ref (fk_a g 1)) (congrArg (fk_ce g ov 0 (M 0)) kd_0) rfl 0 (by decide) rfl i_201 rfl d_D_flow_1 ?_
    refine lv_iload_n S.1 S.2.1 d_D_flow_4 rfl (lv_at hl 2 rfl) ?_
    refine fk_cni S E G 1 (by decide) (congrArg (fk_ce g ov 1 (M 1)) kd_1) rfl (rest := []) (show fk_CI _ _ _ _ _ _ _ _ _ _ _ (nI 1) from by have h9 := c_N_isClock l g ov M cc c1 c2 12 hn (by omega); rw [c3] at h9; exact h9) m_N_isClock (List.mem_of_getElem? (i := 23) rfl) ⟨rfl, rfl⟩ ⟨by decide, by decide⟩ rfl rfl hl.1 (Nat.le_of_ble_eq_true rfl) d_D_flow_5 ⟨Nat.zero_le _, Nat.zero_le _⟩ (fun H locs G => ?_)
    refine fk_zne (tgt := 21) S.1 S.2.1 (by decide) d_D_flow_8 rfl (fun hc3 => ?_) (fun hc3 => ?_)
    · refine lv_aload_n S.1 S.2.1 d_D_flow_21 rfl (lv_at hl 0 rfl) ?_
      refine fk_gf S E G 0 (by decide) (v := .ref (fk_a g 1)) (congrArg (fk_ce g ov 0 (M 0)) kd_0) rfl 0 (by decide) rfl i_201 rfl d_D_flow_22 ?_
      refine fk_gn S E G 1 (by decide) (v := .int (M 1 1)) (congrArg (fk_ce g ov 1 (M 1)) kd_1) rfl 1 (by decide) rfl (List.mem_of_getElem? (i := 40) rfl) rfl d_D_flow_25 ?_
      rw [hn]
      refine lv_bipush (v := nI 12) S.1 S.2.1 d_D_flow_28 (by decide +kernel) ?_
      refine fk_clt (tgt := 43) S.1 S.2.1 (by omega) (by omega) d_D_flow_30 rfl (fun hc4 => ?_) (fun hc4 => ?_)
      · exact absurd hc4 (by omega)
      · exact fk_thr hfl S hlk hex E Z G xc_IS i_438 (tx := "no more flows") (List.mem_of_getElem? (i := 1) rfl) hl.1 ⟨by decide, by decide, by decide, by decide⟩ rfl d_D_flow_33 d_D_flow_36 d_D_flow_37 d_D_flow_39 d_D_flow_42
    · exact absurd hc3 (by decide)
set_option maxHeartbeats 4000000 in
set_option maxRecDepth 100000 in
theorem t_D_type1 (l : Launch) (hfl : l.flags = flags0) (g : fk_G) (ov : Int64) (M : fk_M) (v : Int32) (hv : v < nI 1 ∨ ¬ v ≤ nI 8) (w : Int64) : fk_CX l y_D_type b_D_type 5 none (fk_rx 8) g ov M M [.ref (fk_a g 0), .long w, .int v] x_IA := by
  refine fk_ofT rfl (Nat.le_of_ble_eq_true rfl) ?_
  intro p e s m args below meth c ls S hlk hex E Z G hl
  have hl : lv_has ls 5 [(0, .ref (fk_a g 0)), (1, .long w), (3, .int v)] := hl
  refine lv_iload_n S.1 S.2.1 d_D_type_0 rfl (lv_at hl 2 rfl) ?_
  refine lv_iconst (v := nI 1) S.1 S.2.1 d_D_type_1 (by decide +kernel) ?_
  refine lv_icmp_lt (tgt := 11) S.1 S.2.1 d_D_type_2 rfl (fun hc1 => ?_) (fun hc1 => ?_)
  · exact fk_thr hfl S hlk hex E Z G xc_IA i_370 (tx := "not 1 to 8 bytes") (List.mem_of_getElem? (i := 2) rfl) hl.1 ⟨by decide, by decide, by decide, by decide⟩ rfl d_D_type_11 d_D_type_14 d_D_type_15 d_D_type_17 d_D_type_20
  · refine lv_iload_n S.1 S.2.1 d_D_type_5 rfl (lv_at hl 2 rfl) ?_
    refine lv_bipush (v := nI 8) S.1 S.2.1 d_D_type_6 (by decide +kernel) ?_
    refine lv_icmp_le (tgt := 21) S.1 S.2.1 d_D_type_8 rfl (fun hc2 => ?_) (fun hc2 => ?_)
    · rcases hv with hv | hv
      · exact absurd hv hc1
      · exact absurd hc2 hv
    · exact fk_thr hfl S hlk hex E Z G xc_IA i_370 (tx := "not 1 to 8 bytes") (List.mem_of_getElem? (i := 2) rfl) hl.1 ⟨by decide, by decide, by decide, by decide⟩ rfl d_D_type_11 d_D_type_14 d_D_type_15 d_D_type_17 d_D_type_20
set_option maxHeartbeats 4000000 in
set_option maxRecDepth 100000 in
theorem t_D_instants1 (l : Launch) (hfl : l.flags = flags0) (g : fk_G) (ov : Int64) (M : fk_M) (v : Int32) (hv : v < nI 1 ∨ ¬ v ≤ nI 50) : fk_CX l y_D_instants b_D_instants 3 none (fk_rx 8) g ov M M [.ref (fk_a g 0), .int v] x_IA := by
  refine fk_ofT rfl (Nat.le_of_ble_eq_true rfl) ?_
  intro p e s m args below meth c ls S hlk hex E Z G hl
  have hl : lv_has ls 3 [(0, .ref (fk_a g 0)), (1, .int v)] := hl
  refine lv_iload_n S.1 S.2.1 d_D_instants_0 rfl (lv_at hl 1 rfl) ?_
  refine lv_iconst (v := nI 1) S.1 S.2.1 d_D_instants_1 (by decide +kernel) ?_
  refine lv_icmp_lt (tgt := 11) S.1 S.2.1 d_D_instants_2 rfl (fun hc1 => ?_) (fun hc1 => ?_)
  · exact fk_thr hfl S hlk hex E Z G xc_IA i_370 (tx := "not 1 to 50 instants") (List.mem_of_getElem? (i := 9) rfl) hl.1 ⟨by decide, by decide, by decide, by decide⟩ rfl d_D_instants_11 d_D_instants_14 d_D_instants_15 d_D_instants_17 d_D_instants_20
  · refine lv_iload_n S.1 S.2.1 d_D_instants_5 rfl (lv_at hl 1 rfl) ?_
    refine lv_bipush (v := nI 50) S.1 S.2.1 d_D_instants_6 (by decide +kernel) ?_
    refine lv_icmp_le (tgt := 21) S.1 S.2.1 d_D_instants_8 rfl (fun hc2 => ?_) (fun hc2 => ?_)
    · rcases hv with hv | hv
      · exact absurd hv hc1
      · exact absurd hc2 hv
    · exact fk_thr hfl S hlk hex E Z G xc_IA i_370 (tx := "not 1 to 50 instants") (List.mem_of_getElem? (i := 9) rfl) hl.1 ⟨by decide, by decide, by decide, by decide⟩ rfl d_D_instants_11 d_D_instants_14 d_D_instants_15 d_D_instants_17 d_D_instants_20
set_option maxHeartbeats 4000000 in
set_option maxRecDepth 100000 in
theorem t_D_type2 (l : Launch) (hfl : l.flags = flags0) (g : fk_G) (ov : Int64) (M : fk_M) (x : Nat) (hX : fk_X x) (hd : M 0 4 = nI x) (u0 k : Nat) (hn : M x 4 = nI u0) (h1 : 1 ≤ k) (h8 : k ≤ 8) (h40 : 40 < u0 + k) (hu : u0 ≤ 40) (w : Int64) : fk_CX l y_D_type b_D_type 5 none (fk_rx 8) g ov M M [.ref (fk_a g 0), .long w, .int (nI k)] x_IS := by
  refine fk_ofT rfl (Nat.le_of_ble_eq_true rfl) ?_
  intro p e s m args below meth c ls S hlk hex E Z G hl
  have hl : lv_has ls 5 [(0, .ref (fk_a g 0)), (1, .long w), (3, .int (nI k))] := hl
  refine lv_iload_n S.1 S.2.1 d_D_type_0 rfl (lv_at hl 2 rfl) ?_
  refine lv_iconst (v := nI 1) S.1 S.2.1 d_D_type_1 (by decide +kernel) ?_
  refine fk_clt (tgt := 11) S.1 S.2.1 (by omega) (by omega) d_D_type_2 rfl (fun hc1 => ?_) (fun hc1 => ?_)
  · exact absurd hc1 (by omega)
  · refine lv_iload_n S.1 S.2.1 d_D_type_5 rfl (lv_at hl 2 rfl) ?_
    refine lv_bipush (v := nI 8) S.1 S.2.1 d_D_type_6 (by decide +kernel) ?_
    refine fk_cle (tgt := 21) S.1 S.2.1 (by omega) (by omega) d_D_type_8 rfl (fun hc2 => ?_) (fun hc2 => ?_)
    · refine lv_aload_n S.1 S.2.1 d_D_type_21 rfl (lv_at hl 0 rfl) ?_
      refine fk_gf S E G 0 (by decide) (v := .ref (fk_a g x)) (fk_desk hd (fk_Xb hX)) rfl 4 (by decide) rfl i_205 rfl d_D_type_22 ?_
      refine fk_gn S E G x (by have := fk_Xlt hX; omega) (v := .int (M x 4)) (congrArg (fk_ce g ov x (M x)) (fk_kx0 hX)) rfl 4 (by decide) rfl (List.mem_of_getElem? (i := 9) rfl) rfl d_D_type_25 ?_
      rw [hn]
      refine lv_iload_n S.1 S.2.1 d_D_type_28 rfl (lv_at hl 2 rfl) ?_
      refine fk_iadd S.1 S.2.1 d_D_type_29 ?_
      refine lv_bipush (v := nI 40) S.1 S.2.1 d_D_type_30 (by decide +kernel) ?_
      refine fk_cle (tgt := 45) S.1 S.2.1 (by omega) (by omega) d_D_type_32 rfl (fun hc3 => ?_) (fun hc3 => ?_)
      · exact absurd hc3 (by omega)
      · exact fk_thr hfl S hlk hex E Z G xc_IS i_438 (tx := "the draft would be too long") (List.mem_of_getElem? (i := 3) rfl) hl.1 ⟨by decide, by decide, by decide, by decide⟩ rfl d_D_type_35 d_D_type_38 d_D_type_39 d_D_type_41 d_D_type_44
    · exact absurd hc2 (by omega)
set_option maxHeartbeats 4000000 in
set_option maxRecDepth 100000 in
theorem t_D_instants2 (l : Launch) (hfl : l.flags = flags0) (g : fk_G) (ov : Int64) (M : fk_M) (kk : Nat) (h1 : 1 ≤ kk) (h50 : kk ≤ 50) (hp : M 79 4 = 0) : fk_CX l y_D_instants b_D_instants 3 none (fk_rx 8) g ov M M [.ref (fk_a g 0), .int (nI kk)] x_IS := by
  refine fk_ofT rfl (Nat.le_of_ble_eq_true rfl) ?_
  intro p e s m args below meth c ls S hlk hex E Z G hl
  have hl : lv_has ls 3 [(0, .ref (fk_a g 0)), (1, .int (nI kk))] := hl
  refine lv_iload_n S.1 S.2.1 d_D_instants_0 rfl (lv_at hl 1 rfl) ?_
  refine lv_iconst (v := nI 1) S.1 S.2.1 d_D_instants_1 (by decide +kernel) ?_
  refine fk_clt (tgt := 11) S.1 S.2.1 (by omega) (by omega) d_D_instants_2 rfl (fun hc1 => ?_) (fun hc1 => ?_)
  · exact absurd hc1 (by omega)
  · refine lv_iload_n S.1 S.2.1 d_D_instants_5 rfl (lv_at hl 1 rfl) ?_
    refine lv_bipush (v := nI 50) S.1 S.2.1 d_D_instants_6 (by decide +kernel) ?_
    refine fk_cle (tgt := 21) S.1 S.2.1 (by omega) (by omega) d_D_instants_8 rfl (fun hc2 => ?_) (fun hc2 => ?_)
    · refine lv_aload_n S.1 S.2.1 d_D_instants_21 rfl (lv_at hl 0 rfl) ?_
      refine fk_gf S E G 0 (by decide) (v := .ref (fk_a g 79)) (congrArg (fk_ce g ov 0 (M 0)) kd_0) rfl 2 (by decide) rfl i_203 rfl d_D_instants_22 ?_
      refine fk_gn S E G 79 (by decide) (v := .int (M 79 4)) (congrArg (fk_ce g ov 79 (M 79)) kd_79) rfl 4 (by decide) rfl (List.mem_of_getElem? (i := 45) rfl) rfl d_D_instants_25 ?_
      refine lv_if_ne (tgt := 41) S.1 S.2.1 d_D_instants_28 rfl (fun hc3 => ?_) (fun hc3 => ?_)
      · exact absurd hp hc3
      · exact fk_thr hfl S hlk hex E Z G xc_IS i_438 (tx := "not checked, or the check failed") (List.mem_of_getElem? (i := 6) rfl) hl.1 ⟨by decide, by decide, by decide, by decide⟩ rfl d_D_instants_31 d_D_instants_34 d_D_instants_35 d_D_instants_37 d_D_instants_40
    · exact absurd hc2 (by omega)
set_option maxHeartbeats 4000000 in
set_option maxRecDepth 100000 in
theorem t_D_fault (l : Launch) (hfl : l.flags = flags0) (g : fk_G) (ov : Int64) (M : fk_M) (v : Int32) (h0 : ¬ v = 0) (h1 : ¬ v = nI 1) : fk_CX l y_D_fault b_D_fault 2 (some .int) (fk_rx 8) g ov M M [.ref (fk_a g 0), .int v] x_IA := by
  refine fk_ofT rfl (Nat.le_of_ble_eq_true rfl) ?_
  intro p e s m args below meth c ls S hlk hex E Z G hl
  have hl : lv_has ls 2 [(0, .ref (fk_a g 0)), (1, .int v)] := hl
  refine lv_iload_n S.1 S.2.1 d_D_fault_0 rfl (lv_at hl 1 rfl) ?_
  refine lv_if_eq (tgt := 19) S.1 S.2.1 d_D_fault_1 rfl (fun hc1 => ?_) (fun hc1 => ?_)
  · exact absurd hc1 h0
  · refine lv_iload_n S.1 S.2.1 d_D_fault_4 rfl (lv_at hl 1 rfl) ?_
    refine lv_iconst (v := nI 1) S.1 S.2.1 d_D_fault_5 (by decide +kernel) ?_
    refine lv_icmp_eq (tgt := 19) S.1 S.2.1 d_D_fault_6 rfl (fun hc2 => ?_) (fun hc2 => ?_)
    · exact absurd hc2 h1
    · exact fk_thr hfl S hlk hex E Z G xc_IA i_370 (tx := "no such part of a fault") (List.mem_of_getElem? (i := 5) rfl) hl.1 ⟨by decide, by decide, by decide, by decide⟩ rfl d_D_fault_9 d_D_fault_12 d_D_fault_13 d_D_fault_15 d_D_fault_18
set_option maxHeartbeats 4000000 in
set_option maxRecDepth 100000 in
theorem t_D_order1 (l : Launch) (hfl : l.flags = flags0) (g : fk_G) (ov : Int64) (M : fk_M) (v : Int32) (hp : M 79 4 = 0) : fk_CX l y_D_order b_D_order 2 (some .int) (fk_rx 8) g ov M M [.ref (fk_a g 0), .int v] x_IS := by
  refine fk_ofT rfl (Nat.le_of_ble_eq_true rfl) ?_
  intro p e s m args below meth c ls S hlk hex E Z G hl
  have hl : lv_has ls 2 [(0, .ref (fk_a g 0)), (1, .int v)] := hl
  refine lv_aload_n S.1 S.2.1 d_D_order_0 rfl (lv_at hl 0 rfl) ?_
  refine fk_gf S E G 0 (by decide) (v := .ref (fk_a g 79)) (congrArg (fk_ce g ov 0 (M 0)) kd_0) rfl 2 (by decide) rfl i_203 rfl d_D_order_1 ?_
  refine fk_gn S E G 79 (by decide) (v := .int (M 79 4)) (congrArg (fk_ce g ov 79 (M 79)) kd_79) rfl 4 (by decide) rfl (List.mem_of_getElem? (i := 45) rfl) rfl d_D_order_4 ?_
  refine lv_if_ne (tgt := 20) S.1 S.2.1 d_D_order_7 rfl (fun hc1 => ?_) (fun hc1 => ?_)
  · exact absurd hp hc1
  · exact fk_thr hfl S hlk hex E Z G xc_IS i_438 (tx := "not checked, or the check failed") (List.mem_of_getElem? (i := 6) rfl) hl.1 ⟨by decide, by decide, by decide, by decide⟩ rfl d_D_order_10 d_D_order_13 d_D_order_14 d_D_order_16 d_D_order_19
set_option maxHeartbeats 4000000 in
set_option maxRecDepth 100000 in
theorem t_D_order2 (l : Launch) (hfl : l.flags = flags0) (g : fk_G) (ov : Int64) (M : fk_M) (v : Int32) (hp : ¬ M 79 4 = 0) (hv : v < 0 ∨ ¬ v < M 75 3) : fk_CX l y_D_order b_D_order 2 (some .int) (fk_rx 8) g ov M M [.ref (fk_a g 0), .int v] x_NS := by
  refine fk_ofT rfl (Nat.le_of_ble_eq_true rfl) ?_
  intro p e s m args below meth c ls S hlk hex E Z G hl
  have hl : lv_has ls 2 [(0, .ref (fk_a g 0)), (1, .int v)] := hl
  refine lv_aload_n S.1 S.2.1 d_D_order_0 rfl (lv_at hl 0 rfl) ?_
  refine fk_gf S E G 0 (by decide) (v := .ref (fk_a g 79)) (congrArg (fk_ce g ov 0 (M 0)) kd_0) rfl 2 (by decide) rfl i_203 rfl d_D_order_1 ?_
  refine fk_gn S E G 79 (by decide) (v := .int (M 79 4)) (congrArg (fk_ce g ov 79 (M 79)) kd_79) rfl 4 (by decide) rfl (List.mem_of_getElem? (i := 45) rfl) rfl d_D_order_4 ?_
  refine lv_if_ne (tgt := 20) S.1 S.2.1 d_D_order_7 rfl (fun hc1 => ?_) (fun hc1 => ?_)
  · refine lv_iload_n S.1 S.2.1 d_D_order_20 rfl (lv_at hl 1 rfl) ?_
    refine lv_if_lt (tgt := 35) S.1 S.2.1 d_D_order_21 rfl (fun hc2 => ?_) (fun hc2 => ?_)
    · exact fk_thr hfl S hlk hex E Z G xc_NS i_513 (tx := "no flow comes there") (List.mem_of_getElem? (i := 7) rfl) hl.1 ⟨by decide, by decide, by decide, by decide⟩ rfl d_D_order_35 d_D_order_38 d_D_order_39 d_D_order_41 d_D_order_44
    · refine lv_iload_n S.1 S.2.1 d_D_order_24 rfl (lv_at hl 1 rfl) ?_
      refine lv_aload_n S.1 S.2.1 d_D_order_25 rfl (lv_at hl 0 rfl) ?_
      refine fk_gf S E G 0 (by decide) (v := .ref (fk_a g 75)) (congrArg (fk_ce g ov 0 (M 0)) kd_0) rfl 1 (by decide) rfl i_202 rfl d_D_order_26 ?_
      refine fk_gn S E G 75 (by decide) (v := .int (M 75 3)) (congrArg (fk_ce g ov 75 (M 75)) kd_75) rfl 3 (by decide) rfl (List.mem_of_getElem? (i := 43) rfl) rfl d_D_order_29 ?_
      refine lv_icmp_lt (tgt := 45) S.1 S.2.1 d_D_order_32 rfl (fun hc3 => ?_) (fun hc3 => ?_)
      · rcases hv with hv | hv
        · exact absurd hv hc2
        · exact absurd hc3 hv
      · exact fk_thr hfl S hlk hex E Z G xc_NS i_513 (tx := "no flow comes there") (List.mem_of_getElem? (i := 7) rfl) hl.1 ⟨by decide, by decide, by decide, by decide⟩ rfl d_D_order_35 d_D_order_38 d_D_order_39 d_D_order_41 d_D_order_44
  · exact absurd hc1 hp
set_option maxHeartbeats 4000000 in
set_option maxRecDepth 100000 in
theorem t_D_present1 (l : Launch) (hfl : l.flags = flags0) (g : fk_G) (ov : Int64) (M : fk_M) (n : Nat) (hn : M 1 1 = nI n) (v : Int32) (hh : fk_hs v n = false) : fk_CX l y_D_present b_D_present 2 (some .boolean) (fk_rx 8) g ov M M [.ref (fk_a g 0), .int v] x_IA := by
  refine fk_ofT rfl (Nat.le_of_ble_eq_true rfl) ?_
  intro p e s m args below meth c ls S hlk hex E Z G hl
  have hl : lv_has ls 2 [(0, .ref (fk_a g 0)), (1, .int v)] := hl
  refine lv_aload_n S.1 S.2.1 d_D_present_0 rfl (lv_at hl 0 rfl) ?_
  refine fk_gf S E G 0 (by decide) (v := .ref (fk_a g 1)) (congrArg (fk_ce g ov 0 (M 0)) kd_0) rfl 0 (by decide) rfl i_201 rfl d_D_present_1 ?_
  refine lv_iload_n S.1 S.2.1 d_D_present_4 rfl (lv_at hl 1 rfl) ?_
  refine fk_cni S E G 1 (by decide) (congrArg (fk_ce g ov 1 (M 1)) kd_1) rfl (rest := []) (c_N_has l g ov M v n hn) m_N_has (List.mem_of_getElem? (i := 28) rfl) ⟨rfl, rfl⟩ ⟨by decide, by decide⟩ rfl rfl hl.1 (Nat.le_of_ble_eq_true rfl) d_D_present_5 ⟨Nat.zero_le _, Nat.zero_le _⟩ (fun H locs G => ?_)
  refine fk_zne (tgt := 21) S.1 S.2.1 (fk_bl _) d_D_present_8 rfl (fun hc1 => ?_) (fun hc1 => ?_)
  · rw [hh] at hc1
    exact absurd hc1 (by decide)
  · exact fk_thr hfl S hlk hex E Z G xc_IA i_370 (tx := "no such flow") (List.mem_of_getElem? (i := 10) rfl) hl.1 ⟨by decide, by decide, by decide, by decide⟩ rfl d_D_present_11 d_D_present_14 d_D_present_15 d_D_present_17 d_D_present_20
set_option maxHeartbeats 4000000 in
set_option maxRecDepth 100000 in
theorem t_D_seen1 (l : Launch) (hfl : l.flags = flags0) (g : fk_G) (ov : Int64) (M : fk_M) (n : Nat) (hn : M 1 1 = nI n) (v : Int32) (hh : fk_hs v n = false) : fk_CX l y_D_seen b_D_seen 2 (some .int) (fk_rx 8) g ov M M [.ref (fk_a g 0), .int v] x_IA := by
  refine fk_ofT rfl (Nat.le_of_ble_eq_true rfl) ?_
  intro p e s m args below meth c ls S hlk hex E Z G hl
  have hl : lv_has ls 2 [(0, .ref (fk_a g 0)), (1, .int v)] := hl
  refine lv_aload_n S.1 S.2.1 d_D_seen_0 rfl (lv_at hl 0 rfl) ?_
  refine fk_gf S E G 0 (by decide) (v := .ref (fk_a g 1)) (congrArg (fk_ce g ov 0 (M 0)) kd_0) rfl 0 (by decide) rfl i_201 rfl d_D_seen_1 ?_
  refine lv_iload_n S.1 S.2.1 d_D_seen_4 rfl (lv_at hl 1 rfl) ?_
  refine fk_cni S E G 1 (by decide) (congrArg (fk_ce g ov 1 (M 1)) kd_1) rfl (rest := []) (c_N_has l g ov M v n hn) m_N_has (List.mem_of_getElem? (i := 28) rfl) ⟨rfl, rfl⟩ ⟨by decide, by decide⟩ rfl rfl hl.1 (Nat.le_of_ble_eq_true rfl) d_D_seen_5 ⟨Nat.zero_le _, Nat.zero_le _⟩ (fun H locs G => ?_)
  refine fk_zne (tgt := 21) S.1 S.2.1 (fk_bl _) d_D_seen_8 rfl (fun hc1 => ?_) (fun hc1 => ?_)
  · rw [hh] at hc1
    exact absurd hc1 (by decide)
  · exact fk_thr hfl S hlk hex E Z G xc_IA i_370 (tx := "no such flow") (List.mem_of_getElem? (i := 10) rfl) hl.1 ⟨by decide, by decide, by decide, by decide⟩ rfl d_D_seen_11 d_D_seen_14 d_D_seen_15 d_D_seen_17 d_D_seen_20
set_option maxHeartbeats 4000000 in
set_option maxRecDepth 100000 in
theorem t_D_value1 (l : Launch) (hfl : l.flags = flags0) (g : fk_G) (ov : Int64) (M : fk_M) (n : Nat) (hn : M 1 1 = nI n) (v : Int32) (hh : fk_hs v n = false) : fk_CX l y_D_value b_D_value 2 (some .int) (fk_rx 8) g ov M M [.ref (fk_a g 0), .int v] x_IA := by
  refine fk_ofT rfl (Nat.le_of_ble_eq_true rfl) ?_
  intro p e s m args below meth c ls S hlk hex E Z G hl
  have hl : lv_has ls 2 [(0, .ref (fk_a g 0)), (1, .int v)] := hl
  refine lv_aload_n S.1 S.2.1 d_D_value_0 rfl (lv_at hl 0 rfl) ?_
  refine fk_gf S E G 0 (by decide) (v := .ref (fk_a g 1)) (congrArg (fk_ce g ov 0 (M 0)) kd_0) rfl 0 (by decide) rfl i_201 rfl d_D_value_1 ?_
  refine lv_iload_n S.1 S.2.1 d_D_value_4 rfl (lv_at hl 1 rfl) ?_
  refine fk_cni S E G 1 (by decide) (congrArg (fk_ce g ov 1 (M 1)) kd_1) rfl (rest := []) (c_N_has l g ov M v n hn) m_N_has (List.mem_of_getElem? (i := 28) rfl) ⟨rfl, rfl⟩ ⟨by decide, by decide⟩ rfl rfl hl.1 (Nat.le_of_ble_eq_true rfl) d_D_value_5 ⟨Nat.zero_le _, Nat.zero_le _⟩ (fun H locs G => ?_)
  refine fk_zne (tgt := 21) S.1 S.2.1 (fk_bl _) d_D_value_8 rfl (fun hc1 => ?_) (fun hc1 => ?_)
  · rw [hh] at hc1
    exact absurd hc1 (by decide)
  · exact fk_thr hfl S hlk hex E Z G xc_IA i_370 (tx := "no such flow") (List.mem_of_getElem? (i := 10) rfl) hl.1 ⟨by decide, by decide, by decide, by decide⟩ rfl d_D_value_11 d_D_value_14 d_D_value_15 d_D_value_17 d_D_value_20
set_option maxHeartbeats 4000000 in
set_option maxRecDepth 100000 in
theorem t_D_value2 (l : Launch) (hfl : l.flags = flags0) (g : fk_G) (ov : Int64) (M : fk_M) (n j : Nat) (hn : M 1 1 = nI n) (h12 : n ≤ 12) (hj : j < n) (ck : Nat) (hck : M (3 + 6 * j) 3 = nI ck) (h25 : ck < 25) (hsn : M 83 ck = 0) : fk_CX l y_D_value b_D_value 2 (some .int) (fk_rx 8) g ov M M [.ref (fk_a g 0), .int (nI j)] x_NS := by
  refine fk_ofT rfl (Nat.le_of_ble_eq_true rfl) ?_
  intro p e s m args below meth c ls S hlk hex E Z G hl
  have hl : lv_has ls 2 [(0, .ref (fk_a g 0)), (1, .int (nI j))] := hl
  have hh := fk_hs_in hj h12
  refine lv_aload_n S.1 S.2.1 d_D_value_0 rfl (lv_at hl 0 rfl) ?_
  refine fk_gf S E G 0 (by decide) (v := .ref (fk_a g 1)) (congrArg (fk_ce g ov 0 (M 0)) kd_0) rfl 0 (by decide) rfl i_201 rfl d_D_value_1 ?_
  refine lv_iload_n S.1 S.2.1 d_D_value_4 rfl (lv_at hl 1 rfl) ?_
  refine fk_cni S E G 1 (by decide) (congrArg (fk_ce g ov 1 (M 1)) kd_1) rfl (rest := []) (c_N_has l g ov M (nI j) n hn) m_N_has (List.mem_of_getElem? (i := 28) rfl) ⟨rfl, rfl⟩ ⟨by decide, by decide⟩ rfl rfl hl.1 (Nat.le_of_ble_eq_true rfl) d_D_value_5 ⟨Nat.zero_le _, Nat.zero_le _⟩ (fun H locs G => ?_)
  refine fk_zne (tgt := 21) S.1 S.2.1 (fk_bl _) d_D_value_8 rfl (fun hc1 => ?_) (fun hc1 => ?_)
  · refine lv_aload_n S.1 S.2.1 d_D_value_21 rfl (lv_at hl 0 rfl) ?_
    refine fk_gf S E G 0 (by decide) (v := .ref (fk_a g 82)) (congrArg (fk_ce g ov 0 (M 0)) kd_0) rfl 3 (by decide) rfl i_204 rfl d_D_value_22 ?_
    refine lv_iload_n S.1 S.2.1 d_D_value_25 rfl (lv_at hl 1 rfl) ?_
    refine fk_cni S E G 82 (by decide) (congrArg (fk_ce g ov 82 (M 82)) kd_82) rfl (rest := []) (c_C_countOf l g ov M j ck (by omega) hck h25) m_C_countOf (List.mem_of_getElem? (i := 39) rfl) ⟨rfl, rfl⟩ ⟨by decide, by decide⟩ rfl rfl hl.1 (Nat.le_of_ble_eq_true rfl) d_D_value_26 ⟨Nat.zero_le _, Nat.zero_le _⟩ (fun H locs G => ?_)
    refine lv_if_ne (tgt := 42) S.1 S.2.1 d_D_value_29 rfl (fun hc2 => ?_) (fun hc2 => ?_)
    · exact absurd hsn hc2
    · exact fk_thr hfl S hlk hex E Z G xc_NS i_513 (tx := "it was never there") (List.mem_of_getElem? (i := 11) rfl) hl.1 ⟨by decide, by decide, by decide, by decide⟩ rfl d_D_value_32 d_D_value_35 d_D_value_36 d_D_value_38 d_D_value_41
  · rw [hh] at hc1
    exact absurd hc1 (by decide)
set_option maxHeartbeats 4000000 in
set_option maxRecDepth 100000 in
theorem t_D_set1 (l : Launch) (hfl : l.flags = flags0) (g : fk_G) (ov : Int64) (M : fk_M) (n : Nat) (hn : M 1 1 = nI n) (v w : Int32) (hh : fk_hs v n = false) : fk_CX l y_D_set b_D_set 4 none (fk_rx 8) g ov M M [.ref (fk_a g 0), .int v, .int w] x_IA := by
  refine fk_ofT rfl (Nat.le_of_ble_eq_true rfl) ?_
  intro p e s m args below meth c ls S hlk hex E Z G hl
  have hl : lv_has ls 4 [(0, .ref (fk_a g 0)), (1, .int v), (2, .int w)] := hl
  refine lv_aload_n S.1 S.2.1 d_D_set_0 rfl (lv_at hl 0 rfl) ?_
  refine fk_gf S E G 0 (by decide) (v := .ref (fk_a g 1)) (congrArg (fk_ce g ov 0 (M 0)) kd_0) rfl 0 (by decide) rfl i_201 rfl d_D_set_1 ?_
  refine lv_iload_n S.1 S.2.1 d_D_set_4 rfl (lv_at hl 1 rfl) ?_
  refine fk_cni S E G 1 (by decide) (congrArg (fk_ce g ov 1 (M 1)) kd_1) rfl (rest := []) (c_N_has l g ov M v n hn) m_N_has (List.mem_of_getElem? (i := 28) rfl) ⟨rfl, rfl⟩ ⟨by decide, by decide⟩ rfl rfl hl.1 (Nat.le_of_ble_eq_true rfl) d_D_set_5 ⟨Nat.zero_le _, Nat.zero_le _⟩ (fun H locs G => ?_)
  refine fk_zeq (tgt := 26) S.1 S.2.1 (fk_bl _) d_D_set_8 rfl (fun hc1 => ?_) (fun hc1 => ?_)
  · exact fk_thr hfl S hlk hex E Z G xc_IA i_370 (tx := "no such input") (List.mem_of_getElem? (i := 8) rfl) hl.1 ⟨by decide, by decide, by decide, by decide⟩ rfl d_D_set_26 d_D_set_29 d_D_set_30 d_D_set_32 d_D_set_35
  · rw [hh] at hc1
    exact absurd hc1 (by decide)
set_option maxHeartbeats 4000000 in
set_option maxRecDepth 100000 in
theorem t_D_set2 (l : Launch) (hfl : l.flags = flags0) (g : fk_G) (ov : Int64) (M : fk_M) (n j : Nat) (hn : M 1 1 = nI n) (h12 : n ≤ 12) (hj : j < n) (w : Int32) (hin : M (3 + 6 * j) 2 = 0) : fk_CX l y_D_set b_D_set 4 none (fk_rx 8) g ov M M [.ref (fk_a g 0), .int (nI j), .int w] x_IA := by
  refine fk_ofT rfl (Nat.le_of_ble_eq_true rfl) ?_
  intro p e s m args below meth c ls S hlk hex E Z G hl
  have hl : lv_has ls 4 [(0, .ref (fk_a g 0)), (1, .int (nI j)), (2, .int w)] := hl
  have hh := fk_hs_in hj h12
  refine lv_aload_n S.1 S.2.1 d_D_set_0 rfl (lv_at hl 0 rfl) ?_
  refine fk_gf S E G 0 (by decide) (v := .ref (fk_a g 1)) (congrArg (fk_ce g ov 0 (M 0)) kd_0) rfl 0 (by decide) rfl i_201 rfl d_D_set_1 ?_
  refine lv_iload_n S.1 S.2.1 d_D_set_4 rfl (lv_at hl 1 rfl) ?_
  refine fk_cni S E G 1 (by decide) (congrArg (fk_ce g ov 1 (M 1)) kd_1) rfl (rest := []) (c_N_has l g ov M (nI j) n hn) m_N_has (List.mem_of_getElem? (i := 28) rfl) ⟨rfl, rfl⟩ ⟨by decide, by decide⟩ rfl rfl hl.1 (Nat.le_of_ble_eq_true rfl) d_D_set_5 ⟨Nat.zero_le _, Nat.zero_le _⟩ (fun H locs G => ?_)
  refine fk_zeq (tgt := 26) S.1 S.2.1 (fk_bl _) d_D_set_8 rfl (fun hc1 => ?_) (fun hc1 => ?_)
  · rw [hh] at hc1
    exact absurd hc1 (by decide)
  · refine lv_aload_n S.1 S.2.1 d_D_set_11 rfl (lv_at hl 0 rfl) ?_
    refine fk_gf S E G 0 (by decide) (v := .ref (fk_a g 1)) (congrArg (fk_ce g ov 0 (M 0)) kd_0) rfl 0 (by decide) rfl i_201 rfl d_D_set_12 ?_
    refine fk_gn S E G 1 (by decide) (v := .ref (fk_a g 2)) (congrArg (fk_ce g ov 1 (M 1)) kd_1) rfl 0 (by decide) rfl (List.mem_of_getElem? (i := 36) rfl) rfl d_D_set_15 ?_
    refine lv_iload_n S.1 S.2.1 d_D_set_18 rfl (lv_at hl 1 rfl) ?_
    refine fk_rw S E G j rfl (by omega) d_D_set_19 ?_
    refine fk_gn S E G (3 + 6 * j) (by omega) (v := .int (M (3 + 6 * j) 2)) (congrArg (fk_ce g ov (3 + 6 * j) (M (3 + 6 * j))) (fk_kf (show j < 12 by omega))) rfl 2 (by decide) rfl (List.mem_of_getElem? (i := 19) rfl) rfl d_D_set_20 ?_
    refine lv_if_ne (tgt := 36) S.1 S.2.1 d_D_set_23 rfl (fun hc2 => ?_) (fun hc2 => ?_)
    · exact absurd hin hc2
    · exact fk_thr hfl S hlk hex E Z G xc_IA i_370 (tx := "no such input") (List.mem_of_getElem? (i := 8) rfl) hl.1 ⟨by decide, by decide, by decide, by decide⟩ rfl d_D_set_26 d_D_set_29 d_D_set_30 d_D_set_32 d_D_set_35
set_option maxHeartbeats 4000000 in
set_option maxRecDepth 100000 in
theorem t_D_equation1 (l : Launch) (hfl : l.flags = flags0) (g : fk_G) (ov : Int64) (M : fk_M) (n : Nat) (hn : M 1 1 = nI n) (v : Int32) (hh : fk_hs v n = false) (x : Nat) (hX : fk_X x) (hd : M 0 4 = nI x) : fk_CX l y_D_equation b_D_equation 4 none (fk_rx 8) g ov M (fk_q3 M x) [.ref (fk_a g 0), .int v] x_IA := by
  refine fk_ofT rfl (Nat.le_of_ble_eq_true rfl) ?_
  intro p e s m args below meth c ls S hlk hex E Z G hl
  have hl : lv_has ls 4 [(0, .ref (fk_a g 0)), (1, .int v)] := hl
  refine lv_aload_n S.1 S.2.1 d_D_equation_0 rfl (lv_at hl 0 rfl) ?_
  refine fk_gf S E G 0 (by decide) (v := .ref (fk_a g 1)) (congrArg (fk_ce g ov 0 (M 0)) kd_0) rfl 0 (by decide) rfl i_201 rfl d_D_equation_1 ?_
  refine lv_iload_n S.1 S.2.1 d_D_equation_4 rfl (lv_at hl 1 rfl) ?_
  refine fk_cni S E G 1 (by decide) (congrArg (fk_ce g ov 1 (M 1)) kd_1) rfl (rest := []) (c_N_has l g ov M v n hn) m_N_has (List.mem_of_getElem? (i := 28) rfl) ⟨rfl, rfl⟩ ⟨by decide, by decide⟩ rfl rfl hl.1 (Nat.le_of_ble_eq_true rfl) d_D_equation_5 ⟨Nat.zero_le _, Nat.zero_le _⟩ (fun H locs G => ?_)
  refine fk_zeq (tgt := 47) S.1 S.2.1 (fk_bl _) d_D_equation_8 rfl (fun hc1 => ?_) (fun hc1 => ?_)
  · refine lv_iconst (v := nI 0) S.1 S.2.1 d_D_equation_47 (by decide +kernel) ?_
    refine lv_istore_n (lv' := [(2, .int (nI 0)), (0, .ref (fk_a g 0)), (1, .int v)]) S.1 S.2.1 d_D_equation_48 rfl hl (by decide) rfl (fun ls hl => ?_)
    refine lv_iload_n S.1 S.2.1 d_D_equation_49 rfl (lv_at hl 0 rfl) ?_
    refine fk_zne (tgt := 71) S.1 S.2.1 (by decide) d_D_equation_50 rfl (fun hc2 => ?_) (fun hc2 => ?_)
    · exact absurd hc2 (by decide)
    · refine lv_aload_n S.1 S.2.1 d_D_equation_53 rfl (lv_at hl 1 rfl) ?_
      refine fk_gf S E G 0 (by decide) (v := .ref (fk_a g x)) (fk_desk hd (fk_Xb hX)) rfl 4 (by decide) rfl i_205 rfl d_D_equation_54 ?_
      refine lv_iconst (v := nI 0) S.1 S.2.1 d_D_equation_57 (by decide +kernel) ?_
      refine fk_pn S E G x (by have := fk_Xlt hX; omega) (congrArg (fk_ce g ov x (M x)) (fk_kx0 hX)) rfl 4 (by decide) rfl (List.mem_of_getElem? (i := 9) rfl) (upd (M x) 4 (nI 0)) (congrArg (fk_ce g ov x (upd (M x) 4 (nI 0))) (fk_kx0 hX)) rfl (ty := (.int)) (by decide +kernel) rfl rfl (Nat.le_of_ble_eq_true rfl) d_D_equation_58 (fun H locs G => ?_)
      obtain ⟨M3, hM3⟩ : ∃ z : fk_M, z = va_up M x (upd (M x) 4 (nI 0)) := ⟨_, rfl⟩
      rw [← hM3] at G
      exact fk_thr hfl S hlk hex E Z G xc_IA i_370 (tx := "no flow for an equation, or a malformed one") (List.mem_of_getElem? (i := 4) rfl) hl.1 ⟨by decide, by decide, by decide, by decide⟩ hM3 d_D_equation_61 d_D_equation_64 d_D_equation_65 d_D_equation_67 d_D_equation_70
  · rw [hh] at hc1
    exact absurd hc1 (by decide)
set_option maxHeartbeats 4000000 in
set_option maxRecDepth 100000 in
theorem t_D_equation2 (l : Launch) (hfl : l.flags = flags0) (g : fk_G) (ov : Int64) (M : fk_M) (n j : Nat) (hn : M 1 1 = nI n) (h12 : n ≤ 12) (hj : j < n) (hin : ¬ M (3 + 6 * j) 2 = 0) (x : Nat) (hX : fk_X x) (hd : M 0 4 = nI x) : fk_CX l y_D_equation b_D_equation 4 none (fk_rx 8) g ov M (fk_q3 M x) [.ref (fk_a g 0), .int (nI j)] x_IA := by
  refine fk_ofT rfl (Nat.le_of_ble_eq_true rfl) ?_
  intro p e s m args below meth c ls S hlk hex E Z G hl
  have hl : lv_has ls 4 [(0, .ref (fk_a g 0)), (1, .int (nI j))] := hl
  have hh := fk_hs_in hj h12
  refine lv_aload_n S.1 S.2.1 d_D_equation_0 rfl (lv_at hl 0 rfl) ?_
  refine fk_gf S E G 0 (by decide) (v := .ref (fk_a g 1)) (congrArg (fk_ce g ov 0 (M 0)) kd_0) rfl 0 (by decide) rfl i_201 rfl d_D_equation_1 ?_
  refine lv_iload_n S.1 S.2.1 d_D_equation_4 rfl (lv_at hl 1 rfl) ?_
  refine fk_cni S E G 1 (by decide) (congrArg (fk_ce g ov 1 (M 1)) kd_1) rfl (rest := []) (c_N_has l g ov M (nI j) n hn) m_N_has (List.mem_of_getElem? (i := 28) rfl) ⟨rfl, rfl⟩ ⟨by decide, by decide⟩ rfl rfl hl.1 (Nat.le_of_ble_eq_true rfl) d_D_equation_5 ⟨Nat.zero_le _, Nat.zero_le _⟩ (fun H locs G => ?_)
  refine fk_zeq (tgt := 47) S.1 S.2.1 (fk_bl _) d_D_equation_8 rfl (fun hc1 => ?_) (fun hc1 => ?_)
  · rw [hh] at hc1
    exact absurd hc1 (by decide)
  · refine lv_aload_n S.1 S.2.1 d_D_equation_11 rfl (lv_at hl 0 rfl) ?_
    refine fk_gf S E G 0 (by decide) (v := .ref (fk_a g 1)) (congrArg (fk_ce g ov 0 (M 0)) kd_0) rfl 0 (by decide) rfl i_201 rfl d_D_equation_12 ?_
    refine fk_gn S E G 1 (by decide) (v := .ref (fk_a g 2)) (congrArg (fk_ce g ov 1 (M 1)) kd_1) rfl 0 (by decide) rfl (List.mem_of_getElem? (i := 36) rfl) rfl d_D_equation_15 ?_
    refine lv_iload_n S.1 S.2.1 d_D_equation_18 rfl (lv_at hl 1 rfl) ?_
    refine fk_rw S E G j rfl (by omega) d_D_equation_19 ?_
    refine fk_gn S E G (3 + 6 * j) (by omega) (v := .int (M (3 + 6 * j) 2)) (congrArg (fk_ce g ov (3 + 6 * j) (M (3 + 6 * j))) (fk_kf (show j < 12 by omega))) rfl 2 (by decide) rfl (List.mem_of_getElem? (i := 19) rfl) rfl d_D_equation_20 ?_
    refine lv_if_ne (tgt := 47) S.1 S.2.1 d_D_equation_23 rfl (fun hc2 => ?_) (fun hc2 => ?_)
    · refine lv_iconst (v := nI 0) S.1 S.2.1 d_D_equation_47 (by decide +kernel) ?_
      refine lv_istore_n (lv' := [(2, .int (nI 0)), (0, .ref (fk_a g 0)), (1, .int (nI j))]) S.1 S.2.1 d_D_equation_48 rfl hl (by decide) rfl (fun ls hl => ?_)
      refine lv_iload_n S.1 S.2.1 d_D_equation_49 rfl (lv_at hl 0 rfl) ?_
      refine fk_zne (tgt := 71) S.1 S.2.1 (by decide) d_D_equation_50 rfl (fun hc3 => ?_) (fun hc3 => ?_)
      · exact absurd hc3 (by decide)
      · refine lv_aload_n S.1 S.2.1 d_D_equation_53 rfl (lv_at hl 1 rfl) ?_
        refine fk_gf S E G 0 (by decide) (v := .ref (fk_a g x)) (fk_desk hd (fk_Xb hX)) rfl 4 (by decide) rfl i_205 rfl d_D_equation_54 ?_
        refine lv_iconst (v := nI 0) S.1 S.2.1 d_D_equation_57 (by decide +kernel) ?_
        refine fk_pn S E G x (by have := fk_Xlt hX; omega) (congrArg (fk_ce g ov x (M x)) (fk_kx0 hX)) rfl 4 (by decide) rfl (List.mem_of_getElem? (i := 9) rfl) (upd (M x) 4 (nI 0)) (congrArg (fk_ce g ov x (upd (M x) 4 (nI 0))) (fk_kx0 hX)) rfl (ty := (.int)) (by decide +kernel) rfl rfl (Nat.le_of_ble_eq_true rfl) d_D_equation_58 (fun H locs G => ?_)
        obtain ⟨M4, hM4⟩ : ∃ z : fk_M, z = va_up M x (upd (M x) 4 (nI 0)) := ⟨_, rfl⟩
        rw [← hM4] at G
        exact fk_thr hfl S hlk hex E Z G xc_IA i_370 (tx := "no flow for an equation, or a malformed one") (List.mem_of_getElem? (i := 4) rfl) hl.1 ⟨by decide, by decide, by decide, by decide⟩ hM4 d_D_equation_61 d_D_equation_64 d_D_equation_65 d_D_equation_67 d_D_equation_70
    · exact absurd hc2 hin
set_option maxHeartbeats 4000000 in
set_option maxRecDepth 100000 in
theorem t_D_equation3 (l : Launch) (hfl : l.flags = flags0) (g : fk_G) (ov : Int64) (M : fk_M) (n j : Nat) (hn : M 1 1 = nI n) (h12 : n ≤ 12) (hj : j < n) (hin : M (3 + 6 * j) 2 = 0) (x : Nat) (hX : fk_X x) (hd : M 0 4 = nI x) (bf : Nat → Nat) (nb : Nat) (hn40 : nb ≤ 40) (hlen : M x 4 = nI nb) (hb : ∀ i, i < nb → M (x + 1) i = nI (bf i)) (hb2 : ∀ i, i < nb → bf i < 256) (hwf : ¬ fk_pe bf nb n 11 0 = some nb) : fk_CX l y_D_equation b_D_equation 4 none (fk_rx 15) g ov M (fk_q3 (va_up M (x + 2) (fk_we bf nb n 11 0 (fk_fl (M (x + 2)) 40 0))) x) [.ref (fk_a g 0), .int (nI j)] x_IA := by
  refine fk_ofT rfl (Nat.le_of_ble_eq_true rfl) ?_
  intro p e s m args below meth c ls S hlk hex E Z G hl
  have hl : lv_has ls 4 [(0, .ref (fk_a g 0)), (1, .int (nI j))] := hl
  have hxx : x ≠ 0 ∧ x + 2 ≠ 0 := by rcases hX with h9 | ⟨z, h8, h9⟩ <;> omega
  have hh := fk_hs_in hj h12
  refine lv_aload_n S.1 S.2.1 d_D_equation_0 rfl (lv_at hl 0 rfl) ?_
  refine fk_gf S E G 0 (by decide) (v := .ref (fk_a g 1)) (congrArg (fk_ce g ov 0 (M 0)) kd_0) rfl 0 (by decide) rfl i_201 rfl d_D_equation_1 ?_
  refine lv_iload_n S.1 S.2.1 d_D_equation_4 rfl (lv_at hl 1 rfl) ?_
  refine fk_cni S E G 1 (by decide) (congrArg (fk_ce g ov 1 (M 1)) kd_1) rfl (rest := []) (c_N_has l g ov M (nI j) n hn) m_N_has (List.mem_of_getElem? (i := 28) rfl) ⟨rfl, rfl⟩ ⟨by decide, by decide⟩ rfl rfl hl.1 (Nat.le_of_ble_eq_true rfl) d_D_equation_5 ⟨Nat.zero_le _, Nat.zero_le _⟩ (fun H locs G => ?_)
  refine fk_zeq (tgt := 47) S.1 S.2.1 (fk_bl _) d_D_equation_8 rfl (fun hc1 => ?_) (fun hc1 => ?_)
  · rw [hh] at hc1
    exact absurd hc1 (by decide)
  · refine lv_aload_n S.1 S.2.1 d_D_equation_11 rfl (lv_at hl 0 rfl) ?_
    refine fk_gf S E G 0 (by decide) (v := .ref (fk_a g 1)) (congrArg (fk_ce g ov 0 (M 0)) kd_0) rfl 0 (by decide) rfl i_201 rfl d_D_equation_12 ?_
    refine fk_gn S E G 1 (by decide) (v := .ref (fk_a g 2)) (congrArg (fk_ce g ov 1 (M 1)) kd_1) rfl 0 (by decide) rfl (List.mem_of_getElem? (i := 36) rfl) rfl d_D_equation_15 ?_
    refine lv_iload_n S.1 S.2.1 d_D_equation_18 rfl (lv_at hl 1 rfl) ?_
    refine fk_rw S E G j rfl (by omega) d_D_equation_19 ?_
    refine fk_gn S E G (3 + 6 * j) (by omega) (v := .int (M (3 + 6 * j) 2)) (congrArg (fk_ce g ov (3 + 6 * j) (M (3 + 6 * j))) (fk_kf (show j < 12 by omega))) rfl 2 (by decide) rfl (List.mem_of_getElem? (i := 19) rfl) rfl d_D_equation_20 ?_
    refine lv_if_ne (tgt := 47) S.1 S.2.1 d_D_equation_23 rfl (fun hc2 => ?_) (fun hc2 => ?_)
    · exact absurd hin hc2
    · refine lv_aload_n S.1 S.2.1 d_D_equation_26 rfl (lv_at hl 0 rfl) ?_
      refine fk_gf S E G 0 (by decide) (v := .ref (fk_a g x)) (fk_desk hd (fk_Xb hX)) rfl 4 (by decide) rfl i_205 rfl d_D_equation_27 ?_
      refine lv_aload_n S.1 S.2.1 d_D_equation_30 rfl (lv_at hl 0 rfl) ?_
      refine fk_gf S E G 0 (by decide) (v := .ref (fk_a g 1)) (congrArg (fk_ce g ov 0 (M 0)) kd_0) rfl 0 (by decide) rfl i_201 rfl d_D_equation_31 ?_
      refine fk_gn S E G 1 (by decide) (v := .int (M 1 1)) (congrArg (fk_ce g ov 1 (M 1)) kd_1) rfl 1 (by decide) rfl (List.mem_of_getElem? (i := 40) rfl) rfl d_D_equation_34 ?_
      rw [hn]
      refine fk_cni S E G x (by have := fk_Xlt hX; omega) (congrArg (fk_ce g ov x (M x)) (fk_kx0 hX)) rfl (rest := []) (c_E_isWellFormed l g ov M x hX bf nb n hn40 (by omega) hlen hb hb2) m_E_isWellFormed (List.mem_of_getElem? (i := 29) rfl) ⟨rfl, rfl⟩ ⟨by decide, by decide⟩ rfl rfl hl.1 (Nat.le_of_ble_eq_true rfl) d_D_equation_37 ⟨Nat.zero_le _, Nat.zero_le _⟩ (fun H locs G => ?_)
      obtain ⟨Mw, hMw⟩ : ∃ z : fk_M, z = va_up M (x + 2) (fk_we bf nb n 11 0 (fk_fl (M (x + 2)) 40 0)) := ⟨_, rfl⟩
      rw [← hMw] at G
      refine fk_zeq (tgt := 47) S.1 S.2.1 (fk_bl _) d_D_equation_40 rfl (fun hc3 => ?_) (fun hc3 => ?_)
      · have hdw : Mw 0 4 = nI x := by rw [hMw, va_up_ne _ _ (by omega)]; exact hd
        rw [← hMw]
        refine lv_iconst (v := nI 0) S.1 S.2.1 d_D_equation_47 (by decide +kernel) ?_
        refine lv_istore_n (lv' := [(2, .int (nI 0)), (0, .ref (fk_a g 0)), (1, .int (nI j))]) S.1 S.2.1 d_D_equation_48 rfl hl (by decide) rfl (fun ls hl => ?_)
        refine lv_iload_n S.1 S.2.1 d_D_equation_49 rfl (lv_at hl 0 rfl) ?_
        refine fk_zne (tgt := 71) S.1 S.2.1 (by decide) d_D_equation_50 rfl (fun hc4 => ?_) (fun hc4 => ?_)
        · exact absurd hc4 (by decide)
        · refine lv_aload_n S.1 S.2.1 d_D_equation_53 rfl (lv_at hl 1 rfl) ?_
          refine fk_gf S E G 0 (by decide) (v := .ref (fk_a g x)) (fk_desk hdw (fk_Xb hX)) rfl 4 (by decide) rfl i_205 rfl d_D_equation_54 ?_
          refine lv_iconst (v := nI 0) S.1 S.2.1 d_D_equation_57 (by decide +kernel) ?_
          refine fk_pn S E G x (by have := fk_Xlt hX; omega) (congrArg (fk_ce g ov x (Mw x)) (fk_kx0 hX)) rfl 4 (by decide) rfl (List.mem_of_getElem? (i := 9) rfl) (upd (Mw x) 4 (nI 0)) (congrArg (fk_ce g ov x (upd (Mw x) 4 (nI 0))) (fk_kx0 hX)) rfl (ty := (.int)) (by decide +kernel) rfl rfl (Nat.le_of_ble_eq_true rfl) d_D_equation_58 (fun H locs G => ?_)
          obtain ⟨M5, hM5⟩ : ∃ z : fk_M, z = va_up Mw x (upd (Mw x) 4 (nI 0)) := ⟨_, rfl⟩
          rw [← hM5] at G
          exact fk_thr hfl S hlk hex E Z G xc_IA i_370 (tx := "no flow for an equation, or a malformed one") (List.mem_of_getElem? (i := 4) rfl) hl.1 ⟨by decide, by decide, by decide, by decide⟩ hM5 d_D_equation_61 d_D_equation_64 d_D_equation_65 d_D_equation_67 d_D_equation_70
      · rw [decide_eq_false hwf] at hc3
        exact absurd hc3 (by decide)
