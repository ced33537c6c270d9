/-! FlowDesk: instants, flow, where they answer. Written by wip/gen/s_desk3.py. -/
theorem fk_rb_78 {x : Nat} (hX : fk_X x) (b : Nat → Nat) (M : fk_M) : ∀ i, fk_rb x b M i 78 = M 78 := by
  intro i
  induction i with
  | zero => rfl
  | succ i ih =>
    show fk_rb1 x b (fk_rb x b M i) i 78 = M 78
    unfold fk_rb1
    split
    · rw [va_up_ne _ _ (by rcases hX with rfl | ⟨z, h8, rfl⟩ <;> omega)]
      exact ih
    · exact ih
theorem fk_s2_78 {P sz : Nat → Nat} {bb : Nat → Nat → Nat} {M : fk_M} (hP : ∀ j, j < 12 → fk_X (P j)) : ∀ k, k ≤ 12 → fk_s2 P sz bb M k 78 = M 78 := by
  intro k
  induction k with
  | zero => intro _; rfl
  | succ k ih => intro hk; exact (fk_rb_78 (hP k (by omega)) _ _ _).trans (ih (by omega))
theorem fk_s3_78 {M : fk_M} : ∀ k, fk_s3 M k 78 = M 78 := by
  intro k
  induction k with
  | zero => rfl
  | succ k ih => exact (va_up_ne _ _ (by decide)).trans ih
theorem fk_st_Eq {M : fk_M} (n : Nat) (ck P sz tn : Nat → Nat) (bb : Nat → Nat → Nat) (hn : n ≤ 12) (hP : ∀ j, j < 12 → fk_X (P j)) (ht : ∀ k, k < n → tn k < n) : fk_Eq M (fk_st n ck P sz tn bb M) ∧ fk_st n ck P sz tn bb M 78 = M 78 := by
  unfold fk_st
  obtain ⟨h1, h2⟩ := fk_s1_Eq (ck := ck) (P := P) (bb := bb) (M := M) hn ht n (Nat.le_refl _)
  exact ⟨(h1.tr (fk_s2_Eq hP n hn)).tr (fk_s3_Eq _), (fk_s3_78 _).trans ((fk_s2_78 hP n hn).trans h2)⟩
/-- k instants of the class -/
def fk_sts (n : Nat) (ck P sz tn : Nat → Nat) (bb : Nat → Nat → Nat) (M : fk_M) : Nat → fk_M
  | 0 => M
  | k + 1 => fk_st n ck P sz tn bb (fk_sts n ck P sz tn bb M k)
theorem fk_sts_Eq {M : fk_M} (n : Nat) (ck P sz tn : Nat → Nat) (bb : Nat → Nat → Nat) (hn : n ≤ 12) (hP : ∀ j, j < 12 → fk_X (P j)) (ht : ∀ k, k < n → tn k < n) : ∀ k, fk_Eq M (fk_sts n ck P sz tn bb M k) ∧ fk_sts n ck P sz tn bb M k 78 = M 78 := by
  intro k
  induction k with
  | zero => exact ⟨fk_Eq.rf _, rfl⟩
  | succ k ih =>
    obtain ⟨h1, h2⟩ := fk_st_Eq (M := fk_sts n ck P sz tn bb M k) n ck P sz tn bb hn hP ht
    exact ⟨ih.1.tr h1, h2.trans ih.2⟩
theorem d_D_instants_0 : decode b_D_instants 0 = .ok (.iload_n 1, 1) := by decide +kernel
theorem d_D_instants_1 : decode b_D_instants 1 = .ok (.iconst 1, 1) := by decide +kernel
theorem d_D_instants_2 : decode b_D_instants 2 = .ok (.if_icmp .lt 9, 3) := by decide +kernel
theorem d_D_instants_5 : decode b_D_instants 5 = .ok (.iload_n 1, 1) := by decide +kernel
theorem d_D_instants_6 : decode b_D_instants 6 = .ok (.bipush 50, 2) := by decide +kernel
theorem d_D_instants_8 : decode b_D_instants 8 = .ok (.if_icmp .le 13, 3) := by decide +kernel
theorem d_D_instants_11 : decode b_D_instants 11 = .ok (.new 52, 3) := by decide +kernel
theorem d_D_instants_14 : decode b_D_instants 14 = .ok (.dup, 1) := by decide +kernel
theorem d_D_instants_15 : decode b_D_instants 15 = .ok (.ldc 146, 2) := by decide +kernel
theorem d_D_instants_17 : decode b_D_instants 17 = .ok (.invokespecial 56, 3) := by decide +kernel
theorem d_D_instants_20 : decode b_D_instants 20 = .ok (.athrow, 1) := by decide +kernel
theorem d_D_instants_21 : decode b_D_instants 21 = .ok (.aload_n 0, 1) := by decide +kernel
theorem d_D_instants_22 : decode b_D_instants 22 = .ok (.getfield 30, 3) := by decide +kernel
theorem d_D_instants_25 : decode b_D_instants 25 = .ok (.getfield 121, 3) := by decide +kernel
theorem d_D_instants_28 : decode b_D_instants 28 = .ok (.ifCond .ne 13, 3) := by decide +kernel
theorem d_D_instants_31 : decode b_D_instants 31 = .ok (.new 63, 3) := by decide +kernel
theorem d_D_instants_34 : decode b_D_instants 34 = .ok (.dup, 1) := by decide +kernel
theorem d_D_instants_35 : decode b_D_instants 35 = .ok (.ldc 124, 2) := by decide +kernel
theorem d_D_instants_37 : decode b_D_instants 37 = .ok (.invokespecial 67, 3) := by decide +kernel
theorem d_D_instants_40 : decode b_D_instants 40 = .ok (.athrow, 1) := by decide +kernel
theorem d_D_instants_41 : decode b_D_instants 41 = .ok (.iconst 0, 1) := by decide +kernel
theorem d_D_instants_42 : decode b_D_instants 42 = .ok (.istore_n 2, 1) := by decide +kernel
theorem d_D_instants_43 : decode b_D_instants 43 = .ok (.iload_n 2, 1) := by decide +kernel
theorem d_D_instants_44 : decode b_D_instants 44 = .ok (.iload_n 1, 1) := by decide +kernel
theorem d_D_instants_45 : decode b_D_instants 45 = .ok (.if_icmp .ge 16, 3) := by decide +kernel
theorem d_D_instants_48 : decode b_D_instants 48 = .ok (.aload_n 0, 1) := by decide +kernel
theorem d_D_instants_49 : decode b_D_instants 49 = .ok (.getfield 37, 3) := by decide +kernel
theorem d_D_instants_52 : decode b_D_instants 52 = .ok (.invokevirtual 148, 3) := by decide +kernel
theorem d_D_instants_55 : decode b_D_instants 55 = .ok (.iinc 2 1, 3) := by decide +kernel
theorem d_D_instants_58 : decode b_D_instants 58 = .ok (.goto (-15), 3) := by decide +kernel
theorem d_D_instants_61 : decode b_D_instants 61 = .ok (.return_, 1) := by decide +kernel
theorem m_D_instants : fk_MI y_D_instants b_D_instants 3 none 1 := ⟨i_543, i_541, i_542, i_1, by decide +kernel⟩
set_option maxHeartbeats 4000000 in
set_option maxRecDepth 100000 in
theorem c_D_instants (l : Launch) (g : fk_G) (ov : Int64) (M : fk_M) (n : Nat) (ck P sz tn : Nat → Nat) (bb : Nat → Nat → Nat) (hs : fk_Sh n ck P sz bb M) (ht : ∀ k, k < n → M 78 k = nI (tn k) ∧ tn k < n) (h0 : ∀ j, j < n → M (3 + 6 * j) 2 = 0 → 0 < sz j) (hp : ¬ M 79 4 = 0) (kk : Nat) (h1 : 1 ≤ kk) (h50 : kk ≤ 50) : fk_CV l y_D_instants b_D_instants 3 (fk_rm 28) g ov M (fk_sts n ck P sz tn bb M kk) [.ref (fk_a g 0), .int (nI kk)] := by
  refine fk_ofV rfl (Nat.le_of_ble_eq_true rfl) ?_
  intro p e s m args below meth c ls S hr hlk E G hl
  have hl : lv_has ls 3 [(0, .ref (fk_a g 0)), (1, .int (nI kk))] := hl
  have hP : ∀ j, j < 12 → fk_X (P j) := fun j hj => (hs.2.2 j hj).1
  have loop : ∀ (d : Nat) (i : Nat) (H : Heap) (locs : List Loc) (ls : Array Slot), i + d = kk → fk_H g ov (fk_sts n ck P sz tn bb M i) s H locs → lv_has ls 3 [(2, .int (nI i)), (1, .int (nI kk)), (0, .ref (fk_a g 0))] → W p l e (fk_rm (28)) s m args below meth c H locs 0 0 (MQ below (va_Qv (fun (_ : Unit) => True) (fun _ t9 => fk_Wd g ov (fk_sts n ck P sz tn bb M kk) t9) (fk_A g)) args s 0 0 (fk_A g)) (F0 m 43 ls []) := by
    intro d
    induction d with
    | zero =>
      intro i H locs ls hv0 G hl
      obtain ⟨Mi, hMi⟩ : ∃ z : fk_M, z = fk_sts n ck P sz tn bb M i := ⟨_, rfl⟩
      rw [← hMi] at G
      refine lv_iload_n S.1 S.2.1 d_D_instants_43 rfl (lv_at hl 0 rfl) ?_
      refine lv_iload_n S.1 S.2.1 d_D_instants_44 rfl (lv_at hl 1 rfl) ?_
      refine fk_cge (tgt := 61) S.1 S.2.1 (by omega) (by omega) d_D_instants_45 rfl (fun hc1 => ?_) (fun hc1 => ?_)
      · have hi9 : i = kk := by omega
        exact fk_vret S hr hlk E G (by rw [hMi, hi9]) d_D_instants_61
      · exact absurd hv0 (by omega)
    | succ d ih =>
      intro i H locs ls hv0 G hl
      obtain ⟨Mi, hMi⟩ : ∃ z : fk_M, z = fk_sts n ck P sz tn bb M i := ⟨_, rfl⟩
      rw [← hMi] at G
      obtain ⟨hq, hq78⟩ : fk_Eq M Mi ∧ Mi 78 = M 78 := by rw [hMi]; exact fk_sts_Eq n ck P sz tn bb hs.2.1 hP (fun k hk => (ht k hk).2) i
      refine lv_iload_n S.1 S.2.1 d_D_instants_43 rfl (lv_at hl 0 rfl) ?_
      refine lv_iload_n S.1 S.2.1 d_D_instants_44 rfl (lv_at hl 1 rfl) ?_
      refine fk_cge (tgt := 61) S.1 S.2.1 (by omega) (by omega) d_D_instants_45 rfl (fun hc2 => ?_) (fun hc2 => ?_)
      · exact absurd hv0 (by omega)
      · refine lv_aload_n S.1 S.2.1 d_D_instants_48 rfl (lv_at hl 2 rfl) ?_
        refine fk_gf S E G 0 (by decide) (v := .ref (fk_a g 82)) (congrArg (fk_ce g ov 0 (Mi 0)) kd_0) rfl 3 (by decide) rfl i_204 rfl d_D_instants_49 ?_
        refine fk_cnv S E G 82 (by decide) (congrArg (fk_ce g ov 82 (Mi 82)) kd_82) rfl (rest := []) (c_C_step l g ov Mi n ck P sz bb (hs.to hq) tn (fun k hk => by rw [hq78]; exact ht k hk) (fun j hj h9 => h0 j hj (by rw [← hq.2.1 j (by have := hs.2.1; omega) 2 (by decide)]; exact h9))) m_C_step (List.mem_of_getElem? (i := 31) rfl) ⟨rfl, rfl⟩ ⟨by decide, by decide⟩ rfl rfl hl.1 (Nat.le_of_ble_eq_true rfl) d_D_instants_52 ⟨Nat.zero_le _, Nat.zero_le _⟩ (fun H locs G => ?_)
        refine lv_iinc (k := 0) (v := nI (i + 1)) (lv' := [(2, .int (nI (i + 1))), (1, .int (nI kk)), (0, .ref (fk_a g 0))]) S.1 S.2.1 d_D_instants_55 hl rfl (nI_1 i) (by decide) rfl (fun ls hl => ?_)
        refine lv_goto (tgt := 43) S.1 S.2.1 d_D_instants_58 rfl ?_
        rw [hMi] at G
        exact ih (i + 1) H locs ls (by omega) G (lv_sub hl [0, 1, 2] rfl)
  refine lv_iload_n S.1 S.2.1 d_D_instants_0 rfl (lv_at hl 1 rfl) ?_
  refine lv_iconst (v := nI 1) S.1 S.2.1 d_D_instants_1 (by decide +kernel) ?_
  refine fk_clt (tgt := 11) S.1 S.2.1 (by omega) (by omega) d_D_instants_2 rfl (fun hc3 => ?_) (fun hc3 => ?_)
  · exact absurd hc3 (by omega)
  · refine lv_iload_n S.1 S.2.1 d_D_instants_5 rfl (lv_at hl 1 rfl) ?_
    refine lv_bipush (v := nI 50) S.1 S.2.1 d_D_instants_6 (by decide +kernel) ?_
    refine fk_cle (tgt := 21) S.1 S.2.1 (by omega) (by omega) d_D_instants_8 rfl (fun hc4 => ?_) (fun hc4 => ?_)
    · refine lv_aload_n S.1 S.2.1 d_D_instants_21 rfl (lv_at hl 0 rfl) ?_
      refine fk_gf S E G 0 (by decide) (v := .ref (fk_a g 79)) (congrArg (fk_ce g ov 0 (M 0)) kd_0) rfl 2 (by decide) rfl i_203 rfl d_D_instants_22 ?_
      refine fk_gn S E G 79 (by decide) (v := .int (M 79 4)) (congrArg (fk_ce g ov 79 (M 79)) kd_79) rfl 4 (by decide) rfl (List.mem_of_getElem? (i := 45) rfl) rfl d_D_instants_25 ?_
      refine lv_if_ne (tgt := 41) S.1 S.2.1 d_D_instants_28 rfl (fun hc5 => ?_) (fun hc5 => ?_)
      · refine lv_iconst (v := nI 0) S.1 S.2.1 d_D_instants_41 (by decide +kernel) ?_
        refine lv_istore_n (lv' := [(2, .int (nI 0)), (0, .ref (fk_a g 0)), (1, .int (nI kk))]) S.1 S.2.1 d_D_instants_42 rfl hl (by decide) rfl (fun ls hl => ?_)
        exact loop kk 0 s.heap [] ls (by omega) G (lv_sub hl [0, 2, 1] rfl)
      · exact absurd hc5 hp
    · exact absurd hc4 (by omega)
theorem d_D_flow_0 : decode b_D_flow 0 = .ok (.aload_n 0, 1) := by decide +kernel
theorem d_D_flow_1 : decode b_D_flow 1 = .ok (.getfield 12, 3) := by decide +kernel
theorem d_D_flow_4 : decode b_D_flow 4 = .ok (.iload_n 2, 1) := by decide +kernel
theorem d_D_flow_5 : decode b_D_flow 5 = .ok (.invokevirtual 48, 3) := by decide +kernel
theorem d_D_flow_8 : decode b_D_flow 8 = .ok (.ifCond .ne 13, 3) := by decide +kernel
theorem d_D_flow_11 : decode b_D_flow 11 = .ok (.new 52, 3) := by decide +kernel
theorem d_D_flow_14 : decode b_D_flow 14 = .ok (.dup, 1) := by decide +kernel
theorem d_D_flow_15 : decode b_D_flow 15 = .ok (.ldc 54, 2) := by decide +kernel
theorem d_D_flow_17 : decode b_D_flow 17 = .ok (.invokespecial 56, 3) := by decide +kernel
theorem d_D_flow_20 : decode b_D_flow 20 = .ok (.athrow, 1) := by decide +kernel
theorem d_D_flow_21 : decode b_D_flow 21 = .ok (.aload_n 0, 1) := by decide +kernel
theorem d_D_flow_22 : decode b_D_flow 22 = .ok (.getfield 12, 3) := by decide +kernel
theorem d_D_flow_25 : decode b_D_flow 25 = .ok (.getfield 59, 3) := by decide +kernel
theorem d_D_flow_28 : decode b_D_flow 28 = .ok (.bipush 12, 2) := by decide +kernel
theorem d_D_flow_30 : decode b_D_flow 30 = .ok (.if_icmp .lt 13, 3) := by decide +kernel
theorem d_D_flow_33 : decode b_D_flow 33 = .ok (.new 63, 3) := by decide +kernel
theorem d_D_flow_36 : decode b_D_flow 36 = .ok (.dup, 1) := by decide +kernel
theorem d_D_flow_37 : decode b_D_flow 37 = .ok (.ldc 65, 2) := by decide +kernel
theorem d_D_flow_39 : decode b_D_flow 39 = .ok (.invokespecial 67, 3) := by decide +kernel
theorem d_D_flow_42 : decode b_D_flow 42 = .ok (.athrow, 1) := by decide +kernel
theorem d_D_flow_43 : decode b_D_flow 43 = .ok (.aload_n 0, 1) := by decide +kernel
theorem d_D_flow_44 : decode b_D_flow 44 = .ok (.getfield 12, 3) := by decide +kernel
theorem d_D_flow_47 : decode b_D_flow 47 = .ok (.iload_n 1, 1) := by decide +kernel
theorem d_D_flow_48 : decode b_D_flow 48 = .ok (.iload_n 2, 1) := by decide +kernel
theorem d_D_flow_49 : decode b_D_flow 49 = .ok (.iload_n 3, 1) := by decide +kernel
theorem d_D_flow_50 : decode b_D_flow 50 = .ok (.invokevirtual 68, 3) := by decide +kernel
theorem d_D_flow_53 : decode b_D_flow 53 = .ok (.istore 4, 2) := by decide +kernel
theorem d_D_flow_55 : decode b_D_flow 55 = .ok (.aload_n 0, 1) := by decide +kernel
theorem d_D_flow_56 : decode b_D_flow 56 = .ok (.invokevirtual 72, 3) := by decide +kernel
theorem d_D_flow_59 : decode b_D_flow 59 = .ok (.iload 4, 2) := by decide +kernel
theorem d_D_flow_61 : decode b_D_flow 61 = .ok (.ireturn, 1) := by decide +kernel
theorem m_D_flow : fk_MI y_D_flow b_D_flow 5 (some .int) 3 := ⟨i_360, i_358, i_359, i_1, by decide +kernel⟩
set_option maxHeartbeats 4000000 in
set_option maxRecDepth 100000 in
theorem c_D_flow (l : Launch) (g : fk_G) (ov : Int64) (M : fk_M) (n : Nat) (hn : M 1 1 = nI n) (h12 : n < 12) (vb vi : Int32) (hb : vb = 0 ∨ vb = 1) (hi : vi = 0 ∨ vi = 1) (cc : Nat) (hcc : cc = 0 ∨ (0 < cc ∧ cc < 2 ^ 31 ∧ fk_ic M n cc = true)) (ck P sz : Nat → Nat) (bb : Nat → Nat → Nat) (hs : fk_Sh (n + 1) ck P sz bb (va_up (va_up M (3 + 6 * n) (upd (upd (upd (M (3 + 6 * n)) 1 vb) 3 (nI cc)) 2 vi)) 1 (upd (M 1) 1 (nI (n + 1))))) : fk_CI l y_D_flow b_D_flow 5 (some .int) (fk_rm 3) g ov M (fk_rs P (fk_fg (va_up (va_up M (3 + 6 * n) (upd (upd (upd (M (3 + 6 * n)) 1 vb) 3 (nI cc)) 2 vi)) 1 (upd (M 1) 1 (nI (n + 1))))) (n + 1)) [.ref (fk_a g 0), .int vb, .int (nI cc), .int vi] (nI n) := by
  refine fk_ofI rfl (Nat.le_of_ble_eq_true rfl) ?_
  intro p e s m args below meth c ls S hr hlk E G hl
  have hl : lv_has ls 5 [(0, .ref (fk_a g 0)), (1, .int vb), (2, .int (nI cc)), (3, .int vi)] := hl
  rcases hcc with hcc | ⟨c1, c2, c3⟩
  · have h9 := c_N_isClock0 l g ov M (nI cc) (by rw [hcc]; decide +kernel)
    rw [show decide (nI cc = 0) = true from decide_eq_true (by rw [hcc]; exact nI_0)] at h9
    have h9 : fk_CI l y_N_isClock b_N_isClock 2 (some .boolean) (fk_rm 0) g ov M M [.ref (fk_a g 1), .int (nI cc)] (nI 1) := h9
    refine lv_aload_n S.1 S.2.1 d_D_flow_0 rfl (lv_at hl 0 rfl) ?_
    refine fk_gf S E G 0 (by decide) (v := .ref (fk_a g 1)) (congrArg (fk_ce g ov 0 (M 0)) kd_0) rfl 0 (by decide) rfl i_201 rfl d_D_flow_1 ?_
    refine lv_iload_n S.1 S.2.1 d_D_flow_4 rfl (lv_at hl 2 rfl) ?_
    refine fk_cni S E G 1 (by decide) (congrArg (fk_ce g ov 1 (M 1)) kd_1) rfl (rest := []) h9 m_N_isClock (List.mem_of_getElem? (i := 23) rfl) ⟨rfl, rfl⟩ ⟨by decide, by decide⟩ rfl rfl hl.1 (Nat.le_of_ble_eq_true rfl) d_D_flow_5 ⟨Nat.zero_le _, Nat.zero_le _⟩ (fun H locs G => ?_)
    refine fk_zne (tgt := 21) S.1 S.2.1 (by decide) d_D_flow_8 rfl (fun hc1 => ?_) (fun hc1 => ?_)
    · refine lv_aload_n S.1 S.2.1 d_D_flow_21 rfl (lv_at hl 0 rfl) ?_
      refine fk_gf S E G 0 (by decide) (v := .ref (fk_a g 1)) (congrArg (fk_ce g ov 0 (M 0)) kd_0) rfl 0 (by decide) rfl i_201 rfl d_D_flow_22 ?_
      refine fk_gn S E G 1 (by decide) (v := .int (M 1 1)) (congrArg (fk_ce g ov 1 (M 1)) kd_1) rfl 1 (by decide) rfl (List.mem_of_getElem? (i := 40) rfl) rfl d_D_flow_25 ?_
      rw [hn]
      refine lv_bipush (v := nI 12) S.1 S.2.1 d_D_flow_28 (by decide +kernel) ?_
      refine fk_clt (tgt := 43) S.1 S.2.1 (by omega) (by omega) d_D_flow_30 rfl (fun hc2 => ?_) (fun hc2 => ?_)
      · refine lv_aload_n S.1 S.2.1 d_D_flow_43 rfl (lv_at hl 0 rfl) ?_
        refine fk_gf S E G 0 (by decide) (v := .ref (fk_a g 1)) (congrArg (fk_ce g ov 0 (M 0)) kd_0) rfl 0 (by decide) rfl i_201 rfl d_D_flow_44 ?_
        refine lv_iload_n S.1 S.2.1 d_D_flow_47 rfl (lv_at hl 1 rfl) ?_
        refine lv_iload_n S.1 S.2.1 d_D_flow_48 rfl (lv_at hl 2 rfl) ?_
        refine lv_iload_n S.1 S.2.1 d_D_flow_49 rfl (lv_at hl 3 rfl) ?_
        refine fk_cni S E G 1 (by decide) (congrArg (fk_ce g ov 1 (M 1)) kd_1) rfl (rest := []) (c_N_append l g ov M n hn h12 vb (nI cc) vi hb hi) m_N_append (List.mem_of_getElem? (i := 25) rfl) ⟨rfl, rfl⟩ ⟨by decide, by decide⟩ rfl rfl hl.1 (Nat.le_of_ble_eq_true rfl) d_D_flow_50 ⟨Nat.zero_le _, Nat.zero_le _⟩ (fun H locs G => ?_)
        obtain ⟨Ma, hMa⟩ : ∃ z : fk_M, z = va_up (va_up M (3 + 6 * n) (upd (upd (upd (M (3 + 6 * n)) 1 vb) 3 (nI cc)) 2 vi)) 1 (upd (M 1) 1 (nI (n + 1))) := ⟨_, rfl⟩
        rw [← hMa] at G
        rw [← hMa] at hs ⊢
        refine lv_istore (lv' := [(4, .int (nI n)), (0, .ref (fk_a g 0)), (1, .int vb), (2, .int (nI cc)), (3, .int vi)]) S.1 S.2.1 d_D_flow_53 hl (by decide) rfl (fun ls hl => ?_)
        refine lv_aload_n S.1 S.2.1 d_D_flow_55 rfl (lv_at hl 1 rfl) ?_
        refine fk_cvv S E G 0 (by decide) (congrArg (fk_ce g ov 0 (Ma 0)) kd_0) rfl (rest := []) (c_D_beginUnchecked l g ov Ma (n + 1) ck P sz bb hs) m_D_beginUnchecked i_458 ⟨rfl, rfl⟩ ⟨by decide, by decide⟩ rfl rfl hl.1 (Nat.le_of_ble_eq_true rfl) d_D_flow_56 ⟨Nat.zero_le _, Nat.zero_le _⟩ (fun H locs G => ?_)
        refine lv_iload S.1 S.2.1 d_D_flow_59 (lv_at hl 0 rfl) ?_
        exact fk_iret S hr hlk E G rfl rfl d_D_flow_61
      · exact absurd hc2 (by omega)
    · exact absurd hc1 (by decide)
  · refine lv_aload_n S.1 S.2.1 d_D_flow_0 rfl (lv_at hl 0 rfl) ?_
    refine fk_gf S E G 0 (by decide) (v := .ref (fk_a g 1)) (congrArg (fk_ce g ov 0 (M 0)) kd_0) rfl 0 (by decide) rfl i_201 rfl d_D_flow_1 ?_
    refine lv_iload_n S.1 S.2.1 d_D_flow_4 rfl (lv_at hl 2 rfl) ?_
    refine fk_cni S E G 1 (by decide) (congrArg (fk_ce g ov 1 (M 1)) kd_1) rfl (rest := []) (show fk_CI _ _ _ _ _ _ _ _ _ _ _ (nI 1) from by have h9 := c_N_isClock l g ov M cc c1 c2 n hn (by omega); rw [c3] at h9; exact h9) m_N_isClock (List.mem_of_getElem? (i := 23) rfl) ⟨rfl, rfl⟩ ⟨by decide, by decide⟩ rfl rfl hl.1 (Nat.le_of_ble_eq_true rfl) d_D_flow_5 ⟨Nat.zero_le _, Nat.zero_le _⟩ (fun H locs G => ?_)
    refine fk_zne (tgt := 21) S.1 S.2.1 (by decide) d_D_flow_8 rfl (fun hc3 => ?_) (fun hc3 => ?_)
    · refine lv_aload_n S.1 S.2.1 d_D_flow_21 rfl (lv_at hl 0 rfl) ?_
      refine fk_gf S E G 0 (by decide) (v := .ref (fk_a g 1)) (congrArg (fk_ce g ov 0 (M 0)) kd_0) rfl 0 (by decide) rfl i_201 rfl d_D_flow_22 ?_
      refine fk_gn S E G 1 (by decide) (v := .int (M 1 1)) (congrArg (fk_ce g ov 1 (M 1)) kd_1) rfl 1 (by decide) rfl (List.mem_of_getElem? (i := 40) rfl) rfl d_D_flow_25 ?_
      rw [hn]
      refine lv_bipush (v := nI 12) S.1 S.2.1 d_D_flow_28 (by decide +kernel) ?_
      refine fk_clt (tgt := 43) S.1 S.2.1 (by omega) (by omega) d_D_flow_30 rfl (fun hc4 => ?_) (fun hc4 => ?_)
      · refine lv_aload_n S.1 S.2.1 d_D_flow_43 rfl (lv_at hl 0 rfl) ?_
        refine fk_gf S E G 0 (by decide) (v := .ref (fk_a g 1)) (congrArg (fk_ce g ov 0 (M 0)) kd_0) rfl 0 (by decide) rfl i_201 rfl d_D_flow_44 ?_
        refine lv_iload_n S.1 S.2.1 d_D_flow_47 rfl (lv_at hl 1 rfl) ?_
        refine lv_iload_n S.1 S.2.1 d_D_flow_48 rfl (lv_at hl 2 rfl) ?_
        refine lv_iload_n S.1 S.2.1 d_D_flow_49 rfl (lv_at hl 3 rfl) ?_
        refine fk_cni S E G 1 (by decide) (congrArg (fk_ce g ov 1 (M 1)) kd_1) rfl (rest := []) (c_N_append l g ov M n hn h12 vb (nI cc) vi hb hi) m_N_append (List.mem_of_getElem? (i := 25) rfl) ⟨rfl, rfl⟩ ⟨by decide, by decide⟩ rfl rfl hl.1 (Nat.le_of_ble_eq_true rfl) d_D_flow_50 ⟨Nat.zero_le _, Nat.zero_le _⟩ (fun H locs G => ?_)
        obtain ⟨Ma, hMa⟩ : ∃ z : fk_M, z = va_up (va_up M (3 + 6 * n) (upd (upd (upd (M (3 + 6 * n)) 1 vb) 3 (nI cc)) 2 vi)) 1 (upd (M 1) 1 (nI (n + 1))) := ⟨_, rfl⟩
        rw [← hMa] at G
        rw [← hMa] at hs ⊢
        refine lv_istore (lv' := [(4, .int (nI n)), (0, .ref (fk_a g 0)), (1, .int vb), (2, .int (nI cc)), (3, .int vi)]) S.1 S.2.1 d_D_flow_53 hl (by decide) rfl (fun ls hl => ?_)
        refine lv_aload_n S.1 S.2.1 d_D_flow_55 rfl (lv_at hl 1 rfl) ?_
        refine fk_cvv S E G 0 (by decide) (congrArg (fk_ce g ov 0 (Ma 0)) kd_0) rfl (rest := []) (c_D_beginUnchecked l g ov Ma (n + 1) ck P sz bb hs) m_D_beginUnchecked i_458 ⟨rfl, rfl⟩ ⟨by decide, by decide⟩ rfl rfl hl.1 (Nat.le_of_ble_eq_true rfl) d_D_flow_56 ⟨Nat.zero_le _, Nat.zero_le _⟩ (fun H locs G => ?_)
        refine lv_iload S.1 S.2.1 d_D_flow_59 (lv_at hl 0 rfl) ?_
        exact fk_iret S hr hlk E G rfl rfl d_D_flow_61
      · exact absurd hc4 (by omega)
    · exact absurd hc3 (by decide)
