/-! Waiting.arrange; Checker: types, clocks, beginnings. Written by wip/gen/s_check.py. -/
theorem d_W_arrange_0 : decode b_W_arrange 0 = .ok (.aload_n 0, 1) := by decide +kernel
theorem d_W_arrange_1 : decode b_W_arrange 1 = .ok (.iconst 0, 1) := by decide +kernel
theorem d_W_arrange_2 : decode b_W_arrange 2 = .ok (.putfield 77, 3) := by decide +kernel
theorem d_W_arrange_5 : decode b_W_arrange 5 = .ok (.iconst 0, 1) := by decide +kernel
theorem d_W_arrange_6 : decode b_W_arrange 6 = .ok (.istore_n 1, 1) := by decide +kernel
theorem d_W_arrange_7 : decode b_W_arrange 7 = .ok (.iconst 0, 1) := by decide +kernel
theorem d_W_arrange_8 : decode b_W_arrange 8 = .ok (.istore_n 2, 1) := by decide +kernel
theorem d_W_arrange_9 : decode b_W_arrange 9 = .ok (.iload_n 2, 1) := by decide +kernel
theorem d_W_arrange_10 : decode b_W_arrange 10 = .ok (.aload_n 0, 1) := by decide +kernel
theorem d_W_arrange_11 : decode b_W_arrange 11 = .ok (.getfield 21, 3) := by decide +kernel
theorem d_W_arrange_14 : decode b_W_arrange 14 = .ok (.getfield 25, 3) := by decide +kernel
theorem d_W_arrange_17 : decode b_W_arrange 17 = .ok (.if_icmp .ge 82, 3) := by decide +kernel
theorem d_W_arrange_20 : decode b_W_arrange 20 = .ok (.aload_n 0, 1) := by decide +kernel
theorem d_W_arrange_21 : decode b_W_arrange 21 = .ok (.iconst 1, 1) := by decide +kernel
theorem d_W_arrange_22 : decode b_W_arrange 22 = .ok (.iload_n 1, 1) := by decide +kernel
theorem d_W_arrange_23 : decode b_W_arrange 23 = .ok (.invokevirtual 80, 3) := by decide +kernel
theorem d_W_arrange_26 : decode b_W_arrange 26 = .ok (.istore_n 3, 1) := by decide +kernel
theorem d_W_arrange_27 : decode b_W_arrange 27 = .ok (.iload_n 3, 1) := by decide +kernel
theorem d_W_arrange_28 : decode b_W_arrange 28 = .ok (.iconst (-1), 1) := by decide +kernel
theorem d_W_arrange_29 : decode b_W_arrange 29 = .ok (.if_icmp .ne 10, 3) := by decide +kernel
theorem d_W_arrange_32 : decode b_W_arrange 32 = .ok (.aload_n 0, 1) := by decide +kernel
theorem d_W_arrange_33 : decode b_W_arrange 33 = .ok (.iconst 0, 1) := by decide +kernel
theorem d_W_arrange_34 : decode b_W_arrange 34 = .ok (.iload_n 1, 1) := by decide +kernel
theorem d_W_arrange_35 : decode b_W_arrange 35 = .ok (.invokevirtual 80, 3) := by decide +kernel
theorem d_W_arrange_38 : decode b_W_arrange 38 = .ok (.istore_n 3, 1) := by decide +kernel
theorem d_W_arrange_39 : decode b_W_arrange 39 = .ok (.iload_n 3, 1) := by decide +kernel
theorem d_W_arrange_40 : decode b_W_arrange 40 = .ok (.iconst (-1), 1) := by decide +kernel
theorem d_W_arrange_41 : decode b_W_arrange 41 = .ok (.if_icmp .ne 4, 3) := by decide +kernel
theorem d_W_arrange_44 : decode b_W_arrange 44 = .ok (.return_, 1) := by decide +kernel
theorem d_W_arrange_45 : decode b_W_arrange 45 = .ok (.aload_n 0, 1) := by decide +kernel
theorem d_W_arrange_46 : decode b_W_arrange 46 = .ok (.getfield 18, 3) := by decide +kernel
theorem d_W_arrange_49 : decode b_W_arrange 49 = .ok (.iload_n 2, 1) := by decide +kernel
theorem d_W_arrange_50 : decode b_W_arrange 50 = .ok (.iload_n 3, 1) := by decide +kernel
theorem d_W_arrange_51 : decode b_W_arrange 51 = .ok (.iastore, 1) := by decide +kernel
theorem d_W_arrange_52 : decode b_W_arrange 52 = .ok (.iload_n 1, 1) := by decide +kernel
theorem d_W_arrange_53 : decode b_W_arrange 53 = .ok (.iconst 1, 1) := by decide +kernel
theorem d_W_arrange_54 : decode b_W_arrange 54 = .ok (.iload_n 3, 1) := by decide +kernel
theorem d_W_arrange_55 : decode b_W_arrange 55 = .ok (.ishl, 1) := by decide +kernel
theorem d_W_arrange_56 : decode b_W_arrange 56 = .ok (.ior, 1) := by decide +kernel
theorem d_W_arrange_57 : decode b_W_arrange 57 = .ok (.istore_n 1, 1) := by decide +kernel
theorem d_W_arrange_58 : decode b_W_arrange 58 = .ok (.aload_n 0, 1) := by decide +kernel
theorem d_W_arrange_59 : decode b_W_arrange 59 = .ok (.getfield 21, 3) := by decide +kernel
theorem d_W_arrange_62 : decode b_W_arrange 62 = .ok (.getfield 31, 3) := by decide +kernel
theorem d_W_arrange_65 : decode b_W_arrange 65 = .ok (.iload_n 3, 1) := by decide +kernel
theorem d_W_arrange_66 : decode b_W_arrange 66 = .ok (.aaload, 1) := by decide +kernel
theorem d_W_arrange_67 : decode b_W_arrange 67 = .ok (.getfield 84, 3) := by decide +kernel
theorem d_W_arrange_70 : decode b_W_arrange 70 = .ok (.ifCond .ne 23, 3) := by decide +kernel
theorem d_W_arrange_73 : decode b_W_arrange 73 = .ok (.aload_n 0, 1) := by decide +kernel
theorem d_W_arrange_74 : decode b_W_arrange 74 = .ok (.getfield 15, 3) := by decide +kernel
theorem d_W_arrange_77 : decode b_W_arrange 77 = .ok (.aload_n 0, 1) := by decide +kernel
theorem d_W_arrange_78 : decode b_W_arrange 78 = .ok (.getfield 77, 3) := by decide +kernel
theorem d_W_arrange_81 : decode b_W_arrange 81 = .ok (.iload_n 3, 1) := by decide +kernel
theorem d_W_arrange_82 : decode b_W_arrange 82 = .ok (.iastore, 1) := by decide +kernel
theorem d_W_arrange_83 : decode b_W_arrange 83 = .ok (.aload_n 0, 1) := by decide +kernel
theorem d_W_arrange_84 : decode b_W_arrange 84 = .ok (.dup, 1) := by decide +kernel
theorem d_W_arrange_85 : decode b_W_arrange 85 = .ok (.getfield 77, 3) := by decide +kernel
theorem d_W_arrange_88 : decode b_W_arrange 88 = .ok (.iconst 1, 1) := by decide +kernel
theorem d_W_arrange_89 : decode b_W_arrange 89 = .ok (.iadd, 1) := by decide +kernel
theorem d_W_arrange_90 : decode b_W_arrange 90 = .ok (.putfield 77, 3) := by decide +kernel
theorem d_W_arrange_93 : decode b_W_arrange 93 = .ok (.iinc 2 1, 3) := by decide +kernel
theorem d_W_arrange_96 : decode b_W_arrange 96 = .ok (.goto (-87), 3) := by decide +kernel
theorem d_W_arrange_99 : decode b_W_arrange 99 = .ok (.return_, 1) := by decide +kernel
theorem m_W_arrange : fk_MI y_W_arrange b_W_arrange 4 none 0 := ⟨i_339, i_338, fk_mp (q := (y_W_arrange, 5)) (by decide +kernel), i_5, by decide +kernel⟩
set_option maxHeartbeats 4000000 in
set_option maxRecDepth 100000 in
theorem c_W_arrange (l : Launch) (g : fk_G) (ov : Int64) (M : fk_M) (n : Nat) (hn : M 1 1 = nI n) (h12 : n ≤ 12) : fk_CV l y_W_arrange b_W_arrange 4 (fk_rm 1) g ov M (fk_ag n n 0 0 (nI 0) (va_up M 75 (upd (M 75) 3 (nI 0)))) [.ref (fk_a g 75)] := by
  refine fk_ofV rfl (Nat.le_of_ble_eq_true rfl) ?_
  intro p e s m args below meth c ls S hr hlk E G hl
  have hl : lv_has ls 4 [(0, .ref (fk_a g 75))] := hl
  refine lv_aload_n S.1 S.2.1 d_W_arrange_0 rfl (lv_at hl 0 rfl) ?_
  refine lv_iconst (v := nI 0) S.1 S.2.1 d_W_arrange_1 (by decide +kernel) ?_
  refine fk_pf S E G 75 (by decide) (congrArg (fk_ce g ov 75 (M 75)) kd_75) rfl 3 (by decide) rfl i_135 (upd (M 75) 3 (nI 0)) (congrArg (fk_ce g ov 75 (upd (M 75) 3 (nI 0))) kd_75) rfl (ty := (.int)) (by decide +kernel) rfl rfl (Nat.le_of_ble_eq_true rfl) d_W_arrange_2 (fun H locs G => ?_)
  obtain ⟨M1, hM1⟩ : ∃ z : fk_M, z = va_up M 75 (upd (M 75) 3 (nI 0)) := ⟨_, rfl⟩
  rw [← hM1] at G
  refine lv_iconst (v := nI 0) S.1 S.2.1 d_W_arrange_5 (by decide +kernel) ?_
  refine lv_istore_n (lv' := [(1, .int (nI 0)), (0, .ref (fk_a g 75))]) S.1 S.2.1 d_W_arrange_6 rfl hl (by decide) rfl (fun ls hl => ?_)
  refine lv_iconst (v := nI 0) S.1 S.2.1 d_W_arrange_7 (by decide +kernel) ?_
  refine lv_istore_n (lv' := [(2, .int (nI 0)), (1, .int (nI 0)), (0, .ref (fk_a g 75))]) S.1 S.2.1 d_W_arrange_8 rfl hl (by decide) rfl (fun ls hl => ?_)
  have loop : ∀ (d : Nat) (k o : Nat) (pl : Int32) (Mc : fk_M) (H : Heap) (locs : List Loc) (ls : Array Slot), k + d = n → o ≤ k → Mc 1 1 = nI n → Mc 75 3 = nI o → fk_ag n d k o pl Mc = fk_ag n n 0 0 (nI 0) (va_up M 75 (upd (M 75) 3 (nI 0))) → fk_H g ov (Mc) s H locs → lv_has ls 4 [(2, .int (nI k)), (1, .int pl), (0, .ref (fk_a g 75))] → W p l e (fk_rm (1)) s m args below meth c H locs 0 0 (MQ below (va_Qv (fun (_ : Unit) => True) (fun _ t9 => fk_Wd g ov (fk_ag n n 0 0 (nI 0) (va_up M 75 (upd (M 75) 3 (nI 0)))) t9) (fk_A g)) args s 0 0 (fk_A g)) (F0 m 9 ls []) := by
    intro d
    induction d with
    | zero =>
      intro k o pl Mc H locs ls hv0 hv1 hv2 hv3 hv4 G hl
      refine lv_iload_n S.1 S.2.1 d_W_arrange_9 rfl (lv_at hl 0 rfl) ?_
      refine lv_aload_n S.1 S.2.1 d_W_arrange_10 rfl (lv_at hl 2 rfl) ?_
      refine fk_gf S E G 75 (by decide) (v := .ref (fk_a g 1)) (congrArg (fk_ce g ov 75 (Mc 75)) kd_75) rfl 0 (by decide) rfl i_131 rfl d_W_arrange_11 ?_
      refine fk_gn S E G 1 (by decide) (v := .int (Mc 1 1)) (congrArg (fk_ce g ov 1 (Mc 1)) kd_1) rfl 1 (by decide) rfl (List.mem_of_getElem? (i := 38) rfl) rfl d_W_arrange_14 ?_
      rw [hv2]
      refine fk_cge (tgt := 99) S.1 S.2.1 (by omega) (by omega) d_W_arrange_17 rfl (fun hc2 => ?_) (fun hc2 => ?_)
      · exact fk_vret S hr hlk E G hv4 d_W_arrange_99
      · exact absurd hv0 (by omega)
    | succ d ih =>
      intro k o pl Mc H locs ls hv0 hv1 hv2 hv3 hv4 G hl
      refine lv_iload_n S.1 S.2.1 d_W_arrange_9 rfl (lv_at hl 0 rfl) ?_
      refine lv_aload_n S.1 S.2.1 d_W_arrange_10 rfl (lv_at hl 2 rfl) ?_
      refine fk_gf S E G 75 (by decide) (v := .ref (fk_a g 1)) (congrArg (fk_ce g ov 75 (Mc 75)) kd_75) rfl 0 (by decide) rfl i_131 rfl d_W_arrange_11 ?_
      refine fk_gn S E G 1 (by decide) (v := .int (Mc 1 1)) (congrArg (fk_ce g ov 1 (Mc 1)) kd_1) rfl 1 (by decide) rfl (List.mem_of_getElem? (i := 38) rfl) rfl d_W_arrange_14 ?_
      rw [hv2]
      refine fk_cge (tgt := 99) S.1 S.2.1 (by omega) (by omega) d_W_arrange_17 rfl (fun hc3 => ?_) (fun hc3 => ?_)
      · exact absurd hv0 (by omega)
      · have place : ∀ (j : Nat) (H : Heap) (locs : List Loc) (ls : Array Slot), fk_pk Mc n pl = some j → j < n → fk_H g ov Mc s H locs → lv_has ls 4 [(3, .int (nI j)), (2, .int (nI k)), (1, .int pl), (0, .ref (fk_a g 75))] → W p l e (fk_rm (1)) s m args below meth c H locs 0 0 (MQ below (va_Qv (fun (_ : Unit) => True) (fun _ t9 => fk_Wd g ov (fk_ag n n 0 0 (nI 0) (va_up M 75 (upd (M 75) 3 (nI 0)))) t9) (fk_A g)) args s 0 0 (fk_A g)) (F0 m 45 ls []) := by
          intro j H locs ls hj hjn G hl
          refine lv_aload_n S.1 S.2.1 d_W_arrange_45 rfl (lv_at hl 3 rfl) ?_
          refine fk_gf S E G 75 (by decide) (v := .ref (fk_a g 78)) (congrArg (fk_ce g ov 75 (Mc 75)) kd_75) rfl 4 (by decide) rfl i_137 rfl d_W_arrange_46 ?_
          refine lv_iload_n S.1 S.2.1 d_W_arrange_49 rfl (lv_at hl 1 rfl) ?_
          refine lv_iload_n S.1 S.2.1 d_W_arrange_50 rfl (lv_at hl 0 rfl) ?_
          refine fk_is S E G 78 (by decide) (fun r => congrArg (fk_ce g ov 78 r) kd_78) k rfl (by omega) (by decide) d_W_arrange_51 (fun H locs G => ?_)
          obtain ⟨M4, hM4⟩ : ∃ z : fk_M, z = va_up Mc 78 (upd (Mc 78) k (nI j)) := ⟨_, rfl⟩
          rw [← hM4] at G
          have e75 : M4 75 = Mc 75 := by rw [hM4, va_up_ne _ _ (by decide)]
          have e77 : M4 77 = Mc 77 := by rw [hM4, va_up_ne _ _ (by decide)]
          have e1 : M4 1 = Mc 1 := by rw [hM4, va_up_ne _ _ (by decide)]
          have ef : M4 (3 + 6 * j) = Mc (3 + 6 * j) := by rw [hM4, va_up_ne _ _ (by omega)]
          refine lv_iload_n S.1 S.2.1 d_W_arrange_52 rfl (lv_at hl 2 rfl) ?_
          refine lv_iconst (v := nI 1) S.1 S.2.1 d_W_arrange_53 (by decide +kernel) ?_
          refine lv_iload_n S.1 S.2.1 d_W_arrange_54 rfl (lv_at hl 0 rfl) ?_
          refine lv_ishl S.1 S.2.1 d_W_arrange_55 ?_
          refine lv_ior S.1 S.2.1 d_W_arrange_56 ?_
          refine lv_istore_n (lv' := [(1, .int (pl ||| ((nI 1) <<< (nI j &&& 31)))), (3, .int (nI j)), (2, .int (nI k)), (0, .ref (fk_a g 75))]) S.1 S.2.1 d_W_arrange_57 rfl hl (by decide) rfl (fun ls hl => ?_)
          refine lv_aload_n S.1 S.2.1 d_W_arrange_58 rfl (lv_at hl 3 rfl) ?_
          refine fk_gf S E G 75 (by decide) (v := .ref (fk_a g 1)) (congrArg (fk_ce g ov 75 (M4 75)) kd_75) rfl 0 (by decide) rfl i_131 rfl d_W_arrange_59 ?_
          refine fk_gn S E G 1 (by decide) (v := .ref (fk_a g 2)) (congrArg (fk_ce g ov 1 (M4 1)) kd_1) rfl 0 (by decide) rfl (List.mem_of_getElem? (i := 34) rfl) rfl d_W_arrange_62 ?_
          refine lv_iload_n S.1 S.2.1 d_W_arrange_65 rfl (lv_at hl 1 rfl) ?_
          refine fk_rw S E G j rfl (by omega) d_W_arrange_66 ?_
          refine fk_gn S E G (3 + 6 * j) (by omega) (v := .int (M4 (3 + 6 * j) 2)) (congrArg (fk_ce g ov (3 + 6 * j) (M4 (3 + 6 * j))) (fk_kf (show j < 12 by omega))) rfl 2 (by decide) rfl (List.mem_of_getElem? (i := 23) rfl) rfl d_W_arrange_67 ?_
          rw [ef]
          refine lv_if_ne (tgt := 93) S.1 S.2.1 d_W_arrange_70 rfl (fun hc5 => ?_) (fun hc5 => ?_)
          · refine lv_iinc (k := 2) (v := nI (k + 1)) (lv' := [(2, .int (nI (k + 1))), (1, .int (pl ||| ((nI 1) <<< (nI j &&& 31)))), (3, .int (nI j)), (0, .ref (fk_a g 75))]) S.1 S.2.1 d_W_arrange_93 hl rfl (nI_1 k) (by decide) rfl (fun ls hl => ?_)
            refine lv_goto (tgt := 9) S.1 S.2.1 d_W_arrange_96 rfl ?_
            exact ih (k + 1) o _ M4 H locs ls (by omega) (by omega) (by rw [e1]; exact hv2) (by rw [e75]; exact hv3) (by rw [hM4]; exact (by rw [← hv4]; show _ = (match fk_pk Mc n pl with | none => Mc | some j => if Mc (3 + 6 * j) 2 = 0 then _ else _); rw [hj]; exact (if_neg hc5).symm)) G (lv_sub hl [0, 1, 3] rfl)
          · refine lv_aload_n S.1 S.2.1 d_W_arrange_73 rfl (lv_at hl 3 rfl) ?_
            refine fk_gf S E G 75 (by decide) (v := .ref (fk_a g 77)) (congrArg (fk_ce g ov 75 (M4 75)) kd_75) rfl 2 (by decide) rfl i_133 rfl d_W_arrange_74 ?_
            refine lv_aload_n S.1 S.2.1 d_W_arrange_77 rfl (lv_at hl 3 rfl) ?_
            refine fk_gf S E G 75 (by decide) (v := .int (M4 75 3)) (congrArg (fk_ce g ov 75 (M4 75)) kd_75) rfl 3 (by decide) rfl i_135 rfl d_W_arrange_78 ?_
            rw [e75, hv3]
            refine lv_iload_n S.1 S.2.1 d_W_arrange_81 rfl (lv_at hl 1 rfl) ?_
            refine fk_is S E G 77 (by decide) (fun r => congrArg (fk_ce g ov 77 r) kd_77) o rfl (by omega) (by decide) d_W_arrange_82 (fun H locs G => ?_)
            obtain ⟨M6, hM6⟩ : ∃ z : fk_M, z = va_up M4 77 (upd (M4 77) o (nI j)) := ⟨_, rfl⟩
            rw [← hM6] at G
            have f75 : M6 75 = Mc 75 := by rw [hM6, va_up_ne _ _ (by decide), e75]
            have f1 : M6 1 = Mc 1 := by rw [hM6, va_up_ne _ _ (by decide), e1]
            refine lv_aload_n S.1 S.2.1 d_W_arrange_83 rfl (lv_at hl 3 rfl) ?_
            refine lv_dup S.1 S.2.1 d_W_arrange_84 rfl ?_
            refine fk_gf S E G 75 (by decide) (v := .int (M6 75 3)) (congrArg (fk_ce g ov 75 (M6 75)) kd_75) rfl 3 (by decide) rfl i_135 rfl d_W_arrange_85 ?_
            rw [f75, hv3]
            refine lv_iconst (v := nI 1) S.1 S.2.1 d_W_arrange_88 (by decide +kernel) ?_
            refine fk_iadd S.1 S.2.1 d_W_arrange_89 ?_
            refine fk_pf S E G 75 (by decide) (congrArg (fk_ce g ov 75 (M6 75)) kd_75) rfl 3 (by decide) rfl i_135 (upd (M6 75) 3 (nI (o + 1))) (congrArg (fk_ce g ov 75 (upd (M6 75) 3 (nI (o + 1)))) kd_75) rfl (ty := (.int)) (by decide +kernel) rfl rfl (Nat.le_of_ble_eq_true rfl) d_W_arrange_90 (fun H locs G => ?_)
            obtain ⟨M7, hM7⟩ : ∃ z : fk_M, z = va_up M6 75 (upd (M6 75) 3 (nI (o + 1))) := ⟨_, rfl⟩
            rw [← hM7] at G
            refine lv_iinc (k := 2) (v := nI (k + 1)) (lv' := [(2, .int (nI (k + 1))), (1, .int (pl ||| ((nI 1) <<< (nI j &&& 31)))), (3, .int (nI j)), (0, .ref (fk_a g 75))]) S.1 S.2.1 d_W_arrange_93 hl rfl (nI_1 k) (by decide) rfl (fun ls hl => ?_)
            refine lv_goto (tgt := 9) S.1 S.2.1 d_W_arrange_96 rfl ?_
            exact ih (k + 1) (o + 1) _ M7 H locs ls (by omega) (by omega) (by rw [hM7, va_up_ne _ _ (by decide), f1]; exact hv2) (by rw [hM7, va_up_self, pk_us]) (by rw [hM7, f75, hM6, e77, hM4]; exact (by rw [← hv4]; show _ = (match fk_pk Mc n pl with | none => Mc | some j => if Mc (3 + 6 * j) 2 = 0 then _ else _); rw [hj]; exact (if_pos hc5).symm)) G (lv_sub hl [0, 1, 3] rfl)
        refine lv_aload_n S.1 S.2.1 d_W_arrange_20 rfl (lv_at hl 2 rfl) ?_
        refine lv_iconst (v := nI 1) S.1 S.2.1 d_W_arrange_21 (by decide +kernel) ?_
        refine lv_iload_n S.1 S.2.1 d_W_arrange_22 rfl (lv_at hl 1 rfl) ?_
        cases hr1 : fk_lr Mc 1 pl n 0 with
        | some j =>
          have hjn := fk_lr_lt _ _ _ hr1
          have hpk : fk_pk Mc n pl = some j := by unfold fk_pk; rw [hr1]
          refine fk_cvi S E G 75 (by decide) (congrArg (fk_ce g ov 75 (Mc 75)) kd_75) rfl (rest := []) (show fk_CI _ _ _ _ _ _ _ _ _ _ _ (nI j) by have h9 := (c_W_lowestReady l g ov Mc n hv2 h12 1 pl); rw [hr1] at h9; exact h9) m_W_lowestReady i_340 ⟨rfl, rfl⟩ ⟨by decide, by decide⟩ rfl rfl hl.1 (Nat.le_of_ble_eq_true rfl) d_W_arrange_23 ⟨Nat.zero_le _, Nat.zero_le _⟩ (fun H locs G => ?_)
          refine lv_istore_n (lv' := [(3, .int (nI j)), (2, .int (nI k)), (1, .int pl), (0, .ref (fk_a g 75))]) S.1 S.2.1 d_W_arrange_26 rfl hl (by decide) rfl (fun ls hl => ?_)
          refine lv_iload_n S.1 S.2.1 d_W_arrange_27 rfl (lv_at hl 0 rfl) ?_
          refine lv_iconst (v := -1) S.1 S.2.1 d_W_arrange_28 (by decide +kernel) ?_
          refine lv_icmp_ne (tgt := 39) S.1 S.2.1 d_W_arrange_29 rfl (fun hc8 => ?_) (fun hc8 => ?_)
          · refine lv_iload_n S.1 S.2.1 d_W_arrange_39 rfl (lv_at hl 0 rfl) ?_
            refine lv_iconst (v := -1) S.1 S.2.1 d_W_arrange_40 (by decide +kernel) ?_
            refine lv_icmp_ne (tgt := 45) S.1 S.2.1 d_W_arrange_41 rfl (fun hc9 => ?_) (fun hc9 => ?_)
            · exact place j H locs ls hpk (by omega) G hl
            · exact absurd hc9 (fk_nm1 (by omega))
          · exact absurd hc8 (fk_nm1 (by omega))
        | none =>
          refine fk_cvi S E G 75 (by decide) (congrArg (fk_ce g ov 75 (Mc 75)) kd_75) rfl (rest := []) (show fk_CI _ _ _ _ _ _ _ _ _ _ _ (-1) by have h9 := (c_W_lowestReady l g ov Mc n hv2 h12 1 pl); rw [hr1] at h9; exact h9) m_W_lowestReady i_340 ⟨rfl, rfl⟩ ⟨by decide, by decide⟩ rfl rfl hl.1 (Nat.le_of_ble_eq_true rfl) d_W_arrange_23 ⟨Nat.zero_le _, Nat.zero_le _⟩ (fun H locs G => ?_)
          refine lv_istore_n (lv' := [(3, .int (-1)), (2, .int (nI k)), (1, .int pl), (0, .ref (fk_a g 75))]) S.1 S.2.1 d_W_arrange_26 rfl hl (by decide) rfl (fun ls hl => ?_)
          refine lv_iload_n S.1 S.2.1 d_W_arrange_27 rfl (lv_at hl 0 rfl) ?_
          refine lv_iconst (v := -1) S.1 S.2.1 d_W_arrange_28 (by decide +kernel) ?_
          refine lv_icmp_ne (tgt := 39) S.1 S.2.1 d_W_arrange_29 rfl (fun hc10 => ?_) (fun hc10 => ?_)
          · exact absurd rfl hc10
          · refine lv_aload_n S.1 S.2.1 d_W_arrange_32 rfl (lv_at hl 3 rfl) ?_
            refine lv_iconst (v := nI 0) S.1 S.2.1 d_W_arrange_33 (by decide +kernel) ?_
            refine lv_iload_n S.1 S.2.1 d_W_arrange_34 rfl (lv_at hl 2 rfl) ?_
            cases hr0 : fk_lr Mc 0 pl n 0 with
            | some j =>
              have hjn := fk_lr_lt _ _ _ hr0
              have hpk : fk_pk Mc n pl = some j := by unfold fk_pk; rw [hr1]; exact hr0
              refine fk_cvi S E G 75 (by decide) (congrArg (fk_ce g ov 75 (Mc 75)) kd_75) rfl (rest := []) (show fk_CI _ _ _ _ _ _ _ _ _ _ _ (nI j) by have h9 := (c_W_lowestReady l g ov Mc n hv2 h12 0 pl); rw [hr0] at h9; exact h9) m_W_lowestReady i_340 ⟨rfl, rfl⟩ ⟨by decide, by decide⟩ rfl rfl hl.1 (Nat.le_of_ble_eq_true rfl) d_W_arrange_35 ⟨Nat.zero_le _, Nat.zero_le _⟩ (fun H locs G => ?_)
              refine lv_istore_n (lv' := [(3, .int (nI j)), (2, .int (nI k)), (1, .int pl), (0, .ref (fk_a g 75))]) S.1 S.2.1 d_W_arrange_38 rfl hl (by decide) rfl (fun ls hl => ?_)
              refine lv_iload_n S.1 S.2.1 d_W_arrange_39 rfl (lv_at hl 0 rfl) ?_
              refine lv_iconst (v := -1) S.1 S.2.1 d_W_arrange_40 (by decide +kernel) ?_
              refine lv_icmp_ne (tgt := 45) S.1 S.2.1 d_W_arrange_41 rfl (fun hc11 => ?_) (fun hc11 => ?_)
              · exact place j H locs ls hpk (by omega) G hl
              · exact absurd hc11 (fk_nm1 (by omega))
            | none =>
              have hpk : fk_pk Mc n pl = none := by unfold fk_pk; rw [hr1]; exact hr0
              refine fk_cvi S E G 75 (by decide) (congrArg (fk_ce g ov 75 (Mc 75)) kd_75) rfl (rest := []) (show fk_CI _ _ _ _ _ _ _ _ _ _ _ (-1) by have h9 := (c_W_lowestReady l g ov Mc n hv2 h12 0 pl); rw [hr0] at h9; exact h9) m_W_lowestReady i_340 ⟨rfl, rfl⟩ ⟨by decide, by decide⟩ rfl rfl hl.1 (Nat.le_of_ble_eq_true rfl) d_W_arrange_35 ⟨Nat.zero_le _, Nat.zero_le _⟩ (fun H locs G => ?_)
              refine lv_istore_n (lv' := [(3, .int (-1)), (2, .int (nI k)), (1, .int pl), (0, .ref (fk_a g 75))]) S.1 S.2.1 d_W_arrange_38 rfl hl (by decide) rfl (fun ls hl => ?_)
              refine lv_iload_n S.1 S.2.1 d_W_arrange_39 rfl (lv_at hl 0 rfl) ?_
              refine lv_iconst (v := -1) S.1 S.2.1 d_W_arrange_40 (by decide +kernel) ?_
              refine lv_icmp_ne (tgt := 45) S.1 S.2.1 d_W_arrange_41 rfl (fun hc12 => ?_) (fun hc12 => ?_)
              · exact absurd rfl hc12
              · exact fk_vret S hr hlk E G (by rw [← hv4]; show _ = (match fk_pk Mc n pl with | none => Mc | some j => if Mc (3 + 6 * j) 2 = 0 then _ else _); rw [hpk]) d_W_arrange_44
  exact loop n 0 0 (nI 0) M1 H locs ls (by omega) (by omega) (by rw [hM1, va_up_ne _ _ (by decide)]; exact hn) (by rw [hM1, va_up_self, pk_us]) (by rw [hM1]) G hl
theorem fk_Xr {x t : Nat} (hX : fk_X x) (ht : t ≤ 4) : x + t < 75 ∨ (84 ≤ x + t ∧ x + t < 89) := by
  rcases hX with h9 | ⟨z, h8, h9⟩ <;> omega
def fk_fg (M : fk_M) : fk_M := va_up M 79 (upd (upd (upd (M 79) 4 (nI 0)) 5 (-1)) 6 (-1))
def fk_ty1 (M : fk_M) (w : Nat) : Nat := (decide (¬ M (3 + 6 * w) 1 = 0)).toNat
def fk_rt (k : Nat) : Nat := if k = 1 ∨ k = 2 ∨ k = 4 ∨ (8 < k ∧ k < 13) then 1 else if k = 3 ∨ 12 < k then 2 else 0
def fk_pt (k : Nat) : Nat := if k = 4 ∨ k = 11 ∨ k = 12 then 1 else if k < 4 ∨ 12 < k then 2 else 0
theorem fk_tv2 : ∀ k, k < 19 → (fk_tv 2).getD k 0 = nI (fk_rt k) := by decide +kernel
theorem fk_tv3 : ∀ k, k < 19 → (fk_tv 3).getD k 0 = nI (fk_pt k) := by decide +kernel
theorem fk_rt_le (k : Nat) : fk_rt k ≤ 2 := by unfold fk_rt; split <;> (try split) <;> omega
theorem fk_pt_le (k : Nat) : fk_pt k ≤ 2 := by unfold fk_pt; split <;> (try split) <;> omega
/-- the node is of the type v -/
def fk_it (M : fk_M) (k w : Nat) (v : Int32) : Bool := if k = 3 then decide (nI (fk_ty1 M w) = v) else if 15 < k then decide (fk_ty1 M w = 1) else decide (fk_rt k = 2 ∨ nI (fk_rt k) = v)
theorem fk_ty1_le (M : fk_M) (w : Nat) : fk_ty1 M w < 2 ^ 31 := fk_bl _
/-- what is wanted of the parts -/
def fk_wt (E : Nat → Int32) (k : Nat) (v : Int32) : Nat → Nat → Nat → (Nat → Int32) → Nat → Int32
  | 0, _, _, A => A
  | d + 1, q, y, A => fk_wt E k v d (q + 1) (E y).toNatClampNeg (upd A y (if k = 13 ∧ q = 0 then nI 1 else v))
def fk_wv (k : Nat) (v : Int32) : Int32 := if fk_pt k = 2 then v else nI (fk_pt k)
def fk_tf (M : fk_M) (b : Nat → Nat) (E : Nat → Int32) : Nat → Nat → (Nat → Int32) → Option Nat × (Nat → Int32)
  | 0, _, A => (none, A)
  | d + 1, i, A => if ¬ 0 < E i then fk_tf M b E d (i + 1) A else if fk_it M (b i) (b (i + 1)) (A i) = true then fk_tf M b E d (i + 1) (fk_wt E (b i) (fk_wv (b i) (A i)) (fk_ar (b i)) 0 (i + fk_hd (b i)) A) else (some i, A)
theorem fk_tf_S (M : fk_M) (b : Nat → Nat) (E : Nat → Int32) (d i : Nat) (A : Nat → Int32) : fk_tf M b E (d + 1) i A = if ¬ 0 < E i then fk_tf M b E d (i + 1) A else if fk_it M (b i) (b (i + 1)) (A i) = true then fk_tf M b E d (i + 1) (fk_wt E (b i) (fk_wv (b i) (A i)) (fk_ar (b i)) 0 (i + fk_hd (b i)) A) else (some i, A) := rfl
theorem d_K_forget_0 : decode b_K_forget 0 = .ok (.aload_n 0, 1) := by decide +kernel
theorem d_K_forget_1 : decode b_K_forget 1 = .ok (.iconst 0, 1) := by decide +kernel
theorem d_K_forget_2 : decode b_K_forget 2 = .ok (.putfield 34, 3) := by decide +kernel
theorem d_K_forget_5 : decode b_K_forget 5 = .ok (.aload_n 0, 1) := by decide +kernel
theorem d_K_forget_6 : decode b_K_forget 6 = .ok (.iconst (-1), 1) := by decide +kernel
theorem d_K_forget_7 : decode b_K_forget 7 = .ok (.putfield 19, 3) := by decide +kernel
theorem d_K_forget_10 : decode b_K_forget 10 = .ok (.aload_n 0, 1) := by decide +kernel
theorem d_K_forget_11 : decode b_K_forget 11 = .ok (.iconst (-1), 1) := by decide +kernel
theorem d_K_forget_12 : decode b_K_forget 12 = .ok (.putfield 23, 3) := by decide +kernel
theorem d_K_forget_15 : decode b_K_forget 15 = .ok (.return_, 1) := by decide +kernel
theorem m_K_forget : fk_MI y_K_forget b_K_forget 1 none 0 := ⟨i_235, i_234, fk_mp (q := (y_K_forget, 7)) (by decide +kernel), i_6, by decide +kernel⟩
set_option maxHeartbeats 4000000 in
set_option maxRecDepth 100000 in
theorem c_K_forget (l : Launch) (g : fk_G) (ov : Int64) (M : fk_M)  : fk_CV l y_K_forget b_K_forget 1 (fk_rm 0) g ov M (fk_fg M) [.ref (fk_a g 79)] := by
  refine fk_ofV rfl (Nat.le_of_ble_eq_true rfl) ?_
  intro p e s m args below meth c ls S hr hlk E G hl
  have hl : lv_has ls 1 [(0, .ref (fk_a g 79))] := hl
  refine lv_aload_n S.1 S.2.1 d_K_forget_0 rfl (lv_at hl 0 rfl) ?_
  refine lv_iconst (v := nI 0) S.1 S.2.1 d_K_forget_1 (by decide +kernel) ?_
  refine fk_pf S E G 79 (by decide) (congrArg (fk_ce g ov 79 (M 79)) kd_79) rfl 4 (by decide) rfl i_160 (upd (M 79) 4 (nI 0)) (congrArg (fk_ce g ov 79 (upd (M 79) 4 (nI 0))) kd_79) rfl (ty := (.boolean)) (by decide +kernel) (fk_nb (Or.inl nI_0)) (fk_fb (Or.inl nI_0)) (Nat.le_of_ble_eq_true rfl) d_K_forget_2 (fun H locs G => ?_)
  obtain ⟨M1, hM1⟩ : ∃ z : fk_M, z = va_up M 79 (upd (M 79) 4 (nI 0)) := ⟨_, rfl⟩
  rw [← hM1] at G
  refine lv_aload_n S.1 S.2.1 d_K_forget_5 rfl (lv_at hl 0 rfl) ?_
  refine lv_iconst (v := -1) S.1 S.2.1 d_K_forget_6 (by decide +kernel) ?_
  refine fk_pf S E G 79 (by decide) (congrArg (fk_ce g ov 79 (M1 79)) kd_79) rfl 5 (by decide) rfl i_162 (upd (M1 79) 5 (-1)) (congrArg (fk_ce g ov 79 (upd (M1 79) 5 (-1))) kd_79) rfl (ty := (.int)) (by decide +kernel) rfl rfl (Nat.le_of_ble_eq_true rfl) d_K_forget_7 (fun H locs G => ?_)
  obtain ⟨M2, hM2⟩ : ∃ z : fk_M, z = va_up M1 79 (upd (M1 79) 5 (-1)) := ⟨_, rfl⟩
  rw [← hM2] at G
  refine lv_aload_n S.1 S.2.1 d_K_forget_10 rfl (lv_at hl 0 rfl) ?_
  refine lv_iconst (v := -1) S.1 S.2.1 d_K_forget_11 (by decide +kernel) ?_
  refine fk_pf S E G 79 (by decide) (congrArg (fk_ce g ov 79 (M2 79)) kd_79) rfl 6 (by decide) rfl i_164 (upd (M2 79) 6 (-1)) (congrArg (fk_ce g ov 79 (upd (M2 79) 6 (-1))) kd_79) rfl (ty := (.int)) (by decide +kernel) rfl rfl (Nat.le_of_ble_eq_true rfl) d_K_forget_12 (fun H locs G => ?_)
  obtain ⟨M3, hM3⟩ : ∃ z : fk_M, z = va_up M2 79 (upd (M2 79) 6 (-1)) := ⟨_, rfl⟩
  rw [← hM3] at G
  exact fk_vret S hr hlk E G (by rw [hM3, hM2, hM1, bx_uu, va_up_self, bx_uu, va_up_self]; rfl) d_K_forget_15
theorem d_K_isOfType_0 : decode b_K_isOfType 0 = .ok (.aload_n 1, 1) := by decide +kernel
theorem d_K_isOfType_1 : decode b_K_isOfType 1 = .ok (.getfield 117, 3) := by decide +kernel
theorem d_K_isOfType_4 : decode b_K_isOfType 4 = .ok (.iload_n 2, 1) := by decide +kernel
theorem d_K_isOfType_5 : decode b_K_isOfType 5 = .ok (.iaload, 1) := by decide +kernel
theorem d_K_isOfType_6 : decode b_K_isOfType 6 = .ok (.istore 4, 2) := by decide +kernel
theorem d_K_isOfType_8 : decode b_K_isOfType 8 = .ok (.iload 4, 2) := by decide +kernel
theorem d_K_isOfType_10 : decode b_K_isOfType 10 = .ok (.iconst 3, 1) := by decide +kernel
theorem d_K_isOfType_11 : decode b_K_isOfType 11 = .ok (.if_icmp .ne 25, 3) := by decide +kernel
theorem d_K_isOfType_14 : decode b_K_isOfType 14 = .ok (.aload_n 0, 1) := by decide +kernel
theorem d_K_isOfType_15 : decode b_K_isOfType 15 = .ok (.getfield 26, 3) := by decide +kernel
theorem d_K_isOfType_18 : decode b_K_isOfType 18 = .ok (.aload_n 1, 1) := by decide +kernel
theorem d_K_isOfType_19 : decode b_K_isOfType 19 = .ok (.iload_n 2, 1) := by decide +kernel
theorem d_K_isOfType_20 : decode b_K_isOfType 20 = .ok (.invokevirtual 120, 3) := by decide +kernel
theorem d_K_isOfType_23 : decode b_K_isOfType 23 = .ok (.invokevirtual 83, 3) := by decide +kernel
theorem d_K_isOfType_26 : decode b_K_isOfType 26 = .ok (.iload_n 3, 1) := by decide +kernel
theorem d_K_isOfType_27 : decode b_K_isOfType 27 = .ok (.if_icmp .ne 7, 3) := by decide +kernel
theorem d_K_isOfType_30 : decode b_K_isOfType 30 = .ok (.iconst 1, 1) := by decide +kernel
theorem d_K_isOfType_31 : decode b_K_isOfType 31 = .ok (.goto 4, 3) := by decide +kernel
theorem d_K_isOfType_34 : decode b_K_isOfType 34 = .ok (.iconst 0, 1) := by decide +kernel
theorem d_K_isOfType_35 : decode b_K_isOfType 35 = .ok (.ireturn, 1) := by decide +kernel
theorem d_K_isOfType_36 : decode b_K_isOfType 36 = .ok (.iload 4, 2) := by decide +kernel
theorem d_K_isOfType_38 : decode b_K_isOfType 38 = .ok (.invokestatic 123, 3) := by decide +kernel
theorem d_K_isOfType_41 : decode b_K_isOfType 41 = .ok (.ifCond .eq 25, 3) := by decide +kernel
theorem d_K_isOfType_44 : decode b_K_isOfType 44 = .ok (.aload_n 0, 1) := by decide +kernel
theorem d_K_isOfType_45 : decode b_K_isOfType 45 = .ok (.getfield 26, 3) := by decide +kernel
theorem d_K_isOfType_48 : decode b_K_isOfType 48 = .ok (.aload_n 1, 1) := by decide +kernel
theorem d_K_isOfType_49 : decode b_K_isOfType 49 = .ok (.iload_n 2, 1) := by decide +kernel
theorem d_K_isOfType_50 : decode b_K_isOfType 50 = .ok (.invokevirtual 120, 3) := by decide +kernel
theorem d_K_isOfType_53 : decode b_K_isOfType 53 = .ok (.invokevirtual 83, 3) := by decide +kernel
theorem d_K_isOfType_56 : decode b_K_isOfType 56 = .ok (.iconst 1, 1) := by decide +kernel
theorem d_K_isOfType_57 : decode b_K_isOfType 57 = .ok (.if_icmp .ne 7, 3) := by decide +kernel
theorem d_K_isOfType_60 : decode b_K_isOfType 60 = .ok (.iconst 1, 1) := by decide +kernel
theorem d_K_isOfType_61 : decode b_K_isOfType 61 = .ok (.goto 4, 3) := by decide +kernel
theorem d_K_isOfType_64 : decode b_K_isOfType 64 = .ok (.iconst 0, 1) := by decide +kernel
theorem d_K_isOfType_65 : decode b_K_isOfType 65 = .ok (.ireturn, 1) := by decide +kernel
theorem d_K_isOfType_66 : decode b_K_isOfType 66 = .ok (.getstatic 126, 3) := by decide +kernel
theorem d_K_isOfType_69 : decode b_K_isOfType 69 = .ok (.iload 4, 2) := by decide +kernel
theorem d_K_isOfType_71 : decode b_K_isOfType 71 = .ok (.iaload, 1) := by decide +kernel
theorem d_K_isOfType_72 : decode b_K_isOfType 72 = .ok (.iconst 2, 1) := by decide +kernel
theorem d_K_isOfType_73 : decode b_K_isOfType 73 = .ok (.if_icmp .eq 13, 3) := by decide +kernel
theorem d_K_isOfType_76 : decode b_K_isOfType 76 = .ok (.getstatic 126, 3) := by decide +kernel
theorem d_K_isOfType_79 : decode b_K_isOfType 79 = .ok (.iload 4, 2) := by decide +kernel
theorem d_K_isOfType_81 : decode b_K_isOfType 81 = .ok (.iaload, 1) := by decide +kernel
theorem d_K_isOfType_82 : decode b_K_isOfType 82 = .ok (.iload_n 3, 1) := by decide +kernel
theorem d_K_isOfType_83 : decode b_K_isOfType 83 = .ok (.if_icmp .ne 7, 3) := by decide +kernel
theorem d_K_isOfType_86 : decode b_K_isOfType 86 = .ok (.iconst 1, 1) := by decide +kernel
theorem d_K_isOfType_87 : decode b_K_isOfType 87 = .ok (.goto 4, 3) := by decide +kernel
theorem d_K_isOfType_90 : decode b_K_isOfType 90 = .ok (.iconst 0, 1) := by decide +kernel
theorem d_K_isOfType_91 : decode b_K_isOfType 91 = .ok (.ireturn, 1) := by decide +kernel
theorem m_K_isOfType : fk_MI y_K_isOfType b_K_isOfType 5 (some .boolean) 3 := ⟨i_290, i_289, fk_mp (q := (y_K_isOfType, 7)) (by decide +kernel), i_6, by decide +kernel⟩
set_option maxHeartbeats 4000000 in
set_option maxRecDepth 100000 in
theorem c_K_isOfType (l : Launch) (g : fk_G) (ov : Int64) (M : fk_M) (x : Nat) (hX : fk_X x) (bf : Nat → Nat) (n cnt : Nat) (hn40 : n ≤ 40) (h12 : cnt ≤ 12) (hb : ∀ j, j < n → M (x + 1) j = nI (bf j)) (i : Nat) (hok : fk_ok bf n cnt i) (v : Int32) : fk_CI l y_K_isOfType b_K_isOfType 5 (some .boolean) (fk_rm 1) g ov M M [.ref (fk_a g 79), .ref (fk_a g x), .int (nI i), .int v] (nI (fk_it M (bf i) (bf (i + 1)) v).toNat) := by
  refine fk_ofI rfl (Nat.le_of_ble_eq_true rfl) ?_
  intro p e s m args below meth c ls S hr hlk E G hl
  have hl : lv_has ls 5 [(0, .ref (fk_a g 79)), (1, .ref (fk_a g x)), (2, .int (nI i)), (3, .int v)] := hl
  have hok2 := hok.2.1
  have hi := hok.1
  refine lv_aload_n S.1 S.2.1 d_K_isOfType_0 rfl (lv_at hl 1 rfl) ?_
  refine fk_gn S E G x (by have := fk_Xlt hX; omega) (v := .ref (fk_a g (x + 1))) (congrArg (fk_ce g ov x (M x)) (fk_kx0 hX)) rfl 0 (by decide) rfl (List.mem_of_getElem? (i := 1) rfl) rfl d_K_isOfType_1 ?_
  refine lv_iload_n S.1 S.2.1 d_K_isOfType_4 rfl (lv_at hl 2 rfl) ?_
  refine fk_ia S E G (x + 1) (by have := fk_Xlt hX; omega) (congrArg (fk_ce g ov (x + 1) (M (x + 1))) (fk_kx1 hX)) i rfl (by omega) (by decide) (v := nI (bf i)) (hb i hi) d_K_isOfType_5 ?_
  refine lv_istore (lv' := [(4, .int (nI (bf i))), (0, .ref (fk_a g 79)), (1, .ref (fk_a g x)), (2, .int (nI i)), (3, .int v)]) S.1 S.2.1 d_K_isOfType_6 hl (by decide) rfl (fun ls hl => ?_)
  refine lv_iload S.1 S.2.1 d_K_isOfType_8 (lv_at hl 0 rfl) ?_
  refine lv_iconst (v := nI 3) S.1 S.2.1 d_K_isOfType_10 (by decide +kernel) ?_
  refine fk_cne (tgt := 36) S.1 S.2.1 (by omega) (by omega) d_K_isOfType_11 rfl (fun hc1 => ?_) (fun hc1 => ?_)
  · refine lv_iload S.1 S.2.1 d_K_isOfType_36 (lv_at hl 0 rfl) ?_
    refine fk_cti S E G (rest := []) (c_D_isSampling l g ov M (bf i) hok2) m_D_isSampling (List.mem_of_getElem? (i := 19) rfl) ⟨rfl, rfl⟩ ⟨by decide, by decide⟩ rfl rfl hl.1 (Nat.le_of_ble_eq_true rfl) d_K_isOfType_38 ⟨Nat.zero_le _, Nat.zero_le _⟩ (fun H locs G => ?_)
    refine fk_zeq (tgt := 66) S.1 S.2.1 (fk_bl _) d_K_isOfType_41 rfl (fun hc2 => ?_) (fun hc2 => ?_)
    · have hns := of_decide_eq_false (fk_bf hc2)
      have hrt := fk_rt_le (bf i)
      refine fk_gsn S E G 2 (by decide) (List.mem_of_getElem? (i := 49) rfl) d_K_isOfType_66 ?_
      refine lv_iload S.1 S.2.1 d_K_isOfType_69 (lv_at hl 0 rfl) ?_
      refine fk_ti S E G 2 (by decide) (bf i) rfl (by omega) (v := nI (fk_rt (bf i))) (fk_tv2 _ (by omega)) d_K_isOfType_71 ?_
      refine lv_iconst (v := nI 2) S.1 S.2.1 d_K_isOfType_72 (by decide +kernel) ?_
      refine fk_ceq (tgt := 86) S.1 S.2.1 (by omega) (by omega) d_K_isOfType_73 rfl (fun hc3 => ?_) (fun hc3 => ?_)
      · refine lv_iconst (v := nI 1) S.1 S.2.1 d_K_isOfType_86 (by decide +kernel) ?_
        refine lv_goto (tgt := 91) S.1 S.2.1 d_K_isOfType_87 rfl ?_
        exact fk_zret S hr hlk E G rfl (fk_b1 (by unfold fk_it; rw [if_neg hc1, if_neg hns]; exact decide_eq_true (Or.inl hc3))) (fk_bz _) d_K_isOfType_91
      · refine fk_gsn S E G 2 (by decide) (List.mem_of_getElem? (i := 49) rfl) d_K_isOfType_76 ?_
        refine lv_iload S.1 S.2.1 d_K_isOfType_79 (lv_at hl 0 rfl) ?_
        refine fk_ti S E G 2 (by decide) (bf i) rfl (by omega) (v := nI (fk_rt (bf i))) (fk_tv2 _ (by omega)) d_K_isOfType_81 ?_
        refine lv_iload_n S.1 S.2.1 d_K_isOfType_82 rfl (lv_at hl 4 rfl) ?_
        refine lv_icmp_ne (tgt := 90) S.1 S.2.1 d_K_isOfType_83 rfl (fun hc4 => ?_) (fun hc4 => ?_)
        · refine lv_iconst (v := nI 0) S.1 S.2.1 d_K_isOfType_90 (by decide +kernel) ?_
          exact fk_zret S hr hlk E G rfl (fk_b0 (by unfold fk_it; rw [if_neg hc1, if_neg hns]; exact decide_eq_false (fun q => q.elim hc3 hc4))) (fk_bz _) d_K_isOfType_91
        · refine lv_iconst (v := nI 1) S.1 S.2.1 d_K_isOfType_86 (by decide +kernel) ?_
          refine lv_goto (tgt := 91) S.1 S.2.1 d_K_isOfType_87 rfl ?_
          exact fk_zret S hr hlk E G rfl (fk_b1 (by unfold fk_it; rw [if_neg hc1, if_neg hns]; exact decide_eq_true (Or.inr hc4))) (fk_bz _) d_K_isOfType_91
    · have hns := of_decide_eq_true (fk_bt hc2)
      have hw := hok.2.2.2 (by omega)
      have hd2 := fk_hd2 (k := bf i) (by omega)
      have hlen := hok.2.2.1
      refine lv_aload_n S.1 S.2.1 d_K_isOfType_44 rfl (lv_at hl 1 rfl) ?_
      refine fk_gf S E G 79 (by decide) (v := .ref (fk_a g 1)) (congrArg (fk_ce g ov 79 (M 79)) kd_79) rfl 0 (by decide) rfl i_156 rfl d_K_isOfType_45 ?_
      refine lv_aload_n S.1 S.2.1 d_K_isOfType_48 rfl (lv_at hl 2 rfl) ?_
      refine lv_iload_n S.1 S.2.1 d_K_isOfType_49 rfl (lv_at hl 3 rfl) ?_
      refine fk_cni S E G x (by have := fk_Xlt hX; omega) (congrArg (fk_ce g ov x (M x)) (fk_kx0 hX)) rfl (rest := [.ref (fk_a g 1)]) (hb (i + 1) (by omega) ▸ c_E_named l g ov M x hX i (by omega)) m_E_named (List.mem_of_getElem? (i := 18) rfl) ⟨rfl, rfl⟩ ⟨by decide, by decide⟩ rfl rfl hl.1 (Nat.le_of_ble_eq_true rfl) d_K_isOfType_50 ⟨Nat.zero_le _, Nat.zero_le _⟩ (fun H locs G => ?_)
      refine fk_cni S E G 1 (by decide) (congrArg (fk_ce g ov 1 (M 1)) kd_1) rfl (rest := []) (c_N_typeOf l g ov M (bf (i + 1)) (by omega)) m_N_typeOf (List.mem_of_getElem? (i := 16) rfl) ⟨rfl, rfl⟩ ⟨by decide, by decide⟩ rfl rfl hl.1 (Nat.le_of_ble_eq_true rfl) d_K_isOfType_53 ⟨Nat.zero_le _, Nat.zero_le _⟩ (fun H locs G => ?_)
      refine lv_iconst (v := nI 1) S.1 S.2.1 d_K_isOfType_56 (by decide +kernel) ?_
      refine fk_cne (tgt := 64) S.1 S.2.1 (fk_ty1_le _ _) (by omega) d_K_isOfType_57 rfl (fun hc5 => ?_) (fun hc5 => ?_)
      · refine lv_iconst (v := nI 0) S.1 S.2.1 d_K_isOfType_64 (by decide +kernel) ?_
        exact fk_zret S hr hlk E G rfl (fk_b0 (by unfold fk_it; rw [if_neg hc1, if_pos hns]; exact decide_eq_false hc5)) (fk_bz _) d_K_isOfType_65
      · refine lv_iconst (v := nI 1) S.1 S.2.1 d_K_isOfType_60 (by decide +kernel) ?_
        refine lv_goto (tgt := 65) S.1 S.2.1 d_K_isOfType_61 rfl ?_
        exact fk_zret S hr hlk E G rfl (fk_b1 (by unfold fk_it; rw [if_neg hc1, if_pos hns]; exact decide_eq_true hc5)) (fk_bz _) d_K_isOfType_65
  · have hw := hok.2.2.2 (by omega)
    have hd2 := fk_hd2 (k := bf i) (by omega)
    have hlen := hok.2.2.1
    refine lv_aload_n S.1 S.2.1 d_K_isOfType_14 rfl (lv_at hl 1 rfl) ?_
    refine fk_gf S E G 79 (by decide) (v := .ref (fk_a g 1)) (congrArg (fk_ce g ov 79 (M 79)) kd_79) rfl 0 (by decide) rfl i_156 rfl d_K_isOfType_15 ?_
    refine lv_aload_n S.1 S.2.1 d_K_isOfType_18 rfl (lv_at hl 2 rfl) ?_
    refine lv_iload_n S.1 S.2.1 d_K_isOfType_19 rfl (lv_at hl 3 rfl) ?_
    refine fk_cni S E G x (by have := fk_Xlt hX; omega) (congrArg (fk_ce g ov x (M x)) (fk_kx0 hX)) rfl (rest := [.ref (fk_a g 1)]) (hb (i + 1) (by omega) ▸ c_E_named l g ov M x hX i (by omega)) m_E_named (List.mem_of_getElem? (i := 18) rfl) ⟨rfl, rfl⟩ ⟨by decide, by decide⟩ rfl rfl hl.1 (Nat.le_of_ble_eq_true rfl) d_K_isOfType_20 ⟨Nat.zero_le _, Nat.zero_le _⟩ (fun H locs G => ?_)
    refine fk_cni S E G 1 (by decide) (congrArg (fk_ce g ov 1 (M 1)) kd_1) rfl (rest := []) (c_N_typeOf l g ov M (bf (i + 1)) (by omega)) m_N_typeOf (List.mem_of_getElem? (i := 16) rfl) ⟨rfl, rfl⟩ ⟨by decide, by decide⟩ rfl rfl hl.1 (Nat.le_of_ble_eq_true rfl) d_K_isOfType_23 ⟨Nat.zero_le _, Nat.zero_le _⟩ (fun H locs G => ?_)
    refine lv_iload_n S.1 S.2.1 d_K_isOfType_26 rfl (lv_at hl 4 rfl) ?_
    refine lv_icmp_ne (tgt := 34) S.1 S.2.1 d_K_isOfType_27 rfl (fun hc6 => ?_) (fun hc6 => ?_)
    · refine lv_iconst (v := nI 0) S.1 S.2.1 d_K_isOfType_34 (by decide +kernel) ?_
      exact fk_zret S hr hlk E G rfl (fk_b0 (by unfold fk_it; rw [if_pos hc1]; exact decide_eq_false hc6)) (fk_bz _) d_K_isOfType_35
    · refine lv_iconst (v := nI 1) S.1 S.2.1 d_K_isOfType_30 (by decide +kernel) ?_
      refine lv_goto (tgt := 35) S.1 S.2.1 d_K_isOfType_31 rfl ?_
      exact fk_zret S hr hlk E G rfl (fk_b1 (by unfold fk_it; rw [if_pos hc1]; exact decide_eq_true hc6)) (fk_bz _) d_K_isOfType_35
theorem d_K_wantTypesOfParts_0 : decode b_K_wantTypesOfParts 0 = .ok (.aload_n 1, 1) := by decide +kernel
theorem d_K_wantTypesOfParts_1 : decode b_K_wantTypesOfParts 1 = .ok (.getfield 117, 3) := by decide +kernel
theorem d_K_wantTypesOfParts_4 : decode b_K_wantTypesOfParts 4 = .ok (.iload_n 2, 1) := by decide +kernel
theorem d_K_wantTypesOfParts_5 : decode b_K_wantTypesOfParts 5 = .ok (.iaload, 1) := by decide +kernel
theorem d_K_wantTypesOfParts_6 : decode b_K_wantTypesOfParts 6 = .ok (.istore_n 3, 1) := by decide +kernel
theorem d_K_wantTypesOfParts_7 : decode b_K_wantTypesOfParts 7 = .ok (.getstatic 129, 3) := by decide +kernel
theorem d_K_wantTypesOfParts_10 : decode b_K_wantTypesOfParts 10 = .ok (.iload_n 3, 1) := by decide +kernel
theorem d_K_wantTypesOfParts_11 : decode b_K_wantTypesOfParts 11 = .ok (.iaload, 1) := by decide +kernel
theorem d_K_wantTypesOfParts_12 : decode b_K_wantTypesOfParts 12 = .ok (.iconst 2, 1) := by decide +kernel
theorem d_K_wantTypesOfParts_13 : decode b_K_wantTypesOfParts 13 = .ok (.if_icmp .ne 12, 3) := by decide +kernel
theorem d_K_wantTypesOfParts_16 : decode b_K_wantTypesOfParts 16 = .ok (.aload_n 0, 1) := by decide +kernel
theorem d_K_wantTypesOfParts_17 : decode b_K_wantTypesOfParts 17 = .ok (.getfield 9, 3) := by decide +kernel
theorem d_K_wantTypesOfParts_20 : decode b_K_wantTypesOfParts 20 = .ok (.iload_n 2, 1) := by decide +kernel
theorem d_K_wantTypesOfParts_21 : decode b_K_wantTypesOfParts 21 = .ok (.iaload, 1) := by decide +kernel
theorem d_K_wantTypesOfParts_22 : decode b_K_wantTypesOfParts 22 = .ok (.goto 8, 3) := by decide +kernel
theorem d_K_wantTypesOfParts_25 : decode b_K_wantTypesOfParts 25 = .ok (.getstatic 129, 3) := by decide +kernel
theorem d_K_wantTypesOfParts_28 : decode b_K_wantTypesOfParts 28 = .ok (.iload_n 3, 1) := by decide +kernel
theorem d_K_wantTypesOfParts_29 : decode b_K_wantTypesOfParts 29 = .ok (.iaload, 1) := by decide +kernel
theorem d_K_wantTypesOfParts_30 : decode b_K_wantTypesOfParts 30 = .ok (.istore 4, 2) := by decide +kernel
theorem d_K_wantTypesOfParts_32 : decode b_K_wantTypesOfParts 32 = .ok (.aload_n 1, 1) := by decide +kernel
theorem d_K_wantTypesOfParts_33 : decode b_K_wantTypesOfParts 33 = .ok (.iload_n 2, 1) := by decide +kernel
theorem d_K_wantTypesOfParts_34 : decode b_K_wantTypesOfParts 34 = .ok (.invokevirtual 132, 3) := by decide +kernel
theorem d_K_wantTypesOfParts_37 : decode b_K_wantTypesOfParts 37 = .ok (.istore 5, 2) := by decide +kernel
theorem d_K_wantTypesOfParts_39 : decode b_K_wantTypesOfParts 39 = .ok (.iconst 0, 1) := by decide +kernel
theorem d_K_wantTypesOfParts_40 : decode b_K_wantTypesOfParts 40 = .ok (.istore 6, 2) := by decide +kernel
theorem d_K_wantTypesOfParts_42 : decode b_K_wantTypesOfParts 42 = .ok (.iload 6, 2) := by decide +kernel
theorem d_K_wantTypesOfParts_44 : decode b_K_wantTypesOfParts 44 = .ok (.getstatic 135, 3) := by decide +kernel
theorem d_K_wantTypesOfParts_47 : decode b_K_wantTypesOfParts 47 = .ok (.iload_n 3, 1) := by decide +kernel
theorem d_K_wantTypesOfParts_48 : decode b_K_wantTypesOfParts 48 = .ok (.iaload, 1) := by decide +kernel
theorem d_K_wantTypesOfParts_49 : decode b_K_wantTypesOfParts 49 = .ok (.if_icmp .ge 42, 3) := by decide +kernel
theorem d_K_wantTypesOfParts_52 : decode b_K_wantTypesOfParts 52 = .ok (.aload_n 0, 1) := by decide +kernel
theorem d_K_wantTypesOfParts_53 : decode b_K_wantTypesOfParts 53 = .ok (.getfield 9, 3) := by decide +kernel
theorem d_K_wantTypesOfParts_56 : decode b_K_wantTypesOfParts 56 = .ok (.iload 5, 2) := by decide +kernel
theorem d_K_wantTypesOfParts_58 : decode b_K_wantTypesOfParts 58 = .ok (.iload_n 3, 1) := by decide +kernel
theorem d_K_wantTypesOfParts_59 : decode b_K_wantTypesOfParts 59 = .ok (.bipush 13, 2) := by decide +kernel
theorem d_K_wantTypesOfParts_61 : decode b_K_wantTypesOfParts 61 = .ok (.if_icmp .ne 12, 3) := by decide +kernel
theorem d_K_wantTypesOfParts_64 : decode b_K_wantTypesOfParts 64 = .ok (.iload 6, 2) := by decide +kernel
theorem d_K_wantTypesOfParts_66 : decode b_K_wantTypesOfParts 66 = .ok (.ifCond .ne 7, 3) := by decide +kernel
theorem d_K_wantTypesOfParts_69 : decode b_K_wantTypesOfParts 69 = .ok (.iconst 1, 1) := by decide +kernel
theorem d_K_wantTypesOfParts_70 : decode b_K_wantTypesOfParts 70 = .ok (.goto 5, 3) := by decide +kernel
theorem d_K_wantTypesOfParts_73 : decode b_K_wantTypesOfParts 73 = .ok (.iload 4, 2) := by decide +kernel
theorem d_K_wantTypesOfParts_75 : decode b_K_wantTypesOfParts 75 = .ok (.iastore, 1) := by decide +kernel
theorem d_K_wantTypesOfParts_76 : decode b_K_wantTypesOfParts 76 = .ok (.aload_n 1, 1) := by decide +kernel
theorem d_K_wantTypesOfParts_77 : decode b_K_wantTypesOfParts 77 = .ok (.getfield 138, 3) := by decide +kernel
theorem d_K_wantTypesOfParts_80 : decode b_K_wantTypesOfParts 80 = .ok (.iload 5, 2) := by decide +kernel
theorem d_K_wantTypesOfParts_82 : decode b_K_wantTypesOfParts 82 = .ok (.iaload, 1) := by decide +kernel
theorem d_K_wantTypesOfParts_83 : decode b_K_wantTypesOfParts 83 = .ok (.istore 5, 2) := by decide +kernel
theorem d_K_wantTypesOfParts_85 : decode b_K_wantTypesOfParts 85 = .ok (.iinc 6 1, 3) := by decide +kernel
theorem d_K_wantTypesOfParts_88 : decode b_K_wantTypesOfParts 88 = .ok (.goto (-46), 3) := by decide +kernel
theorem d_K_wantTypesOfParts_91 : decode b_K_wantTypesOfParts 91 = .ok (.return_, 1) := by decide +kernel
theorem m_K_wantTypesOfParts : fk_MI y_K_wantTypesOfParts b_K_wantTypesOfParts 7 none 2 := ⟨i_298, i_297, fk_mp (q := (y_K_wantTypesOfParts, 7)) (by decide +kernel), i_6, by decide +kernel⟩
set_option maxHeartbeats 4000000 in
set_option maxRecDepth 100000 in
theorem c_K_wantTypesOfParts (l : Launch) (g : fk_G) (ov : Int64) (M : fk_M) (x : Nat) (hX : fk_X x) (bf : Nat → Nat) (n cnt : Nat) (hn40 : n ≤ 40) (h12 : cnt ≤ 12) (hb : ∀ j, j < n → M (x + 1) j = nI (bf j)) (i : Nat) (hok : fk_ok bf n cnt i) (r ee : Nat) (hts : fk_Ts (fk_T bf n cnt (M (x + 2)) r) (fk_ar (bf i)) (i + fk_hd (bf i)) ee) : fk_CV l y_K_wantTypesOfParts b_K_wantTypesOfParts 7 (fk_rm 1) g ov M (va_up M 80 (fk_wt (M (x + 2)) (bf i) (fk_wv (bf i) (M 80 i)) (fk_ar (bf i)) 0 (i + fk_hd (bf i)) (M 80))) [.ref (fk_a g 79), .ref (fk_a g x), .int (nI i)] := by
  refine fk_ofV rfl (Nat.le_of_ble_eq_true rfl) ?_
  intro p e s m args below meth c ls S hr hlk E G hl
  have hl : lv_has ls 7 [(0, .ref (fk_a g 79)), (1, .ref (fk_a g x)), (2, .int (nI i))] := hl
  have hok2 := hok.2.1
  have hi := hok.1
  have har := fk_ar_le (bf i)
  have hpt := fk_pt_le (bf i)
  have loop : ∀ (d : Nat) (q y : Nat) (A : Nat → Int32) (H : Heap) (locs : List Loc) (ls : Array Slot), q + d = fk_ar (bf i) → fk_Ts (fk_T bf n cnt (M (x + 2)) r) d y ee → va_up M 80 (fk_wt (M (x + 2)) (bf i) (fk_wv (bf i) (M 80 i)) d q y A) = va_up M 80 (fk_wt (M (x + 2)) (bf i) (fk_wv (bf i) (M 80 i)) (fk_ar (bf i)) 0 (i + fk_hd (bf i)) (M 80)) → fk_H g ov (va_up M 80 A) s H locs → lv_has ls 7 [(6, .int (nI q)), (5, .int (nI y)), (4, .int (fk_wv (bf i) (M 80 i))), (3, .int (nI (bf i))), (0, .ref (fk_a g 79)), (1, .ref (fk_a g x)), (2, .int (nI i))] → W p l e (fk_rm (1)) s m args below meth c H locs 0 0 (MQ below (va_Qv (fun (_ : Unit) => True) (fun _ t9 => fk_Wd g ov (va_up M 80 (fk_wt (M (x + 2)) (bf i) (fk_wv (bf i) (M 80 i)) (fk_ar (bf i)) 0 (i + fk_hd (bf i)) (M 80))) t9) (fk_A g)) args s 0 0 (fk_A g)) (F0 m 42 ls []) := by
    intro d
    induction d with
    | zero =>
      intro q y A H locs ls hv0 hv1 hv2 G hl
      obtain ⟨M1, hM1⟩ : ∃ z : fk_M, z = va_up M 80 A := ⟨_, rfl⟩
      rw [← hM1] at G
      have ex : ∀ k, k ≠ 80 → M1 k = M k := fun k hk => by rw [hM1, va_up_ne _ _ hk]
      have exl := fk_Xlt hX
      refine lv_iload S.1 S.2.1 d_K_wantTypesOfParts_42 (lv_at hl 0 rfl) ?_
      refine fk_gsn S E G 1 (by decide) (List.mem_of_getElem? (i := 52) rfl) d_K_wantTypesOfParts_44 ?_
      refine lv_iload_n S.1 S.2.1 d_K_wantTypesOfParts_47 rfl (lv_at hl 3 rfl) ?_
      refine fk_ti S E G 1 (by decide) (bf i) rfl (by omega) (v := nI (fk_ar (bf i))) (fk_tv1 _ (by omega)) d_K_wantTypesOfParts_48 ?_
      refine fk_cge (tgt := 91) S.1 S.2.1 (by omega) (by omega) d_K_wantTypesOfParts_49 rfl (fun hc1 => ?_) (fun hc1 => ?_)
      · exact fk_vret S hr hlk E G (by rw [hM1, ← hv2]; rfl) d_K_wantTypesOfParts_91
      · exact absurd hv0 (by omega)
    | succ d ih =>
      intro q y A H locs ls hv0 hv1 hv2 G hl
      obtain ⟨M1, hM1⟩ : ∃ z : fk_M, z = va_up M 80 A := ⟨_, rfl⟩
      rw [← hM1] at G
      have ex : ∀ k, k ≠ 80 → M1 k = M k := fun k hk => by rw [hM1, va_up_ne _ _ hk]
      have exl := fk_Xlt hX
      refine lv_iload S.1 S.2.1 d_K_wantTypesOfParts_42 (lv_at hl 0 rfl) ?_
      refine fk_gsn S E G 1 (by decide) (List.mem_of_getElem? (i := 52) rfl) d_K_wantTypesOfParts_44 ?_
      refine lv_iload_n S.1 S.2.1 d_K_wantTypesOfParts_47 rfl (lv_at hl 3 rfl) ?_
      refine fk_ti S E G 1 (by decide) (bf i) rfl (by omega) (v := nI (fk_ar (bf i))) (fk_tv1 _ (by omega)) d_K_wantTypesOfParts_48 ?_
      refine fk_cge (tgt := 91) S.1 S.2.1 (by omega) (by omega) d_K_wantTypesOfParts_49 rfl (fun hc2 => ?_) (fun hc2 => ?_)
      · exact absurd hv0 (by omega)
      · obtain ⟨y2, t1, hts2⟩ := hv1
        have l1 := fk_T_lt _ _ _ t1
        have hEy := fk_T_E t1
        have hxr := fk_Xr (t := 2) hX (by decide)
        have hx2 : M1 (x + 2) = M (x + 2) := ex _ (by omega)
        have h80 : M1 80 = A := by rw [hM1, va_up_self]
        refine lv_aload_n S.1 S.2.1 d_K_wantTypesOfParts_52 rfl (lv_at hl 4 rfl) ?_
        refine fk_gf S E G 79 (by decide) (v := .ref (fk_a g 80)) (congrArg (fk_ce g ov 79 (M1 79)) kd_79) rfl 2 (by decide) rfl i_158 rfl d_K_wantTypesOfParts_53 ?_
        refine lv_iload S.1 S.2.1 d_K_wantTypesOfParts_56 (lv_at hl 1 rfl) ?_
        refine lv_iload_n S.1 S.2.1 d_K_wantTypesOfParts_58 rfl (lv_at hl 3 rfl) ?_
        refine lv_bipush (v := nI 13) S.1 S.2.1 d_K_wantTypesOfParts_59 (by decide +kernel) ?_
        refine fk_cne (tgt := 73) S.1 S.2.1 (by omega) (by omega) d_K_wantTypesOfParts_61 rfl (fun hc3 => ?_) (fun hc3 => ?_)
        · refine lv_iload S.1 S.2.1 d_K_wantTypesOfParts_73 (lv_at hl 2 rfl) ?_
          refine fk_is S E G 80 (by decide) (fun r => congrArg (fk_ce g ov 80 r) kd_80) y rfl (by omega) (by decide) d_K_wantTypesOfParts_75 (fun H locs G => ?_)
          obtain ⟨M4, hM4⟩ : ∃ z : fk_M, z = va_up M1 80 (upd (M1 80) y (fk_wv (bf i) (M 80 i))) := ⟨_, rfl⟩
          rw [← hM4] at G
          have hx3 : M4 (x + 2) = M (x + 2) := by rw [hM4, va_up_ne _ _ (by omega), hx2]
          refine lv_aload_n S.1 S.2.1 d_K_wantTypesOfParts_76 rfl (lv_at hl 5 rfl) ?_
          refine fk_gn S E G x (by have := fk_Xlt hX; omega) (v := .ref (fk_a g (x + 2))) (congrArg (fk_ce g ov x (M4 x)) (fk_kx0 hX)) rfl 1 (by decide) rfl (List.mem_of_getElem? (i := 4) rfl) rfl d_K_wantTypesOfParts_77 ?_
          refine lv_iload S.1 S.2.1 d_K_wantTypesOfParts_80 (lv_at hl 1 rfl) ?_
          refine fk_ia S E G (x + 2) (by have := fk_Xlt hX; omega) (congrArg (fk_ce g ov (x + 2) (M4 (x + 2))) (fk_kx2 hX)) y rfl (by omega) (by decide) (v := nI y2) (by rw [hx3]; exact hEy) d_K_wantTypesOfParts_82 ?_
          refine lv_istore (lv' := [(5, .int (nI y2)), (6, .int (nI q)), (4, .int (fk_wv (bf i) (M 80 i))), (3, .int (nI (bf i))), (0, .ref (fk_a g 79)), (1, .ref (fk_a g x)), (2, .int (nI i))]) S.1 S.2.1 d_K_wantTypesOfParts_83 hl (by decide) rfl (fun ls hl => ?_)
          refine lv_iinc (k := 1) (v := nI (q + 1)) (lv' := [(6, .int (nI (q + 1))), (5, .int (nI y2)), (4, .int (fk_wv (bf i) (M 80 i))), (3, .int (nI (bf i))), (0, .ref (fk_a g 79)), (1, .ref (fk_a g x)), (2, .int (nI i))]) S.1 S.2.1 d_K_wantTypesOfParts_85 hl rfl (nI_1 q) (by decide) rfl (fun ls hl => ?_)
          refine lv_goto (tgt := 42) S.1 S.2.1 d_K_wantTypesOfParts_88 rfl ?_
          refine ih (q + 1) y2 (upd A y (if bf i = 13 ∧ q = 0 then nI 1 else fk_wv (bf i) (M 80 i))) H locs ls (by omega) hts2 (by rw [← hv2]; show _ = va_up M 80 (fk_wt _ _ _ d (q + 1) (M (x + 2) y).toNatClampNeg _); rw [hEy, nI_clamp (by omega)]) ?_ (lv_sub hl [0, 1, 2, 3, 4, 5, 6] rfl)
          rw [hM4, h80, hM1, bx_uu] at G
          rw [if_neg (fun z => hc3 z.1)]
          exact G
        · refine lv_iload S.1 S.2.1 d_K_wantTypesOfParts_64 (lv_at hl 0 rfl) ?_
          refine fk_zne (tgt := 73) S.1 S.2.1 (by omega) d_K_wantTypesOfParts_66 rfl (fun hc5 => ?_) (fun hc5 => ?_)
          · refine lv_iload S.1 S.2.1 d_K_wantTypesOfParts_73 (lv_at hl 2 rfl) ?_
            refine fk_is S E G 80 (by decide) (fun r => congrArg (fk_ce g ov 80 r) kd_80) y rfl (by omega) (by decide) d_K_wantTypesOfParts_75 (fun H locs G => ?_)
            obtain ⟨M6, hM6⟩ : ∃ z : fk_M, z = va_up M1 80 (upd (M1 80) y (fk_wv (bf i) (M 80 i))) := ⟨_, rfl⟩
            rw [← hM6] at G
            have hx3 : M6 (x + 2) = M (x + 2) := by rw [hM6, va_up_ne _ _ (by omega), hx2]
            refine lv_aload_n S.1 S.2.1 d_K_wantTypesOfParts_76 rfl (lv_at hl 5 rfl) ?_
            refine fk_gn S E G x (by have := fk_Xlt hX; omega) (v := .ref (fk_a g (x + 2))) (congrArg (fk_ce g ov x (M6 x)) (fk_kx0 hX)) rfl 1 (by decide) rfl (List.mem_of_getElem? (i := 4) rfl) rfl d_K_wantTypesOfParts_77 ?_
            refine lv_iload S.1 S.2.1 d_K_wantTypesOfParts_80 (lv_at hl 1 rfl) ?_
            refine fk_ia S E G (x + 2) (by have := fk_Xlt hX; omega) (congrArg (fk_ce g ov (x + 2) (M6 (x + 2))) (fk_kx2 hX)) y rfl (by omega) (by decide) (v := nI y2) (by rw [hx3]; exact hEy) d_K_wantTypesOfParts_82 ?_
            refine lv_istore (lv' := [(5, .int (nI y2)), (6, .int (nI q)), (4, .int (fk_wv (bf i) (M 80 i))), (3, .int (nI (bf i))), (0, .ref (fk_a g 79)), (1, .ref (fk_a g x)), (2, .int (nI i))]) S.1 S.2.1 d_K_wantTypesOfParts_83 hl (by decide) rfl (fun ls hl => ?_)
            refine lv_iinc (k := 1) (v := nI (q + 1)) (lv' := [(6, .int (nI (q + 1))), (5, .int (nI y2)), (4, .int (fk_wv (bf i) (M 80 i))), (3, .int (nI (bf i))), (0, .ref (fk_a g 79)), (1, .ref (fk_a g x)), (2, .int (nI i))]) S.1 S.2.1 d_K_wantTypesOfParts_85 hl rfl (nI_1 q) (by decide) rfl (fun ls hl => ?_)
            refine lv_goto (tgt := 42) S.1 S.2.1 d_K_wantTypesOfParts_88 rfl ?_
            refine ih (q + 1) y2 (upd A y (if bf i = 13 ∧ q = 0 then nI 1 else fk_wv (bf i) (M 80 i))) H locs ls (by omega) hts2 (by rw [← hv2]; show _ = va_up M 80 (fk_wt _ _ _ d (q + 1) (M (x + 2) y).toNatClampNeg _); rw [hEy, nI_clamp (by omega)]) ?_ (lv_sub hl [0, 1, 2, 3, 4, 5, 6] rfl)
            rw [hM6, h80, hM1, bx_uu] at G
            rw [if_neg (fun z => by omega)]
            exact G
          · refine lv_iconst (v := nI 1) S.1 S.2.1 d_K_wantTypesOfParts_69 (by decide +kernel) ?_
            refine lv_goto (tgt := 75) S.1 S.2.1 d_K_wantTypesOfParts_70 rfl ?_
            refine fk_is S E G 80 (by decide) (fun r => congrArg (fk_ce g ov 80 r) kd_80) y rfl (by omega) (by decide) d_K_wantTypesOfParts_75 (fun H locs G => ?_)
            obtain ⟨M7, hM7⟩ : ∃ z : fk_M, z = va_up M1 80 (upd (M1 80) y (nI 1)) := ⟨_, rfl⟩
            rw [← hM7] at G
            have hx3 : M7 (x + 2) = M (x + 2) := by rw [hM7, va_up_ne _ _ (by omega), hx2]
            refine lv_aload_n S.1 S.2.1 d_K_wantTypesOfParts_76 rfl (lv_at hl 5 rfl) ?_
            refine fk_gn S E G x (by have := fk_Xlt hX; omega) (v := .ref (fk_a g (x + 2))) (congrArg (fk_ce g ov x (M7 x)) (fk_kx0 hX)) rfl 1 (by decide) rfl (List.mem_of_getElem? (i := 4) rfl) rfl d_K_wantTypesOfParts_77 ?_
            refine lv_iload S.1 S.2.1 d_K_wantTypesOfParts_80 (lv_at hl 1 rfl) ?_
            refine fk_ia S E G (x + 2) (by have := fk_Xlt hX; omega) (congrArg (fk_ce g ov (x + 2) (M7 (x + 2))) (fk_kx2 hX)) y rfl (by omega) (by decide) (v := nI y2) (by rw [hx3]; exact hEy) d_K_wantTypesOfParts_82 ?_
            refine lv_istore (lv' := [(5, .int (nI y2)), (6, .int (nI q)), (4, .int (fk_wv (bf i) (M 80 i))), (3, .int (nI (bf i))), (0, .ref (fk_a g 79)), (1, .ref (fk_a g x)), (2, .int (nI i))]) S.1 S.2.1 d_K_wantTypesOfParts_83 hl (by decide) rfl (fun ls hl => ?_)
            refine lv_iinc (k := 1) (v := nI (q + 1)) (lv' := [(6, .int (nI (q + 1))), (5, .int (nI y2)), (4, .int (fk_wv (bf i) (M 80 i))), (3, .int (nI (bf i))), (0, .ref (fk_a g 79)), (1, .ref (fk_a g x)), (2, .int (nI i))]) S.1 S.2.1 d_K_wantTypesOfParts_85 hl rfl (nI_1 q) (by decide) rfl (fun ls hl => ?_)
            refine lv_goto (tgt := 42) S.1 S.2.1 d_K_wantTypesOfParts_88 rfl ?_
            refine ih (q + 1) y2 (upd A y (if bf i = 13 ∧ q = 0 then nI 1 else fk_wv (bf i) (M 80 i))) H locs ls (by omega) hts2 (by rw [← hv2]; show _ = va_up M 80 (fk_wt _ _ _ d (q + 1) (M (x + 2) y).toNatClampNeg _); rw [hEy, nI_clamp (by omega)]) ?_ (lv_sub hl [0, 1, 2, 3, 4, 5, 6] rfl)
            rw [hM7, h80, hM1, bx_uu] at G
            rw [if_pos ⟨hc3, hc5⟩]
            exact G
  refine lv_aload_n S.1 S.2.1 d_K_wantTypesOfParts_0 rfl (lv_at hl 1 rfl) ?_
  refine fk_gn S E G x (by have := fk_Xlt hX; omega) (v := .ref (fk_a g (x + 1))) (congrArg (fk_ce g ov x (M x)) (fk_kx0 hX)) rfl 0 (by decide) rfl (List.mem_of_getElem? (i := 1) rfl) rfl d_K_wantTypesOfParts_1 ?_
  refine lv_iload_n S.1 S.2.1 d_K_wantTypesOfParts_4 rfl (lv_at hl 2 rfl) ?_
  refine fk_ia S E G (x + 1) (by have := fk_Xlt hX; omega) (congrArg (fk_ce g ov (x + 1) (M (x + 1))) (fk_kx1 hX)) i rfl (by omega) (by decide) (v := nI (bf i)) (hb i hi) d_K_wantTypesOfParts_5 ?_
  refine lv_istore_n (lv' := [(3, .int (nI (bf i))), (0, .ref (fk_a g 79)), (1, .ref (fk_a g x)), (2, .int (nI i))]) S.1 S.2.1 d_K_wantTypesOfParts_6 rfl hl (by decide) rfl (fun ls hl => ?_)
  refine fk_gsn S E G 3 (by decide) (List.mem_of_getElem? (i := 50) rfl) d_K_wantTypesOfParts_7 ?_
  refine lv_iload_n S.1 S.2.1 d_K_wantTypesOfParts_10 rfl (lv_at hl 0 rfl) ?_
  refine fk_ti S E G 3 (by decide) (bf i) rfl (by omega) (v := nI (fk_pt (bf i))) (fk_tv3 _ (by omega)) d_K_wantTypesOfParts_11 ?_
  refine lv_iconst (v := nI 2) S.1 S.2.1 d_K_wantTypesOfParts_12 (by decide +kernel) ?_
  refine fk_cne (tgt := 25) S.1 S.2.1 (by omega) (by omega) d_K_wantTypesOfParts_13 rfl (fun hc8 => ?_) (fun hc8 => ?_)
  · refine fk_gsn S E G 3 (by decide) (List.mem_of_getElem? (i := 50) rfl) d_K_wantTypesOfParts_25 ?_
    refine lv_iload_n S.1 S.2.1 d_K_wantTypesOfParts_28 rfl (lv_at hl 0 rfl) ?_
    refine fk_ti S E G 3 (by decide) (bf i) rfl (by omega) (v := nI (fk_pt (bf i))) (fk_tv3 _ (by omega)) d_K_wantTypesOfParts_29 ?_
    refine lv_istore (lv' := [(4, .int (nI (fk_pt (bf i)))), (3, .int (nI (bf i))), (0, .ref (fk_a g 79)), (1, .ref (fk_a g x)), (2, .int (nI i))]) S.1 S.2.1 d_K_wantTypesOfParts_30 hl (by decide) rfl (fun ls hl => ?_)
    refine lv_aload_n S.1 S.2.1 d_K_wantTypesOfParts_32 rfl (lv_at hl 3 rfl) ?_
    refine lv_iload_n S.1 S.2.1 d_K_wantTypesOfParts_33 rfl (lv_at hl 4 rfl) ?_
    refine fk_cni S E G x (by have := fk_Xlt hX; omega) (congrArg (fk_ce g ov x (M x)) (fk_kx0 hX)) rfl (rest := []) (c_E_firstPart l g ov M x hX i (bf i) (by omega) (by omega) (hb i hi)) m_E_firstPart (List.mem_of_getElem? (i := 20) rfl) ⟨rfl, rfl⟩ ⟨by decide, by decide⟩ rfl rfl hl.1 (Nat.le_of_ble_eq_true rfl) d_K_wantTypesOfParts_34 ⟨Nat.zero_le _, Nat.zero_le _⟩ (fun H locs G => ?_)
    refine lv_istore (lv' := [(5, .int (nI (i + fk_hd (bf i)))), (4, .int (nI (fk_pt (bf i)))), (3, .int (nI (bf i))), (0, .ref (fk_a g 79)), (1, .ref (fk_a g x)), (2, .int (nI i))]) S.1 S.2.1 d_K_wantTypesOfParts_37 hl (by decide) rfl (fun ls hl => ?_)
    refine lv_iconst (v := nI 0) S.1 S.2.1 d_K_wantTypesOfParts_39 (by decide +kernel) ?_
    refine lv_istore (lv' := [(6, .int (nI 0)), (5, .int (nI (i + fk_hd (bf i)))), (4, .int (nI (fk_pt (bf i)))), (3, .int (nI (bf i))), (0, .ref (fk_a g 79)), (1, .ref (fk_a g x)), (2, .int (nI i))]) S.1 S.2.1 d_K_wantTypesOfParts_40 hl (by decide) rfl (fun ls hl => ?_)
    refine loop (fk_ar (bf i)) 0 (i + fk_hd (bf i)) (M 80) H locs ls (by omega) hts rfl (by rw [fk_upid]; exact G) ?_
    rw [show fk_wv (bf i) (M 80 i) = nI (fk_pt (bf i)) from if_neg hc8]
    exact hl
  · refine lv_aload_n S.1 S.2.1 d_K_wantTypesOfParts_16 rfl (lv_at hl 1 rfl) ?_
    refine fk_gf S E G 79 (by decide) (v := .ref (fk_a g 80)) (congrArg (fk_ce g ov 79 (M 79)) kd_79) rfl 2 (by decide) rfl i_158 rfl d_K_wantTypesOfParts_17 ?_
    refine lv_iload_n S.1 S.2.1 d_K_wantTypesOfParts_20 rfl (lv_at hl 3 rfl) ?_
    refine fk_ia S E G 80 (by decide) (congrArg (fk_ce g ov 80 (M 80)) kd_80) i rfl (by omega) (by decide) (v := M 80 i) rfl d_K_wantTypesOfParts_21 ?_
    refine lv_goto (tgt := 30) S.1 S.2.1 d_K_wantTypesOfParts_22 rfl ?_
    refine lv_istore (lv' := [(4, .int (M 80 i)), (3, .int (nI (bf i))), (0, .ref (fk_a g 79)), (1, .ref (fk_a g x)), (2, .int (nI i))]) S.1 S.2.1 d_K_wantTypesOfParts_30 hl (by decide) rfl (fun ls hl => ?_)
    refine lv_aload_n S.1 S.2.1 d_K_wantTypesOfParts_32 rfl (lv_at hl 3 rfl) ?_
    refine lv_iload_n S.1 S.2.1 d_K_wantTypesOfParts_33 rfl (lv_at hl 4 rfl) ?_
    refine fk_cni S E G x (by have := fk_Xlt hX; omega) (congrArg (fk_ce g ov x (M x)) (fk_kx0 hX)) rfl (rest := []) (c_E_firstPart l g ov M x hX i (bf i) (by omega) (by omega) (hb i hi)) m_E_firstPart (List.mem_of_getElem? (i := 20) rfl) ⟨rfl, rfl⟩ ⟨by decide, by decide⟩ rfl rfl hl.1 (Nat.le_of_ble_eq_true rfl) d_K_wantTypesOfParts_34 ⟨Nat.zero_le _, Nat.zero_le _⟩ (fun H locs G => ?_)
    refine lv_istore (lv' := [(5, .int (nI (i + fk_hd (bf i)))), (4, .int (M 80 i)), (3, .int (nI (bf i))), (0, .ref (fk_a g 79)), (1, .ref (fk_a g x)), (2, .int (nI i))]) S.1 S.2.1 d_K_wantTypesOfParts_37 hl (by decide) rfl (fun ls hl => ?_)
    refine lv_iconst (v := nI 0) S.1 S.2.1 d_K_wantTypesOfParts_39 (by decide +kernel) ?_
    refine lv_istore (lv' := [(6, .int (nI 0)), (5, .int (nI (i + fk_hd (bf i)))), (4, .int (M 80 i)), (3, .int (nI (bf i))), (0, .ref (fk_a g 79)), (1, .ref (fk_a g x)), (2, .int (nI i))]) S.1 S.2.1 d_K_wantTypesOfParts_40 hl (by decide) rfl (fun ls hl => ?_)
    refine loop (fk_ar (bf i)) 0 (i + fk_hd (bf i)) (M 80) H locs ls (by omega) hts rfl (by rw [fk_upid]; exact G) ?_
    rw [show fk_wv (bf i) (M 80 i) = M 80 i from if_pos hc8]
    exact hl
theorem d_K_typeFault_0 : decode b_K_typeFault 0 = .ok (.aload_n 0, 1) := by decide +kernel
theorem d_K_typeFault_1 : decode b_K_typeFault 1 = .ok (.getfield 9, 3) := by decide +kernel
theorem d_K_typeFault_4 : decode b_K_typeFault 4 = .ok (.iconst 0, 1) := by decide +kernel
theorem d_K_typeFault_5 : decode b_K_typeFault 5 = .ok (.iload_n 2, 1) := by decide +kernel
theorem d_K_typeFault_6 : decode b_K_typeFault 6 = .ok (.iastore, 1) := by decide +kernel
theorem d_K_typeFault_7 : decode b_K_typeFault 7 = .ok (.iconst 0, 1) := by decide +kernel
theorem d_K_typeFault_8 : decode b_K_typeFault 8 = .ok (.istore_n 3, 1) := by decide +kernel
theorem d_K_typeFault_9 : decode b_K_typeFault 9 = .ok (.iload_n 3, 1) := by decide +kernel
theorem d_K_typeFault_10 : decode b_K_typeFault 10 = .ok (.aload_n 1, 1) := by decide +kernel
theorem d_K_typeFault_11 : decode b_K_typeFault 11 = .ok (.getfield 101, 3) := by decide +kernel
theorem d_K_typeFault_14 : decode b_K_typeFault 14 = .ok (.if_icmp .ge 43, 3) := by decide +kernel
theorem d_K_typeFault_17 : decode b_K_typeFault 17 = .ok (.aload_n 1, 1) := by decide +kernel
theorem d_K_typeFault_18 : decode b_K_typeFault 18 = .ok (.iload_n 3, 1) := by decide +kernel
theorem d_K_typeFault_19 : decode b_K_typeFault 19 = .ok (.invokevirtual 106, 3) := by decide +kernel
theorem d_K_typeFault_22 : decode b_K_typeFault 22 = .ok (.ifCond .ne 6, 3) := by decide +kernel
theorem d_K_typeFault_25 : decode b_K_typeFault 25 = .ok (.goto 26, 3) := by decide +kernel
theorem d_K_typeFault_28 : decode b_K_typeFault 28 = .ok (.aload_n 0, 1) := by decide +kernel
theorem d_K_typeFault_29 : decode b_K_typeFault 29 = .ok (.aload_n 1, 1) := by decide +kernel
theorem d_K_typeFault_30 : decode b_K_typeFault 30 = .ok (.iload_n 3, 1) := by decide +kernel
theorem d_K_typeFault_31 : decode b_K_typeFault 31 = .ok (.aload_n 0, 1) := by decide +kernel
theorem d_K_typeFault_32 : decode b_K_typeFault 32 = .ok (.getfield 9, 3) := by decide +kernel
theorem d_K_typeFault_35 : decode b_K_typeFault 35 = .ok (.iload_n 3, 1) := by decide +kernel
theorem d_K_typeFault_36 : decode b_K_typeFault 36 = .ok (.iaload, 1) := by decide +kernel
theorem d_K_typeFault_37 : decode b_K_typeFault 37 = .ok (.invokevirtual 109, 3) := by decide +kernel
theorem d_K_typeFault_40 : decode b_K_typeFault 40 = .ok (.ifCond .ne 5, 3) := by decide +kernel
theorem d_K_typeFault_43 : decode b_K_typeFault 43 = .ok (.iload_n 3, 1) := by decide +kernel
theorem d_K_typeFault_44 : decode b_K_typeFault 44 = .ok (.ireturn, 1) := by decide +kernel
theorem d_K_typeFault_45 : decode b_K_typeFault 45 = .ok (.aload_n 0, 1) := by decide +kernel
theorem d_K_typeFault_46 : decode b_K_typeFault 46 = .ok (.aload_n 1, 1) := by decide +kernel
theorem d_K_typeFault_47 : decode b_K_typeFault 47 = .ok (.iload_n 3, 1) := by decide +kernel
theorem d_K_typeFault_48 : decode b_K_typeFault 48 = .ok (.invokevirtual 113, 3) := by decide +kernel
theorem d_K_typeFault_51 : decode b_K_typeFault 51 = .ok (.iinc 3 1, 3) := by decide +kernel
theorem d_K_typeFault_54 : decode b_K_typeFault 54 = .ok (.goto (-45), 3) := by decide +kernel
theorem d_K_typeFault_57 : decode b_K_typeFault 57 = .ok (.iconst (-1), 1) := by decide +kernel
theorem d_K_typeFault_58 : decode b_K_typeFault 58 = .ok (.ireturn, 1) := by decide +kernel
theorem m_K_typeFault : fk_MI y_K_typeFault b_K_typeFault 4 (some .int) 2 := ⟨i_285, i_284, fk_mp (q := (y_K_typeFault, 7)) (by decide +kernel), i_6, by decide +kernel⟩
set_option maxHeartbeats 4000000 in
set_option maxRecDepth 100000 in
theorem c_K_typeFault (l : Launch) (g : fk_G) (ov : Int64) (M : fk_M) (x : Nat) (hX : fk_X x) (bf : Nat → Nat) (n cnt : Nat) (hn40 : n ≤ 40) (h12 : cnt ≤ 12) (hb : ∀ j, j < n → M (x + 1) j = nI (bf j)) (hlen : M x 4 = nI n) (hT : fk_T bf n cnt (M (x + 2)) 11 0 n) (t : Nat) : fk_CI l y_K_typeFault b_K_typeFault 4 (some .int) (fk_rm 2) g ov M (va_up M 80 (fk_tf M bf (M (x + 2)) n 0 (upd (M 80) 0 (nI t))).2) [.ref (fk_a g 79), .ref (fk_a g x), .int (nI t)] (fk_rv (fk_tf M bf (M (x + 2)) n 0 (upd (M 80) 0 (nI t))).1) := by
  refine fk_ofI rfl (Nat.le_of_ble_eq_true rfl) ?_
  intro p e s m args below meth c ls S hr hlk E G hl
  have hl : lv_has ls 4 [(0, .ref (fk_a g 79)), (1, .ref (fk_a g x)), (2, .int (nI t))] := hl
  have loop : ∀ (d : Nat) (i : Nat) (A : Nat → Int32) (H : Heap) (locs : List Loc) (ls : Array Slot), i + d = n → fk_tf M bf (M (x + 2)) d i A = fk_tf M bf (M (x + 2)) n 0 (upd (M 80) 0 (nI t)) → fk_H g ov (va_up M 80 A) s H locs → lv_has ls 4 [(3, .int (nI i)), (0, .ref (fk_a g 79)), (1, .ref (fk_a g x)), (2, .int (nI t))] → W p l e (fk_rm (2)) s m args below meth c H locs 0 0 (MQ below (va_Qi (fun rr (_ : Unit) => rr = fk_rv (fk_tf M bf (M (x + 2)) n 0 (upd (M 80) 0 (nI t))).1) (fun _ t9 => fk_Wd g ov (va_up M 80 (fk_tf M bf (M (x + 2)) n 0 (upd (M 80) 0 (nI t))).2) t9) (fk_A g)) args s 0 0 (fk_A g)) (F0 m 9 ls []) := by
    intro d
    induction d with
    | zero =>
      intro i A H locs ls hv0 hv1 G hl
      obtain ⟨M1, hM1⟩ : ∃ z : fk_M, z = va_up M 80 A := ⟨_, rfl⟩
      rw [← hM1] at G
      have exl := fk_Xlt hX
      have ex : ∀ k, k ≠ 80 → M1 k = M k := fun k hk => by rw [hM1, va_up_ne _ _ hk]
      have h80 : M1 80 = A := by rw [hM1, va_up_self]
      have hx0 : M1 x = M x := ex _ (by rcases hX with h9 | ⟨z, h8, h9⟩ <;> omega)
      have hx1 : M1 (x + 1) = M (x + 1) := ex _ (by rcases hX with h9 | ⟨z, h8, h9⟩ <;> omega)
      have hx2 : M1 (x + 2) = M (x + 2) := ex _ (by rcases hX with h9 | ⟨z, h8, h9⟩ <;> omega)
      refine lv_iload_n S.1 S.2.1 d_K_typeFault_9 rfl (lv_at hl 0 rfl) ?_
      refine lv_aload_n S.1 S.2.1 d_K_typeFault_10 rfl (lv_at hl 2 rfl) ?_
      refine fk_gn S E G x (by have := fk_Xlt hX; omega) (v := .int (M1 x 4)) (congrArg (fk_ce g ov x (M1 x)) (fk_kx0 hX)) rfl 4 (by decide) rfl (List.mem_of_getElem? (i := 11) rfl) rfl d_K_typeFault_11 ?_
      rw [hx0, hlen]
      refine fk_cge (tgt := 57) S.1 S.2.1 (by omega) (by omega) d_K_typeFault_14 rfl (fun hc1 => ?_) (fun hc1 => ?_)
      · refine lv_iconst (v := -1) S.1 S.2.1 d_K_typeFault_57 (by decide +kernel) ?_
        exact fk_iret S hr hlk E G (by rw [hM1, ← hv1]; rfl) (by rw [← hv1]; rfl) d_K_typeFault_58
      · exact absurd hv0 (by omega)
    | succ d ih =>
      intro i A H locs ls hv0 hv1 G hl
      obtain ⟨M1, hM1⟩ : ∃ z : fk_M, z = va_up M 80 A := ⟨_, rfl⟩
      rw [← hM1] at G
      have exl := fk_Xlt hX
      have ex : ∀ k, k ≠ 80 → M1 k = M k := fun k hk => by rw [hM1, va_up_ne _ _ hk]
      have h80 : M1 80 = A := by rw [hM1, va_up_self]
      have hx0 : M1 x = M x := ex _ (by rcases hX with h9 | ⟨z, h8, h9⟩ <;> omega)
      have hx1 : M1 (x + 1) = M (x + 1) := ex _ (by rcases hX with h9 | ⟨z, h8, h9⟩ <;> omega)
      have hx2 : M1 (x + 2) = M (x + 2) := ex _ (by rcases hX with h9 | ⟨z, h8, h9⟩ <;> omega)
      refine lv_iload_n S.1 S.2.1 d_K_typeFault_9 rfl (lv_at hl 0 rfl) ?_
      refine lv_aload_n S.1 S.2.1 d_K_typeFault_10 rfl (lv_at hl 2 rfl) ?_
      refine fk_gn S E G x (by have := fk_Xlt hX; omega) (v := .int (M1 x 4)) (congrArg (fk_ce g ov x (M1 x)) (fk_kx0 hX)) rfl 4 (by decide) rfl (List.mem_of_getElem? (i := 11) rfl) rfl d_K_typeFault_11 ?_
      rw [hx0, hlen]
      refine fk_cge (tgt := 57) S.1 S.2.1 (by omega) (by omega) d_K_typeFault_14 rfl (fun hc2 => ?_) (fun hc2 => ?_)
      · exact absurd hv0 (by omega)
      · refine lv_aload_n S.1 S.2.1 d_K_typeFault_17 rfl (lv_at hl 2 rfl) ?_
        refine lv_iload_n S.1 S.2.1 d_K_typeFault_18 rfl (lv_at hl 0 rfl) ?_
        refine fk_cni S E G x (by have := fk_Xlt hX; omega) (congrArg (fk_ce g ov x (M1 x)) (fk_kx0 hX)) rfl (rest := []) (c_E_beginsAt l g ov M1 x hX i (by omega)) m_E_beginsAt (List.mem_of_getElem? (i := 17) rfl) ⟨rfl, rfl⟩ ⟨by decide, by decide⟩ rfl rfl hl.1 (Nat.le_of_ble_eq_true rfl) d_K_typeFault_19 ⟨Nat.zero_le _, Nat.zero_le _⟩ (fun H locs G => ?_)
        refine fk_zne (tgt := 28) S.1 S.2.1 (fk_bl _) d_K_typeFault_22 rfl (fun hc3 => ?_) (fun hc3 => ?_)
        · have hE := of_decide_eq_true (fk_bt hc3)
          rw [hx2] at hE
          obtain ⟨r, ee, hq10, hok, hEe, hlt, hle, hts⟩ := fk_node (by omega) hT (show i < n by omega) hE
          have hb1 : ∀ j, j < n → M1 (x + 1) j = nI (bf j) := fun j hj => by rw [hx1]; exact hb j hj
          have hitM : fk_it M1 (bf i) (bf (i + 1)) (A i) = fk_it M (bf i) (bf (i + 1)) (A i) := by
            unfold fk_it fk_ty1
            by_cases h9 : bf i = 3 ∨ 15 < bf i
            · rw [ex (3 + 6 * bf (i + 1)) (by have := hok.2.2.2 h9; omega)]
            · rw [if_neg (fun q => h9 (Or.inl q)), if_neg (fun q => h9 (Or.inr q)), if_neg (fun q => h9 (Or.inl q)), if_neg (fun q => h9 (Or.inr q))]
          refine lv_aload_n S.1 S.2.1 d_K_typeFault_28 rfl (lv_at hl 1 rfl) ?_
          refine lv_aload_n S.1 S.2.1 d_K_typeFault_29 rfl (lv_at hl 2 rfl) ?_
          refine lv_iload_n S.1 S.2.1 d_K_typeFault_30 rfl (lv_at hl 0 rfl) ?_
          refine lv_aload_n S.1 S.2.1 d_K_typeFault_31 rfl (lv_at hl 1 rfl) ?_
          refine fk_gf S E G 79 (by decide) (v := .ref (fk_a g 80)) (congrArg (fk_ce g ov 79 (M1 79)) kd_79) rfl 2 (by decide) rfl i_158 rfl d_K_typeFault_32 ?_
          refine lv_iload_n S.1 S.2.1 d_K_typeFault_35 rfl (lv_at hl 0 rfl) ?_
          refine fk_ia S E G 80 (by decide) (congrArg (fk_ce g ov 80 (M1 80)) kd_80) i rfl (by omega) (by decide) (v := A i) (by rw [h80]) d_K_typeFault_36 ?_
          refine fk_cvi S E G 79 (by decide) (congrArg (fk_ce g ov 79 (M1 79)) kd_79) rfl (rest := []) (hitM ▸ c_K_isOfType l g ov M1 x hX bf n cnt hn40 h12 hb1 i hok (A i)) m_K_isOfType i_287 ⟨rfl, rfl⟩ ⟨by decide, by decide⟩ rfl rfl hl.1 (Nat.le_of_ble_eq_true rfl) d_K_typeFault_37 ⟨Nat.zero_le _, Nat.zero_le _⟩ (fun H locs G => ?_)
          refine fk_zne (tgt := 45) S.1 S.2.1 (fk_bl _) d_K_typeFault_40 rfl (fun hc4 => ?_) (fun hc4 => ?_)
          · have hit := fk_bt hc4
            refine lv_aload_n S.1 S.2.1 d_K_typeFault_45 rfl (lv_at hl 1 rfl) ?_
            refine lv_aload_n S.1 S.2.1 d_K_typeFault_46 rfl (lv_at hl 2 rfl) ?_
            refine lv_iload_n S.1 S.2.1 d_K_typeFault_47 rfl (lv_at hl 0 rfl) ?_
            refine fk_cvv S E G 79 (by decide) (congrArg (fk_ce g ov 79 (M1 79)) kd_79) rfl (rest := []) (c_K_wantTypesOfParts l g ov M1 x hX bf n cnt hn40 h12 hb1 i hok r ee (by rw [hx2]; exact hts)) m_K_wantTypesOfParts i_295 ⟨rfl, rfl⟩ ⟨by decide, by decide⟩ rfl rfl hl.1 (Nat.le_of_ble_eq_true rfl) d_K_typeFault_48 ⟨Nat.zero_le _, Nat.zero_le _⟩ (fun H locs G => ?_)
            refine lv_iinc (k := 0) (v := nI (i + 1)) (lv' := [(3, .int (nI (i + 1))), (0, .ref (fk_a g 79)), (1, .ref (fk_a g x)), (2, .int (nI t))]) S.1 S.2.1 d_K_typeFault_51 hl rfl (nI_1 i) (by decide) rfl (fun ls hl => ?_)
            refine lv_goto (tgt := 9) S.1 S.2.1 d_K_typeFault_54 rfl ?_
            rw [hx2, h80, hM1, bx_uu] at G
            exact ih (i + 1) _ H locs ls (by omega) (by rw [← hv1]; rw [fk_tf_S]; rw [if_neg (fun q => q hE), if_pos hit]) G hl
          · have hit := fk_bf hc4
            have hres : fk_tf M bf (M (x + 2)) (d + 1) i A = (some i, A) := by
              rw [fk_tf_S, if_neg (fun q => q hE), if_neg (by rw [hit]; decide)]
            refine lv_iload_n S.1 S.2.1 d_K_typeFault_43 rfl (lv_at hl 0 rfl) ?_
            exact fk_iret S hr hlk E G (by rw [hM1, ← hv1, hres]) (by rw [← hv1, hres]; rfl) d_K_typeFault_44
        · have hE := of_decide_eq_false (fk_bf hc3)
          rw [hx2] at hE
          refine lv_goto (tgt := 51) S.1 S.2.1 d_K_typeFault_25 rfl ?_
          refine lv_iinc (k := 0) (v := nI (i + 1)) (lv' := [(3, .int (nI (i + 1))), (0, .ref (fk_a g 79)), (1, .ref (fk_a g x)), (2, .int (nI t))]) S.1 S.2.1 d_K_typeFault_51 hl rfl (nI_1 i) (by decide) rfl (fun ls hl => ?_)
          refine lv_goto (tgt := 9) S.1 S.2.1 d_K_typeFault_54 rfl ?_
          rw [hM1] at G
          exact ih (i + 1) A H locs ls (by omega) (by rw [← hv1]; rw [fk_tf_S]; rw [if_pos hE]) G hl
  refine lv_aload_n S.1 S.2.1 d_K_typeFault_0 rfl (lv_at hl 0 rfl) ?_
  refine fk_gf S E G 79 (by decide) (v := .ref (fk_a g 80)) (congrArg (fk_ce g ov 79 (M 79)) kd_79) rfl 2 (by decide) rfl i_158 rfl d_K_typeFault_1 ?_
  refine lv_iconst (v := nI 0) S.1 S.2.1 d_K_typeFault_4 (by decide +kernel) ?_
  refine lv_iload_n S.1 S.2.1 d_K_typeFault_5 rfl (lv_at hl 2 rfl) ?_
  refine fk_is S E G 80 (by decide) (fun r => congrArg (fk_ce g ov 80 r) kd_80) 0 rfl (by omega) (by decide) d_K_typeFault_6 (fun H locs G => ?_)
  obtain ⟨M5, hM5⟩ : ∃ z : fk_M, z = va_up M 80 (upd (M 80) 0 (nI t)) := ⟨_, rfl⟩
  rw [← hM5] at G
  refine lv_iconst (v := nI 0) S.1 S.2.1 d_K_typeFault_7 (by decide +kernel) ?_
  refine lv_istore_n (lv' := [(3, .int (nI 0)), (0, .ref (fk_a g 79)), (1, .ref (fk_a g x)), (2, .int (nI t))]) S.1 S.2.1 d_K_typeFault_8 rfl hl (by decide) rfl (fun ls hl => ?_)
  rw [hM5] at G
  exact loop n 0 _ H locs ls (by omega) rfl G hl
