/-! The reference: flow, type. Written by wip/gen/s_mod3.py. -/
theorem i_740 : (Cond.constantLong "FlowDeskModel" (107 : Nat) (255 : Int64)) ∈ fk_ALL := fk_mt (List.mem_of_getElem? (i := 740) (by decide +kernel)) (by decide +kernel)
theorem fk_ma_s {M : fk_M} {t : Nat} (h : t ≠ 22 ∧ t ≠ 23 ∧ t ≠ 24 ∧ t ≠ 25) : fk_ma M 89 t = M 89 t := by
  unfold fk_ma fk_mr fk_m2 fk_m1
  rw [va_up_ne _ _ (by decide), va_up_ne _ _ (by decide), va_up_ne _ _ (by decide), va_up_ne _ _ (by decide), va_up_ne _ _ (by decide), va_up_self, pk_un h.1, va_up_self, pk_un h.2.2.2, pk_un h.2.2.1, pk_un h.2.1]
/-- a flow more -/
def fk_mf (M : fk_M) (n : Nat) (vb v vi : Int32) : fk_M := fk_ma (va_up (va_up (va_up (va_up (fk_th M 0) 90 (upd (M 90) n vb)) 92 (upd (M 92) n v)) 91 (upd (M 91) n vi)) 89 (upd (fk_th M 0 89) 1 (nI (n + 1))))
/-- a byte of a row -/
def fk_yb (w : Int64) (k : Nat) : Int32 := ((w >>> ((nI (8 * k)).toInt64 &&& 63)) &&& 255).toInt32
def fk_mty (w : Int64) : Nat → Nat → fk_M → fk_M
  | 0, _, M => M
  | k + 1, dl, M => fk_mty w k (dl + 1) (va_up (va_up M 106 (upd (M 106) dl (fk_yb w k))) 89 (upd (M 89) 19 (nI (dl + 1))))
theorem d_M_flow_0 : decode b_M_flow 0 = .ok (.iload_n 2, 1) := by decide +kernel
theorem d_M_flow_1 : decode b_M_flow 1 = .ok (.ifCond .le 11, 3) := by decide +kernel
theorem d_M_flow_4 : decode b_M_flow 4 = .ok (.iload_n 2, 1) := by decide +kernel
theorem d_M_flow_5 : decode b_M_flow 5 = .ok (.iconst 1, 1) := by decide +kernel
theorem d_M_flow_6 : decode b_M_flow 6 = .ok (.isub, 1) := by decide +kernel
theorem d_M_flow_7 : decode b_M_flow 7 = .ok (.iconst 2, 1) := by decide +kernel
theorem d_M_flow_8 : decode b_M_flow 8 = .ok (.idiv, 1) := by decide +kernel
theorem d_M_flow_9 : decode b_M_flow 9 = .ok (.goto 4, 3) := by decide +kernel
theorem d_M_flow_12 : decode b_M_flow 12 = .ok (.iconst (-1), 1) := by decide +kernel
theorem d_M_flow_13 : decode b_M_flow 13 = .ok (.istore 4, 2) := by decide +kernel
theorem d_M_flow_15 : decode b_M_flow 15 = .ok (.iload_n 2, 1) := by decide +kernel
theorem d_M_flow_16 : decode b_M_flow 16 = .ok (.ifCond .lt 27, 3) := by decide +kernel
theorem d_M_flow_19 : decode b_M_flow 19 = .ok (.iload 4, 2) := by decide +kernel
theorem d_M_flow_21 : decode b_M_flow 21 = .ok (.aload_n 0, 1) := by decide +kernel
theorem d_M_flow_22 : decode b_M_flow 22 = .ok (.getfield 94, 3) := by decide +kernel
theorem d_M_flow_25 : decode b_M_flow 25 = .ok (.if_icmp .ge 18, 3) := by decide +kernel
theorem d_M_flow_28 : decode b_M_flow 28 = .ok (.iload 4, 2) := by decide +kernel
theorem d_M_flow_30 : decode b_M_flow 30 = .ok (.ifCond .lt 17, 3) := by decide +kernel
theorem d_M_flow_33 : decode b_M_flow 33 = .ok (.aload_n 0, 1) := by decide +kernel
theorem d_M_flow_34 : decode b_M_flow 34 = .ok (.getfield 7, 3) := by decide +kernel
theorem d_M_flow_37 : decode b_M_flow 37 = .ok (.iload 4, 2) := by decide +kernel
theorem d_M_flow_39 : decode b_M_flow 39 = .ok (.baload, 1) := by decide +kernel
theorem d_M_flow_40 : decode b_M_flow 40 = .ok (.ifCond .ne 7, 3) := by decide +kernel
theorem d_M_flow_43 : decode b_M_flow 43 = .ok (.iconst 1, 1) := by decide +kernel
theorem d_M_flow_44 : decode b_M_flow 44 = .ok (.goto 4, 3) := by decide +kernel
theorem d_M_flow_47 : decode b_M_flow 47 = .ok (.iconst 0, 1) := by decide +kernel
theorem d_M_flow_48 : decode b_M_flow 48 = .ok (.istore 5, 2) := by decide +kernel
theorem d_M_flow_50 : decode b_M_flow 50 = .ok (.aload_n 0, 1) := by decide +kernel
theorem d_M_flow_51 : decode b_M_flow 51 = .ok (.iload 5, 2) := by decide +kernel
theorem d_M_flow_53 : decode b_M_flow 53 = .ok (.iload 5, 2) := by decide +kernel
theorem d_M_flow_55 : decode b_M_flow 55 = .ok (.ifCond .ne 16, 3) := by decide +kernel
theorem d_M_flow_58 : decode b_M_flow 58 = .ok (.aload_n 0, 1) := by decide +kernel
theorem d_M_flow_59 : decode b_M_flow 59 = .ok (.getfield 94, 3) := by decide +kernel
theorem d_M_flow_62 : decode b_M_flow 62 = .ok (.bipush 12, 2) := by decide +kernel
theorem d_M_flow_64 : decode b_M_flow 64 = .ok (.if_icmp .ne 7, 3) := by decide +kernel
theorem d_M_flow_67 : decode b_M_flow 67 = .ok (.iconst 1, 1) := by decide +kernel
theorem d_M_flow_68 : decode b_M_flow 68 = .ok (.goto 4, 3) := by decide +kernel
theorem d_M_flow_71 : decode b_M_flow 71 = .ok (.iconst 0, 1) := by decide +kernel
theorem d_M_flow_72 : decode b_M_flow 72 = .ok (.invokevirtual 97, 3) := by decide +kernel
theorem d_M_flow_75 : decode b_M_flow 75 = .ok (.ifCond .eq 5, 3) := by decide +kernel
theorem d_M_flow_78 : decode b_M_flow 78 = .ok (.iconst 0, 1) := by decide +kernel
theorem d_M_flow_79 : decode b_M_flow 79 = .ok (.ireturn, 1) := by decide +kernel
theorem d_M_flow_80 : decode b_M_flow 80 = .ok (.aload_n 0, 1) := by decide +kernel
theorem d_M_flow_81 : decode b_M_flow 81 = .ok (.getfield 7, 3) := by decide +kernel
theorem d_M_flow_84 : decode b_M_flow 84 = .ok (.aload_n 0, 1) := by decide +kernel
theorem d_M_flow_85 : decode b_M_flow 85 = .ok (.getfield 94, 3) := by decide +kernel
theorem d_M_flow_88 : decode b_M_flow 88 = .ok (.iload_n 1, 1) := by decide +kernel
theorem d_M_flow_89 : decode b_M_flow 89 = .ok (.bastore, 1) := by decide +kernel
theorem d_M_flow_90 : decode b_M_flow 90 = .ok (.aload_n 0, 1) := by decide +kernel
theorem d_M_flow_91 : decode b_M_flow 91 = .ok (.getfield 16, 3) := by decide +kernel
theorem d_M_flow_94 : decode b_M_flow 94 = .ok (.aload_n 0, 1) := by decide +kernel
theorem d_M_flow_95 : decode b_M_flow 95 = .ok (.getfield 94, 3) := by decide +kernel
theorem d_M_flow_98 : decode b_M_flow 98 = .ok (.iload_n 2, 1) := by decide +kernel
theorem d_M_flow_99 : decode b_M_flow 99 = .ok (.iastore, 1) := by decide +kernel
theorem d_M_flow_100 : decode b_M_flow 100 = .ok (.aload_n 0, 1) := by decide +kernel
theorem d_M_flow_101 : decode b_M_flow 101 = .ok (.getfield 13, 3) := by decide +kernel
theorem d_M_flow_104 : decode b_M_flow 104 = .ok (.aload_n 0, 1) := by decide +kernel
theorem d_M_flow_105 : decode b_M_flow 105 = .ok (.getfield 94, 3) := by decide +kernel
theorem d_M_flow_108 : decode b_M_flow 108 = .ok (.iload_n 3, 1) := by decide +kernel
theorem d_M_flow_109 : decode b_M_flow 109 = .ok (.bastore, 1) := by decide +kernel
theorem d_M_flow_110 : decode b_M_flow 110 = .ok (.aload_n 0, 1) := by decide +kernel
theorem d_M_flow_111 : decode b_M_flow 111 = .ok (.dup, 1) := by decide +kernel
theorem d_M_flow_112 : decode b_M_flow 112 = .ok (.getfield 94, 3) := by decide +kernel
theorem d_M_flow_115 : decode b_M_flow 115 = .ok (.iconst 1, 1) := by decide +kernel
theorem d_M_flow_116 : decode b_M_flow 116 = .ok (.iadd, 1) := by decide +kernel
theorem d_M_flow_117 : decode b_M_flow 117 = .ok (.putfield 94, 3) := by decide +kernel
theorem d_M_flow_120 : decode b_M_flow 120 = .ok (.aload_n 0, 1) := by decide +kernel
theorem d_M_flow_121 : decode b_M_flow 121 = .ok (.invokevirtual 101, 3) := by decide +kernel
theorem d_M_flow_124 : decode b_M_flow 124 = .ok (.aload_n 0, 1) := by decide +kernel
theorem d_M_flow_125 : decode b_M_flow 125 = .ok (.getfield 94, 3) := by decide +kernel
theorem d_M_flow_128 : decode b_M_flow 128 = .ok (.iconst 1, 1) := by decide +kernel
theorem d_M_flow_129 : decode b_M_flow 129 = .ok (.isub, 1) := by decide +kernel
theorem d_M_flow_130 : decode b_M_flow 130 = .ok (.ireturn, 1) := by decide +kernel
theorem m_M_flow : fk_MI y_M_flow b_M_flow 6 (some .int) 3 := ⟨i_723, i_721, i_722, i_8, by decide +kernel⟩
set_option maxHeartbeats 4000000 in
set_option maxRecDepth 100000 in
theorem c_M_flow (l : Launch) (g : fk_G) (ov : Int64) (M : fk_M) (n : Nat) (hn : M 89 1 = nI n) (h12 : n ≤ 12) (vb v vi : Int32) (hvb : vb = 0 ∨ vb = 1) (hvi : vi = 0 ∨ vi = 1) (bd : Bool) (hbd : (v < 0 ∧ bd = true) ∨ (v = 0 ∧ bd = false) ∨ ∃ ck, 0 < ck ∧ ck < 2 ^ 31 ∧ v = nI ck ∧ bd = decide (n ≤ (ck - 1) / 2 ∨ M 90 ((ck - 1) / 2) = 0)) : fk_CI l y_M_flow b_M_flow 6 (some .int) (fk_rm 2) g ov M (if 0 < fk_tc bd.toNat (decide (bd = false ∧ n = 12)).toNat then fk_th M (fk_tc bd.toNat (decide (bd = false ∧ n = 12)).toNat) else fk_mf M n vb v vi) [.ref (fk_a g 89), .int vb, .int v, .int vi] (if 0 < fk_tc bd.toNat (decide (bd = false ∧ n = 12)).toNat then nI 0 else nI n) := by
  refine fk_ofI rfl (Nat.le_of_ble_eq_true rfl) ?_
  intro p e s m args below meth c ls S hr hlk E G hl
  have hl : lv_has ls 6 [(0, .ref (fk_a g 89)), (1, .int vb), (2, .int v), (3, .int vi)] := hl
  have tail : ∀ (vx : Int32) (H : Heap) (locs : List Loc) (ls : Array Slot), fk_H g ov (M) s H locs → lv_has ls 6 [(5, .int (nI bd.toNat)), (4, .int vx), (0, .ref (fk_a g 89)), (1, .int vb), (2, .int v), (3, .int vi)] → W p l e (fk_rm (2)) s m args below meth c H locs 0 0 (MQ below (va_Qi (fun rr (_ : Unit) => rr = (if 0 < fk_tc bd.toNat (decide (bd = false ∧ n = 12)).toNat then nI 0 else nI n)) (fun _ t9 => fk_Wd g ov (if 0 < fk_tc bd.toNat (decide (bd = false ∧ n = 12)).toNat then fk_th M (fk_tc bd.toNat (decide (bd = false ∧ n = 12)).toNat) else fk_mf M n vb v vi) t9) (fk_A g)) args s 0 0 (fk_A g)) (F0 m 50 ls []) := by
    intro vx H locs ls  G hl
    refine lv_aload_n S.1 S.2.1 d_M_flow_50 rfl (lv_at hl 2 rfl) ?_
    refine lv_iload S.1 S.2.1 d_M_flow_51 (lv_at hl 0 rfl) ?_
    refine lv_iload S.1 S.2.1 d_M_flow_53 (lv_at hl 0 rfl) ?_
    refine fk_zne (tgt := 71) S.1 S.2.1 (fk_bl _) d_M_flow_55 rfl (fun hc1 => ?_) (fun hc1 => ?_)
    · have hb1 := fk_bt hc1
      have hlt9 : bd = false → ¬ n = 12 := fun q => by rw [hb1] at q; cases q
      refine lv_iconst (v := nI 0) S.1 S.2.1 d_M_flow_71 (by decide +kernel) ?_
      have hCD : fk_tc bd.toNat (decide (bd = false ∧ n = 12)).toNat = fk_tc bd.toNat 0 := by rw [decide_eq_false (fun q => by have := q.1; rw [hb1] at this; cases this)]; rfl
      rw [hCD]
      refine fk_cvi S E G 89 (by decide) (congrArg (fk_ce g ov 89 (M 89)) kd_89) rfl (rest := []) (c_M_throwing l g ov M bd.toNat 0 (fk_bl _) (by decide)) m_M_throwing i_724 ⟨rfl, rfl⟩ ⟨by decide, by decide⟩ rfl rfl hl.1 (Nat.le_of_ble_eq_true rfl) d_M_flow_72 ⟨Nat.zero_le _, Nat.zero_le _⟩ (fun H locs G => ?_)
      refine fk_zeq (tgt := 80) S.1 S.2.1 (fk_bl _) d_M_flow_75 rfl (fun hc2 => ?_) (fun hc2 => ?_)
      · have hz := of_decide_eq_false (fk_bf hc2)
        have hz2 : fk_tc bd.toNat 0 = 0 := by omega
        rw [hz2] at G
        obtain ⟨M1, hM1⟩ : ∃ z : fk_M, z = fk_th M 0 := ⟨_, rfl⟩
        rw [← hM1] at G
        have e : ∀ k, k ≠ 89 → M1 k = M k := fun k hk => by rw [hM1]; exact fk_th_ne hk
        have e1 : M1 89 1 = nI n := by rw [hM1, fk_th_s (by decide)]; exact hn
        have hn12 : n < 12 := by by_cases h9 : n = 12; exact absurd h9 (hlt9 (fk_bf (fk_tc00 hz).1)); omega
        refine lv_aload_n S.1 S.2.1 d_M_flow_80 rfl (lv_at hl 2 rfl) ?_
        refine fk_gf S E G 89 (by decide) (v := .ref (fk_a g 90)) (congrArg (fk_ce g ov 89 (M1 89)) kd_89) rfl 2 (by decide) rfl i_624 rfl d_M_flow_81 ?_
        refine lv_aload_n S.1 S.2.1 d_M_flow_84 rfl (lv_at hl 2 rfl) ?_
        refine fk_gf S E G 89 (by decide) (v := .int (M1 89 1)) (congrArg (fk_ce g ov 89 (M1 89)) kd_89) rfl 1 (by decide) rfl i_623 rfl d_M_flow_85 ?_
        rw [e1]
        refine lv_iload_n S.1 S.2.1 d_M_flow_88 rfl (lv_at hl 3 rfl) ?_
        refine fk_zs S E G 90 (by decide) (fun r => congrArg (fk_ce g ov 90 r) kd_90) n rfl (by omega) (by decide) hvb d_M_flow_89 (fun H locs G => ?_)
        obtain ⟨M3, hM3⟩ : ∃ z : fk_M, z = va_up M1 90 (upd (M1 90) n vb) := ⟨_, rfl⟩
        rw [← hM3] at G
        have f1 : M3 89 = M1 89 := by rw [hM3, va_up_ne _ _ (by decide)]
        refine lv_aload_n S.1 S.2.1 d_M_flow_90 rfl (lv_at hl 2 rfl) ?_
        refine fk_gf S E G 89 (by decide) (v := .ref (fk_a g 92)) (congrArg (fk_ce g ov 89 (M3 89)) kd_89) rfl 4 (by decide) rfl i_626 rfl d_M_flow_91 ?_
        refine lv_aload_n S.1 S.2.1 d_M_flow_94 rfl (lv_at hl 2 rfl) ?_
        refine fk_gf S E G 89 (by decide) (v := .int (M3 89 1)) (congrArg (fk_ce g ov 89 (M3 89)) kd_89) rfl 1 (by decide) rfl i_623 rfl d_M_flow_95 ?_
        rw [f1, e1]
        refine lv_iload_n S.1 S.2.1 d_M_flow_98 rfl (lv_at hl 4 rfl) ?_
        refine fk_is S E G 92 (by decide) (fun r => congrArg (fk_ce g ov 92 r) kd_92) n rfl (by omega) (by decide) d_M_flow_99 (fun H locs G => ?_)
        obtain ⟨M4, hM4⟩ : ∃ z : fk_M, z = va_up M3 92 (upd (M3 92) n v) := ⟨_, rfl⟩
        rw [← hM4] at G
        have f2 : M4 89 = M1 89 := by rw [hM4, va_up_ne _ _ (by decide), f1]
        refine lv_aload_n S.1 S.2.1 d_M_flow_100 rfl (lv_at hl 2 rfl) ?_
        refine fk_gf S E G 89 (by decide) (v := .ref (fk_a g 91)) (congrArg (fk_ce g ov 89 (M4 89)) kd_89) rfl 3 (by decide) rfl i_625 rfl d_M_flow_101 ?_
        refine lv_aload_n S.1 S.2.1 d_M_flow_104 rfl (lv_at hl 2 rfl) ?_
        refine fk_gf S E G 89 (by decide) (v := .int (M4 89 1)) (congrArg (fk_ce g ov 89 (M4 89)) kd_89) rfl 1 (by decide) rfl i_623 rfl d_M_flow_105 ?_
        rw [f2, e1]
        refine lv_iload_n S.1 S.2.1 d_M_flow_108 rfl (lv_at hl 5 rfl) ?_
        refine fk_zs S E G 91 (by decide) (fun r => congrArg (fk_ce g ov 91 r) kd_91) n rfl (by omega) (by decide) hvi d_M_flow_109 (fun H locs G => ?_)
        obtain ⟨M5, hM5⟩ : ∃ z : fk_M, z = va_up M4 91 (upd (M4 91) n vi) := ⟨_, rfl⟩
        rw [← hM5] at G
        have f3 : M5 89 = M1 89 := by rw [hM5, va_up_ne _ _ (by decide), f2]
        refine lv_aload_n S.1 S.2.1 d_M_flow_110 rfl (lv_at hl 2 rfl) ?_
        refine lv_dup S.1 S.2.1 d_M_flow_111 rfl ?_
        refine fk_gf S E G 89 (by decide) (v := .int (M5 89 1)) (congrArg (fk_ce g ov 89 (M5 89)) kd_89) rfl 1 (by decide) rfl i_623 rfl d_M_flow_112 ?_
        rw [f3, e1]
        refine lv_iconst (v := nI 1) S.1 S.2.1 d_M_flow_115 (by decide +kernel) ?_
        refine fk_iadd S.1 S.2.1 d_M_flow_116 ?_
        refine fk_pf S E G 89 (by decide) (congrArg (fk_ce g ov 89 (M5 89)) kd_89) rfl 1 (by decide) rfl i_623 (upd (M5 89) 1 (nI (n + 1))) (congrArg (fk_ce g ov 89 (upd (M5 89) 1 (nI (n + 1)))) kd_89) rfl (ty := (.int)) (by decide +kernel) rfl rfl (Nat.le_of_ble_eq_true rfl) d_M_flow_117 (fun H locs G => ?_)
        obtain ⟨M6, hM6⟩ : ∃ z : fk_M, z = va_up M5 89 (upd (M5 89) 1 (nI (n + 1))) := ⟨_, rfl⟩
        rw [← hM6] at G
        refine lv_aload_n S.1 S.2.1 d_M_flow_120 rfl (lv_at hl 2 rfl) ?_
        refine fk_cvv S E G 89 (by decide) (congrArg (fk_ce g ov 89 (M6 89)) kd_89) rfl (rest := []) (c_M_again l g ov M6) m_M_again i_728 ⟨rfl, rfl⟩ ⟨by decide, by decide⟩ rfl rfl hl.1 (Nat.le_of_ble_eq_true rfl) d_M_flow_121 ⟨Nat.zero_le _, Nat.zero_le _⟩ (fun H locs G => ?_)
        have hM5 : M6 = va_up (va_up (va_up (va_up (fk_th M 0) 90 (upd (M 90) n vb)) 92 (upd (M 92) n v)) 91 (upd (M 91) n vi)) 89 (upd (fk_th M 0 89) 1 (nI (n + 1))) := by
          rw [hM6, f3, hM5, hM4, hM3, va_up_ne _ _ (show (91 : Nat) ≠ 92 by decide), va_up_ne _ _ (show (91 : Nat) ≠ 90 by decide), va_up_ne _ _ (show (92 : Nat) ≠ 90 by decide), e 90 (by decide), e 91 (by decide), e 92 (by decide), hM1]
        have g1 : fk_ma M6 89 1 = nI (n + 1) := by rw [fk_ma_s (by decide), hM6, va_up_self, pk_us]
        obtain ⟨M6, hM6⟩ : ∃ z : fk_M, z = fk_ma M6 := ⟨_, rfl⟩
        rw [← hM6] at G
        rw [← hM6] at g1
        refine lv_aload_n S.1 S.2.1 d_M_flow_124 rfl (lv_at hl 2 rfl) ?_
        refine fk_gf S E G 89 (by decide) (v := .int (M6 89 1)) (congrArg (fk_ce g ov 89 (M6 89)) kd_89) rfl 1 (by decide) rfl i_623 rfl d_M_flow_125 ?_
        rw [g1]
        refine lv_iconst (v := nI 1) S.1 S.2.1 d_M_flow_128 (by decide +kernel) ?_
        refine fk_isub S.1 S.2.1 (by omega) d_M_flow_129 ?_
        exact fk_iret S hr hlk E G (by rw [if_neg hz, hM6, hM5]; rfl) (by rw [if_neg hz, Nat.add_sub_cancel]) d_M_flow_130
      · have hz := of_decide_eq_true (fk_bt hc2)
        refine lv_iconst (v := nI 0) S.1 S.2.1 d_M_flow_78 (by decide +kernel) ?_
        exact fk_iret S hr hlk E G (by rw [if_pos hz]) (by rw [if_pos hz]) d_M_flow_79
    · have hb1 := fk_bf (b := bd) hc1
      refine lv_aload_n S.1 S.2.1 d_M_flow_58 rfl (lv_at hl 2 rfl) ?_
      refine fk_gf S E G 89 (by decide) (v := .int (M 89 1)) (congrArg (fk_ce g ov 89 (M 89)) kd_89) rfl 1 (by decide) rfl i_623 rfl d_M_flow_59 ?_
      rw [hn]
      refine lv_bipush (v := nI 12) S.1 S.2.1 d_M_flow_62 (by decide +kernel) ?_
      refine fk_cne (tgt := 71) S.1 S.2.1 (by omega) (by omega) d_M_flow_64 rfl (fun hc7 => ?_) (fun hc7 => ?_)
      · have hlt9 : bd = false → ¬ n = 12 := fun _ => hc7
        refine lv_iconst (v := nI 0) S.1 S.2.1 d_M_flow_71 (by decide +kernel) ?_
        have hCD : fk_tc bd.toNat (decide (bd = false ∧ n = 12)).toNat = fk_tc bd.toNat 0 := by rw [decide_eq_false (fun q => hc7 q.2)]; rfl
        rw [hCD]
        refine fk_cvi S E G 89 (by decide) (congrArg (fk_ce g ov 89 (M 89)) kd_89) rfl (rest := []) (c_M_throwing l g ov M bd.toNat 0 (fk_bl _) (by decide)) m_M_throwing i_724 ⟨rfl, rfl⟩ ⟨by decide, by decide⟩ rfl rfl hl.1 (Nat.le_of_ble_eq_true rfl) d_M_flow_72 ⟨Nat.zero_le _, Nat.zero_le _⟩ (fun H locs G => ?_)
        refine fk_zeq (tgt := 80) S.1 S.2.1 (fk_bl _) d_M_flow_75 rfl (fun hc8 => ?_) (fun hc8 => ?_)
        · have hz := of_decide_eq_false (fk_bf hc8)
          have hz2 : fk_tc bd.toNat 0 = 0 := by omega
          rw [hz2] at G
          obtain ⟨M1, hM1⟩ : ∃ z : fk_M, z = fk_th M 0 := ⟨_, rfl⟩
          rw [← hM1] at G
          have e : ∀ k, k ≠ 89 → M1 k = M k := fun k hk => by rw [hM1]; exact fk_th_ne hk
          have e1 : M1 89 1 = nI n := by rw [hM1, fk_th_s (by decide)]; exact hn
          have hn12 : n < 12 := by by_cases h9 : n = 12; exact absurd h9 (hlt9 (fk_bf (fk_tc00 hz).1)); omega
          refine lv_aload_n S.1 S.2.1 d_M_flow_80 rfl (lv_at hl 2 rfl) ?_
          refine fk_gf S E G 89 (by decide) (v := .ref (fk_a g 90)) (congrArg (fk_ce g ov 89 (M1 89)) kd_89) rfl 2 (by decide) rfl i_624 rfl d_M_flow_81 ?_
          refine lv_aload_n S.1 S.2.1 d_M_flow_84 rfl (lv_at hl 2 rfl) ?_
          refine fk_gf S E G 89 (by decide) (v := .int (M1 89 1)) (congrArg (fk_ce g ov 89 (M1 89)) kd_89) rfl 1 (by decide) rfl i_623 rfl d_M_flow_85 ?_
          rw [e1]
          refine lv_iload_n S.1 S.2.1 d_M_flow_88 rfl (lv_at hl 3 rfl) ?_
          refine fk_zs S E G 90 (by decide) (fun r => congrArg (fk_ce g ov 90 r) kd_90) n rfl (by omega) (by decide) hvb d_M_flow_89 (fun H locs G => ?_)
          obtain ⟨M9, hM9⟩ : ∃ z : fk_M, z = va_up M1 90 (upd (M1 90) n vb) := ⟨_, rfl⟩
          rw [← hM9] at G
          have f1 : M9 89 = M1 89 := by rw [hM9, va_up_ne _ _ (by decide)]
          refine lv_aload_n S.1 S.2.1 d_M_flow_90 rfl (lv_at hl 2 rfl) ?_
          refine fk_gf S E G 89 (by decide) (v := .ref (fk_a g 92)) (congrArg (fk_ce g ov 89 (M9 89)) kd_89) rfl 4 (by decide) rfl i_626 rfl d_M_flow_91 ?_
          refine lv_aload_n S.1 S.2.1 d_M_flow_94 rfl (lv_at hl 2 rfl) ?_
          refine fk_gf S E G 89 (by decide) (v := .int (M9 89 1)) (congrArg (fk_ce g ov 89 (M9 89)) kd_89) rfl 1 (by decide) rfl i_623 rfl d_M_flow_95 ?_
          rw [f1, e1]
          refine lv_iload_n S.1 S.2.1 d_M_flow_98 rfl (lv_at hl 4 rfl) ?_
          refine fk_is S E G 92 (by decide) (fun r => congrArg (fk_ce g ov 92 r) kd_92) n rfl (by omega) (by decide) d_M_flow_99 (fun H locs G => ?_)
          obtain ⟨M10, hM10⟩ : ∃ z : fk_M, z = va_up M9 92 (upd (M9 92) n v) := ⟨_, rfl⟩
          rw [← hM10] at G
          have f2 : M10 89 = M1 89 := by rw [hM10, va_up_ne _ _ (by decide), f1]
          refine lv_aload_n S.1 S.2.1 d_M_flow_100 rfl (lv_at hl 2 rfl) ?_
          refine fk_gf S E G 89 (by decide) (v := .ref (fk_a g 91)) (congrArg (fk_ce g ov 89 (M10 89)) kd_89) rfl 3 (by decide) rfl i_625 rfl d_M_flow_101 ?_
          refine lv_aload_n S.1 S.2.1 d_M_flow_104 rfl (lv_at hl 2 rfl) ?_
          refine fk_gf S E G 89 (by decide) (v := .int (M10 89 1)) (congrArg (fk_ce g ov 89 (M10 89)) kd_89) rfl 1 (by decide) rfl i_623 rfl d_M_flow_105 ?_
          rw [f2, e1]
          refine lv_iload_n S.1 S.2.1 d_M_flow_108 rfl (lv_at hl 5 rfl) ?_
          refine fk_zs S E G 91 (by decide) (fun r => congrArg (fk_ce g ov 91 r) kd_91) n rfl (by omega) (by decide) hvi d_M_flow_109 (fun H locs G => ?_)
          obtain ⟨M11, hM11⟩ : ∃ z : fk_M, z = va_up M10 91 (upd (M10 91) n vi) := ⟨_, rfl⟩
          rw [← hM11] at G
          have f3 : M11 89 = M1 89 := by rw [hM11, va_up_ne _ _ (by decide), f2]
          refine lv_aload_n S.1 S.2.1 d_M_flow_110 rfl (lv_at hl 2 rfl) ?_
          refine lv_dup S.1 S.2.1 d_M_flow_111 rfl ?_
          refine fk_gf S E G 89 (by decide) (v := .int (M11 89 1)) (congrArg (fk_ce g ov 89 (M11 89)) kd_89) rfl 1 (by decide) rfl i_623 rfl d_M_flow_112 ?_
          rw [f3, e1]
          refine lv_iconst (v := nI 1) S.1 S.2.1 d_M_flow_115 (by decide +kernel) ?_
          refine fk_iadd S.1 S.2.1 d_M_flow_116 ?_
          refine fk_pf S E G 89 (by decide) (congrArg (fk_ce g ov 89 (M11 89)) kd_89) rfl 1 (by decide) rfl i_623 (upd (M11 89) 1 (nI (n + 1))) (congrArg (fk_ce g ov 89 (upd (M11 89) 1 (nI (n + 1)))) kd_89) rfl (ty := (.int)) (by decide +kernel) rfl rfl (Nat.le_of_ble_eq_true rfl) d_M_flow_117 (fun H locs G => ?_)
          obtain ⟨M12, hM12⟩ : ∃ z : fk_M, z = va_up M11 89 (upd (M11 89) 1 (nI (n + 1))) := ⟨_, rfl⟩
          rw [← hM12] at G
          refine lv_aload_n S.1 S.2.1 d_M_flow_120 rfl (lv_at hl 2 rfl) ?_
          refine fk_cvv S E G 89 (by decide) (congrArg (fk_ce g ov 89 (M12 89)) kd_89) rfl (rest := []) (c_M_again l g ov M12) m_M_again i_728 ⟨rfl, rfl⟩ ⟨by decide, by decide⟩ rfl rfl hl.1 (Nat.le_of_ble_eq_true rfl) d_M_flow_121 ⟨Nat.zero_le _, Nat.zero_le _⟩ (fun H locs G => ?_)
          have hM5 : M12 = va_up (va_up (va_up (va_up (fk_th M 0) 90 (upd (M 90) n vb)) 92 (upd (M 92) n v)) 91 (upd (M 91) n vi)) 89 (upd (fk_th M 0 89) 1 (nI (n + 1))) := by
            rw [hM12, f3, hM11, hM10, hM9, va_up_ne _ _ (show (91 : Nat) ≠ 92 by decide), va_up_ne _ _ (show (91 : Nat) ≠ 90 by decide), va_up_ne _ _ (show (92 : Nat) ≠ 90 by decide), e 90 (by decide), e 91 (by decide), e 92 (by decide), hM1]
          have g1 : fk_ma M12 89 1 = nI (n + 1) := by rw [fk_ma_s (by decide), hM12, va_up_self, pk_us]
          obtain ⟨M6, hM6⟩ : ∃ z : fk_M, z = fk_ma M12 := ⟨_, rfl⟩
          rw [← hM6] at G
          rw [← hM6] at g1
          refine lv_aload_n S.1 S.2.1 d_M_flow_124 rfl (lv_at hl 2 rfl) ?_
          refine fk_gf S E G 89 (by decide) (v := .int (M6 89 1)) (congrArg (fk_ce g ov 89 (M6 89)) kd_89) rfl 1 (by decide) rfl i_623 rfl d_M_flow_125 ?_
          rw [g1]
          refine lv_iconst (v := nI 1) S.1 S.2.1 d_M_flow_128 (by decide +kernel) ?_
          refine fk_isub S.1 S.2.1 (by omega) d_M_flow_129 ?_
          exact fk_iret S hr hlk E G (by rw [if_neg hz, hM6, hM5]; rfl) (by rw [if_neg hz, Nat.add_sub_cancel]) d_M_flow_130
        · have hz := of_decide_eq_true (fk_bt hc8)
          refine lv_iconst (v := nI 0) S.1 S.2.1 d_M_flow_78 (by decide +kernel) ?_
          exact fk_iret S hr hlk E G (by rw [if_pos hz]) (by rw [if_pos hz]) d_M_flow_79
      · refine lv_iconst (v := nI 1) S.1 S.2.1 d_M_flow_67 (by decide +kernel) ?_
        refine lv_goto (tgt := 72) S.1 S.2.1 d_M_flow_68 rfl ?_
        have hCD : fk_tc bd.toNat (decide (bd = false ∧ n = 12)).toNat = fk_tc bd.toNat 1 := by rw [decide_eq_true ⟨hb1, hc7⟩]; rfl
        rw [hCD]
        refine fk_cvi S E G 89 (by decide) (congrArg (fk_ce g ov 89 (M 89)) kd_89) rfl (rest := []) (c_M_throwing l g ov M bd.toNat 1 (fk_bl _) (by decide)) m_M_throwing i_724 ⟨rfl, rfl⟩ ⟨by decide, by decide⟩ rfl rfl hl.1 (Nat.le_of_ble_eq_true rfl) d_M_flow_72 ⟨Nat.zero_le _, Nat.zero_le _⟩ (fun H locs G => ?_)
        refine fk_zeq (tgt := 80) S.1 S.2.1 (fk_bl _) d_M_flow_75 rfl (fun hc13 => ?_) (fun hc13 => ?_)
        · have hz := of_decide_eq_false (fk_bf hc13)
          exact absurd (fk_tc00 hz).2 (by decide)
        · have hz := of_decide_eq_true (fk_bt hc13)
          refine lv_iconst (v := nI 0) S.1 S.2.1 d_M_flow_78 (by decide +kernel) ?_
          exact fk_iret S hr hlk E G (by rw [if_pos hz]) (by rw [if_pos hz]) d_M_flow_79
  rcases hbd with ⟨h1, hb⟩ | ⟨h1, hb⟩ | ⟨ck, hc1, hc2, hc3, hb⟩
  · refine lv_iload_n S.1 S.2.1 d_M_flow_0 rfl (lv_at hl 2 rfl) ?_
    refine lv_if_le (tgt := 12) S.1 S.2.1 d_M_flow_1 rfl (fun hc14 => ?_) (fun hc14 => ?_)
    · refine lv_iconst (v := -1) S.1 S.2.1 d_M_flow_12 (by decide +kernel) ?_
      refine lv_istore (lv' := [(4, .int (-1)), (0, .ref (fk_a g 89)), (1, .int vb), (2, .int v), (3, .int vi)]) S.1 S.2.1 d_M_flow_13 hl (by decide) rfl (fun ls hl => ?_)
      refine lv_iload_n S.1 S.2.1 d_M_flow_15 rfl (lv_at hl 3 rfl) ?_
      refine lv_if_lt (tgt := 43) S.1 S.2.1 d_M_flow_16 rfl (fun hc15 => ?_) (fun hc15 => ?_)
      · have hbit : bd.toNat = 1 := by rw [hb]; rfl
        refine lv_iconst (v := nI 1) S.1 S.2.1 d_M_flow_43 (by decide +kernel) ?_
        refine lv_goto (tgt := 48) S.1 S.2.1 d_M_flow_44 rfl ?_
        refine lv_istore (lv' := [(5, .int (nI 1)), (4, .int (-1)), (0, .ref (fk_a g 89)), (1, .int vb), (2, .int v), (3, .int vi)]) S.1 S.2.1 d_M_flow_48 hl (by decide) rfl (fun ls hl => ?_)
        have hl : lv_has ls 6 [(5, .int (nI bd.toNat)), (4, .int (-1)), (0, .ref (fk_a g 89)), (1, .int vb), (2, .int v), (3, .int vi)] := by rw [hbit]; exact hl
        exact tail _ _ _ ls G hl
      · exact absurd h1 hc15
    · exact absurd (Int32.le_of_lt h1) hc14
  · subst h1
    refine lv_iload_n S.1 S.2.1 d_M_flow_0 rfl (lv_at hl 2 rfl) ?_
    refine lv_if_le (tgt := 12) S.1 S.2.1 d_M_flow_1 rfl (fun hc16 => ?_) (fun hc16 => ?_)
    · refine lv_iconst (v := -1) S.1 S.2.1 d_M_flow_12 (by decide +kernel) ?_
      refine lv_istore (lv' := [(4, .int (-1)), (0, .ref (fk_a g 89)), (1, .int vb), (2, .int 0), (3, .int vi)]) S.1 S.2.1 d_M_flow_13 hl (by decide) rfl (fun ls hl => ?_)
      refine lv_iload_n S.1 S.2.1 d_M_flow_15 rfl (lv_at hl 3 rfl) ?_
      refine lv_if_lt (tgt := 43) S.1 S.2.1 d_M_flow_16 rfl (fun hc17 => ?_) (fun hc17 => ?_)
      · exact absurd hc17 fk_irr
      · refine lv_iload S.1 S.2.1 d_M_flow_19 (lv_at hl 0 rfl) ?_
        refine lv_aload_n S.1 S.2.1 d_M_flow_21 rfl (lv_at hl 1 rfl) ?_
        refine fk_gf S E G 89 (by decide) (v := .int (M 89 1)) (congrArg (fk_ce g ov 89 (M 89)) kd_89) rfl 1 (by decide) rfl i_623 rfl d_M_flow_22 ?_
        rw [hn]
        refine lv_icmp_ge (tgt := 43) S.1 S.2.1 d_M_flow_25 rfl (fun hc18 => ?_) (fun hc18 => ?_)
        · exact absurd hc18 (by rw [show (-1 : Int32) = -1 from rfl]; exact fun q => absurd (Int32.le_trans (nI_pos' (n := n) (by omega)) q) (by decide +kernel))
        · refine lv_iload S.1 S.2.1 d_M_flow_28 (lv_at hl 0 rfl) ?_
          refine lv_if_lt (tgt := 47) S.1 S.2.1 d_M_flow_30 rfl (fun hc19 => ?_) (fun hc19 => ?_)
          · have hbit : bd.toNat = 0 := by rw [hb]; rfl
            refine lv_iconst (v := nI 0) S.1 S.2.1 d_M_flow_47 (by decide +kernel) ?_
            refine lv_istore (lv' := [(5, .int (nI 0)), (4, .int (-1)), (0, .ref (fk_a g 89)), (1, .int vb), (2, .int 0), (3, .int vi)]) S.1 S.2.1 d_M_flow_48 hl (by decide) rfl (fun ls hl => ?_)
            have hl : lv_has ls 6 [(5, .int (nI bd.toNat)), (4, .int (-1)), (0, .ref (fk_a g 89)), (1, .int vb), (2, .int 0), (3, .int vi)] := by rw [hbit]; exact hl
            exact tail _ _ _ ls G hl
          · exact absurd (by decide +kernel) hc19
    · exact absurd (Int32.le_refl _) hc16
  · subst hc3
    refine lv_iload_n S.1 S.2.1 d_M_flow_0 rfl (lv_at hl 2 rfl) ?_
    refine fk_zle (tgt := 12) S.1 S.2.1 (by omega) d_M_flow_1 rfl (fun hc20 => ?_) (fun hc20 => ?_)
    · exact absurd hc20 (by omega)
    · refine lv_iload_n S.1 S.2.1 d_M_flow_4 rfl (lv_at hl 2 rfl) ?_
      refine lv_iconst (v := nI 1) S.1 S.2.1 d_M_flow_5 (by decide +kernel) ?_
      refine fk_isub S.1 S.2.1 (by omega) d_M_flow_6 ?_
      refine lv_iconst (v := nI 2) S.1 S.2.1 d_M_flow_7 (by decide +kernel) ?_
      refine fk_idiv S.1 S.2.1 (by omega) (by decide) (by decide) d_M_flow_8 ?_
      refine lv_goto (tgt := 13) S.1 S.2.1 d_M_flow_9 rfl ?_
      refine lv_istore (lv' := [(4, .int (nI ((ck - 1) / 2))), (0, .ref (fk_a g 89)), (1, .int vb), (2, .int (nI ck)), (3, .int vi)]) S.1 S.2.1 d_M_flow_13 hl (by decide) rfl (fun ls hl => ?_)
      refine lv_iload_n S.1 S.2.1 d_M_flow_15 rfl (lv_at hl 3 rfl) ?_
      refine lv_if_lt (tgt := 43) S.1 S.2.1 d_M_flow_16 rfl (fun hc21 => ?_) (fun hc21 => ?_)
      · exact absurd hc21 (nI_pos hc2)
      · refine lv_iload S.1 S.2.1 d_M_flow_19 (lv_at hl 0 rfl) ?_
        refine lv_aload_n S.1 S.2.1 d_M_flow_21 rfl (lv_at hl 1 rfl) ?_
        refine fk_gf S E G 89 (by decide) (v := .int (M 89 1)) (congrArg (fk_ce g ov 89 (M 89)) kd_89) rfl 1 (by decide) rfl i_623 rfl d_M_flow_22 ?_
        rw [hn]
        refine fk_cge (tgt := 43) S.1 S.2.1 (by omega) (by omega) d_M_flow_25 rfl (fun hc22 => ?_) (fun hc22 => ?_)
        · have hbit : bd.toNat = 1 := by rw [hb, decide_eq_true (Or.inl hc22)]; rfl
          refine lv_iconst (v := nI 1) S.1 S.2.1 d_M_flow_43 (by decide +kernel) ?_
          refine lv_goto (tgt := 48) S.1 S.2.1 d_M_flow_44 rfl ?_
          refine lv_istore (lv' := [(5, .int (nI 1)), (4, .int (nI ((ck - 1) / 2))), (0, .ref (fk_a g 89)), (1, .int vb), (2, .int (nI ck)), (3, .int vi)]) S.1 S.2.1 d_M_flow_48 hl (by decide) rfl (fun ls hl => ?_)
          have hl : lv_has ls 6 [(5, .int (nI bd.toNat)), (4, .int (nI ((ck - 1) / 2))), (0, .ref (fk_a g 89)), (1, .int vb), (2, .int (nI ck)), (3, .int vi)] := by rw [hbit]; exact hl
          exact tail _ _ _ ls G hl
        · refine lv_iload S.1 S.2.1 d_M_flow_28 (lv_at hl 0 rfl) ?_
          refine lv_if_lt (tgt := 47) S.1 S.2.1 d_M_flow_30 rfl (fun hc23 => ?_) (fun hc23 => ?_)
          · exact absurd hc23 (nI_pos (by omega))
          · refine lv_aload_n S.1 S.2.1 d_M_flow_33 rfl (lv_at hl 1 rfl) ?_
            refine fk_gf S E G 89 (by decide) (v := .ref (fk_a g 90)) (congrArg (fk_ce g ov 89 (M 89)) kd_89) rfl 2 (by decide) rfl i_624 rfl d_M_flow_34 ?_
            refine lv_iload S.1 S.2.1 d_M_flow_37 (lv_at hl 0 rfl) ?_
            refine fk_za S E G 90 (by decide) (congrArg (fk_ce g ov 90 (M 90)) kd_90) ((ck - 1) / 2) rfl (by omega) (by decide) (v := M 90 ((ck - 1) / 2)) rfl d_M_flow_39 ?_
            refine lv_if_ne (tgt := 47) S.1 S.2.1 d_M_flow_40 rfl (fun hc24 => ?_) (fun hc24 => ?_)
            · have hbit : bd.toNat = 0 := by rw [hb, decide_eq_false (fun q => q.elim (fun q => by omega) hc24)]; rfl
              refine lv_iconst (v := nI 0) S.1 S.2.1 d_M_flow_47 (by decide +kernel) ?_
              refine lv_istore (lv' := [(5, .int (nI 0)), (4, .int (nI ((ck - 1) / 2))), (0, .ref (fk_a g 89)), (1, .int vb), (2, .int (nI ck)), (3, .int vi)]) S.1 S.2.1 d_M_flow_48 hl (by decide) rfl (fun ls hl => ?_)
              have hl : lv_has ls 6 [(5, .int (nI bd.toNat)), (4, .int (nI ((ck - 1) / 2))), (0, .ref (fk_a g 89)), (1, .int vb), (2, .int (nI ck)), (3, .int vi)] := by rw [hbit]; exact hl
              exact tail _ _ _ ls G hl
            · have hbit : bd.toNat = 1 := by rw [hb, decide_eq_true (Or.inr hc24)]; rfl
              refine lv_iconst (v := nI 1) S.1 S.2.1 d_M_flow_43 (by decide +kernel) ?_
              refine lv_goto (tgt := 48) S.1 S.2.1 d_M_flow_44 rfl ?_
              refine lv_istore (lv' := [(5, .int (nI 1)), (4, .int (nI ((ck - 1) / 2))), (0, .ref (fk_a g 89)), (1, .int vb), (2, .int (nI ck)), (3, .int vi)]) S.1 S.2.1 d_M_flow_48 hl (by decide) rfl (fun ls hl => ?_)
              have hl : lv_has ls 6 [(5, .int (nI bd.toNat)), (4, .int (nI ((ck - 1) / 2))), (0, .ref (fk_a g 89)), (1, .int vb), (2, .int (nI ck)), (3, .int vi)] := by rw [hbit]; exact hl
              exact tail _ _ _ ls G hl
theorem d_M_type_0 : decode b_M_type 0 = .ok (.iload_n 3, 1) := by decide +kernel
theorem d_M_type_1 : decode b_M_type 1 = .ok (.iconst 1, 1) := by decide +kernel
theorem d_M_type_2 : decode b_M_type 2 = .ok (.if_icmp .lt 9, 3) := by decide +kernel
theorem d_M_type_5 : decode b_M_type 5 = .ok (.iload_n 3, 1) := by decide +kernel
theorem d_M_type_6 : decode b_M_type 6 = .ok (.bipush 8, 2) := by decide +kernel
theorem d_M_type_8 : decode b_M_type 8 = .ok (.if_icmp .le 7, 3) := by decide +kernel
theorem d_M_type_11 : decode b_M_type 11 = .ok (.iconst 1, 1) := by decide +kernel
theorem d_M_type_12 : decode b_M_type 12 = .ok (.goto 4, 3) := by decide +kernel
theorem d_M_type_15 : decode b_M_type 15 = .ok (.iconst 0, 1) := by decide +kernel
theorem d_M_type_16 : decode b_M_type 16 = .ok (.istore 4, 2) := by decide +kernel
theorem d_M_type_18 : decode b_M_type 18 = .ok (.aload_n 0, 1) := by decide +kernel
theorem d_M_type_19 : decode b_M_type 19 = .ok (.iload 4, 2) := by decide +kernel
theorem d_M_type_21 : decode b_M_type 21 = .ok (.iload 4, 2) := by decide +kernel
theorem d_M_type_23 : decode b_M_type 23 = .ok (.ifCond .ne 18, 3) := by decide +kernel
theorem d_M_type_26 : decode b_M_type 26 = .ok (.aload_n 0, 1) := by decide +kernel
theorem d_M_type_27 : decode b_M_type 27 = .ok (.getfield 104, 3) := by decide +kernel
theorem d_M_type_30 : decode b_M_type 30 = .ok (.iload_n 3, 1) := by decide +kernel
theorem d_M_type_31 : decode b_M_type 31 = .ok (.iadd, 1) := by decide +kernel
theorem d_M_type_32 : decode b_M_type 32 = .ok (.bipush 40, 2) := by decide +kernel
theorem d_M_type_34 : decode b_M_type 34 = .ok (.if_icmp .le 7, 3) := by decide +kernel
theorem d_M_type_37 : decode b_M_type 37 = .ok (.iconst 1, 1) := by decide +kernel
theorem d_M_type_38 : decode b_M_type 38 = .ok (.goto 4, 3) := by decide +kernel
theorem d_M_type_41 : decode b_M_type 41 = .ok (.iconst 0, 1) := by decide +kernel
theorem d_M_type_42 : decode b_M_type 42 = .ok (.invokevirtual 97, 3) := by decide +kernel
theorem d_M_type_45 : decode b_M_type 45 = .ok (.ifCond .eq 4, 3) := by decide +kernel
theorem d_M_type_48 : decode b_M_type 48 = .ok (.return_, 1) := by decide +kernel
theorem d_M_type_49 : decode b_M_type 49 = .ok (.iload_n 3, 1) := by decide +kernel
theorem d_M_type_50 : decode b_M_type 50 = .ok (.iconst 1, 1) := by decide +kernel
theorem d_M_type_51 : decode b_M_type 51 = .ok (.isub, 1) := by decide +kernel
theorem d_M_type_52 : decode b_M_type 52 = .ok (.istore 5, 2) := by decide +kernel
theorem d_M_type_54 : decode b_M_type 54 = .ok (.iload 5, 2) := by decide +kernel
theorem d_M_type_56 : decode b_M_type 56 = .ok (.ifCond .lt 40, 3) := by decide +kernel
theorem d_M_type_59 : decode b_M_type 59 = .ok (.aload_n 0, 1) := by decide +kernel
theorem d_M_type_60 : decode b_M_type 60 = .ok (.getfield 59, 3) := by decide +kernel
theorem d_M_type_63 : decode b_M_type 63 = .ok (.aload_n 0, 1) := by decide +kernel
theorem d_M_type_64 : decode b_M_type 64 = .ok (.getfield 104, 3) := by decide +kernel
theorem d_M_type_67 : decode b_M_type 67 = .ok (.lload_n 1, 1) := by decide +kernel
theorem d_M_type_68 : decode b_M_type 68 = .ok (.bipush 8, 2) := by decide +kernel
theorem d_M_type_70 : decode b_M_type 70 = .ok (.iload 5, 2) := by decide +kernel
theorem d_M_type_72 : decode b_M_type 72 = .ok (.imul, 1) := by decide +kernel
theorem d_M_type_73 : decode b_M_type 73 = .ok (.lshr, 1) := by decide +kernel
theorem d_M_type_74 : decode b_M_type 74 = .ok (.ldc2_w 107, 3) := by decide +kernel
theorem d_M_type_77 : decode b_M_type 77 = .ok (.land, 1) := by decide +kernel
theorem d_M_type_78 : decode b_M_type 78 = .ok (.l2i, 1) := by decide +kernel
theorem d_M_type_79 : decode b_M_type 79 = .ok (.iastore, 1) := by decide +kernel
theorem d_M_type_80 : decode b_M_type 80 = .ok (.aload_n 0, 1) := by decide +kernel
theorem d_M_type_81 : decode b_M_type 81 = .ok (.dup, 1) := by decide +kernel
theorem d_M_type_82 : decode b_M_type 82 = .ok (.getfield 104, 3) := by decide +kernel
theorem d_M_type_85 : decode b_M_type 85 = .ok (.iconst 1, 1) := by decide +kernel
theorem d_M_type_86 : decode b_M_type 86 = .ok (.iadd, 1) := by decide +kernel
theorem d_M_type_87 : decode b_M_type 87 = .ok (.putfield 104, 3) := by decide +kernel
theorem d_M_type_90 : decode b_M_type 90 = .ok (.iinc 5 (-1), 3) := by decide +kernel
theorem d_M_type_93 : decode b_M_type 93 = .ok (.goto (-39), 3) := by decide +kernel
theorem d_M_type_96 : decode b_M_type 96 = .ok (.return_, 1) := by decide +kernel
theorem m_M_type : fk_MI y_M_type b_M_type 6 none 2 := ⟨i_739, i_737, i_738, i_8, by decide +kernel⟩
set_option maxHeartbeats 4000000 in
set_option maxRecDepth 100000 in
theorem c_M_typeBad (l : Launch) (g : fk_G) (ov : Int64) (M : fk_M) (w : Int64) (v : Int32) (hv : v < nI 1 ∨ nI 8 < v) : fk_CV l y_M_type b_M_type 6 (fk_rm 1) g ov M (fk_th M 1) [.ref (fk_a g 89), .long w, .int v] := by
  refine fk_ofV rfl (Nat.le_of_ble_eq_true rfl) ?_
  intro p e s m args below meth c ls S hr hlk E G hl
  have hl : lv_has ls 6 [(0, .ref (fk_a g 89)), (1, .long w), (3, .int v)] := hl
  refine lv_iload_n S.1 S.2.1 d_M_type_0 rfl (lv_at hl 2 rfl) ?_
  refine lv_iconst (v := nI 1) S.1 S.2.1 d_M_type_1 (by decide +kernel) ?_
  refine lv_icmp_lt (tgt := 11) S.1 S.2.1 d_M_type_2 rfl (fun hc1 => ?_) (fun hc1 => ?_)
  · refine lv_iconst (v := nI 1) S.1 S.2.1 d_M_type_11 (by decide +kernel) ?_
    refine lv_goto (tgt := 16) S.1 S.2.1 d_M_type_12 rfl ?_
    refine lv_istore (lv' := [(4, .int (nI 1)), (0, .ref (fk_a g 89)), (1, .long w), (3, .int v)]) S.1 S.2.1 d_M_type_16 hl (by decide) rfl (fun ls hl => ?_)
    refine lv_aload_n S.1 S.2.1 d_M_type_18 rfl (lv_at hl 1 rfl) ?_
    refine lv_iload S.1 S.2.1 d_M_type_19 (lv_at hl 0 rfl) ?_
    refine lv_iload S.1 S.2.1 d_M_type_21 (lv_at hl 0 rfl) ?_
    refine fk_zne (tgt := 41) S.1 S.2.1 (by omega) d_M_type_23 rfl (fun hc2 => ?_) (fun hc2 => ?_)
    · refine lv_iconst (v := nI 0) S.1 S.2.1 d_M_type_41 (by decide +kernel) ?_
      refine fk_cvi S E G 89 (by decide) (congrArg (fk_ce g ov 89 (M 89)) kd_89) rfl (rest := []) (c_M_throwing l g ov M 1 0 (by decide) (by decide)) m_M_throwing i_724 ⟨rfl, rfl⟩ ⟨by decide, by decide⟩ rfl rfl hl.1 (Nat.le_of_ble_eq_true rfl) d_M_type_42 ⟨Nat.zero_le _, Nat.zero_le _⟩ (fun H locs G => ?_)
      refine fk_zeq (tgt := 49) S.1 S.2.1 (fk_bl _) d_M_type_45 rfl (fun hc3 => ?_) (fun hc3 => ?_)
      · exact absurd hc3 (by decide)
      · exact fk_vret S hr hlk E G rfl d_M_type_48
    · exact absurd hc2 (by decide)
  · refine lv_iload_n S.1 S.2.1 d_M_type_5 rfl (lv_at hl 2 rfl) ?_
    refine lv_bipush (v := nI 8) S.1 S.2.1 d_M_type_6 (by decide +kernel) ?_
    refine lv_icmp_le (tgt := 15) S.1 S.2.1 d_M_type_8 rfl (fun hc4 => ?_) (fun hc4 => ?_)
    · exact absurd hv (fun q => q.elim hc1 (Int32.not_lt.mpr hc4))
    · refine lv_iconst (v := nI 1) S.1 S.2.1 d_M_type_11 (by decide +kernel) ?_
      refine lv_goto (tgt := 16) S.1 S.2.1 d_M_type_12 rfl ?_
      refine lv_istore (lv' := [(4, .int (nI 1)), (0, .ref (fk_a g 89)), (1, .long w), (3, .int v)]) S.1 S.2.1 d_M_type_16 hl (by decide) rfl (fun ls hl => ?_)
      refine lv_aload_n S.1 S.2.1 d_M_type_18 rfl (lv_at hl 1 rfl) ?_
      refine lv_iload S.1 S.2.1 d_M_type_19 (lv_at hl 0 rfl) ?_
      refine lv_iload S.1 S.2.1 d_M_type_21 (lv_at hl 0 rfl) ?_
      refine fk_zne (tgt := 41) S.1 S.2.1 (by omega) d_M_type_23 rfl (fun hc5 => ?_) (fun hc5 => ?_)
      · refine lv_iconst (v := nI 0) S.1 S.2.1 d_M_type_41 (by decide +kernel) ?_
        refine fk_cvi S E G 89 (by decide) (congrArg (fk_ce g ov 89 (M 89)) kd_89) rfl (rest := []) (c_M_throwing l g ov M 1 0 (by decide) (by decide)) m_M_throwing i_724 ⟨rfl, rfl⟩ ⟨by decide, by decide⟩ rfl rfl hl.1 (Nat.le_of_ble_eq_true rfl) d_M_type_42 ⟨Nat.zero_le _, Nat.zero_le _⟩ (fun H locs G => ?_)
        refine fk_zeq (tgt := 49) S.1 S.2.1 (fk_bl _) d_M_type_45 rfl (fun hc6 => ?_) (fun hc6 => ?_)
        · exact absurd hc6 (by decide)
        · exact fk_vret S hr hlk E G rfl d_M_type_48
      · exact absurd hc5 (by decide)
set_option maxHeartbeats 4000000 in
set_option maxRecDepth 100000 in
theorem c_M_type (l : Launch) (g : fk_G) (ov : Int64) (M : fk_M) (w : Int64) (k : Nat) (h1 : 1 ≤ k) (h8 : k ≤ 8) (dl : Nat) (hdl : M 89 19 = nI dl) (h40 : dl ≤ 40) : fk_CV l y_M_type b_M_type 6 (fk_rm 1) g ov M (if 40 < dl + k then fk_th M 2 else fk_mty w k dl (fk_th M 0)) [.ref (fk_a g 89), .long w, .int (nI k)] := by
  refine fk_ofV rfl (Nat.le_of_ble_eq_true rfl) ?_
  intro p e s m args below meth c ls S hr hlk E G hl
  have hl : lv_has ls 6 [(0, .ref (fk_a g 89)), (1, .long w), (3, .int (nI k))] := hl
  refine lv_iload_n S.1 S.2.1 d_M_type_0 rfl (lv_at hl 2 rfl) ?_
  refine lv_iconst (v := nI 1) S.1 S.2.1 d_M_type_1 (by decide +kernel) ?_
  refine fk_clt (tgt := 11) S.1 S.2.1 (by omega) (by omega) d_M_type_2 rfl (fun hc1 => ?_) (fun hc1 => ?_)
  · exact absurd hc1 (by omega)
  · refine lv_iload_n S.1 S.2.1 d_M_type_5 rfl (lv_at hl 2 rfl) ?_
    refine lv_bipush (v := nI 8) S.1 S.2.1 d_M_type_6 (by decide +kernel) ?_
    refine fk_cle (tgt := 15) S.1 S.2.1 (by omega) (by omega) d_M_type_8 rfl (fun hc2 => ?_) (fun hc2 => ?_)
    · refine lv_iconst (v := nI 0) S.1 S.2.1 d_M_type_15 (by decide +kernel) ?_
      refine lv_istore (lv' := [(4, .int (nI 0)), (0, .ref (fk_a g 89)), (1, .long w), (3, .int (nI k))]) S.1 S.2.1 d_M_type_16 hl (by decide) rfl (fun ls hl => ?_)
      refine lv_aload_n S.1 S.2.1 d_M_type_18 rfl (lv_at hl 1 rfl) ?_
      refine lv_iload S.1 S.2.1 d_M_type_19 (lv_at hl 0 rfl) ?_
      refine lv_iload S.1 S.2.1 d_M_type_21 (lv_at hl 0 rfl) ?_
      refine fk_zne (tgt := 41) S.1 S.2.1 (by omega) d_M_type_23 rfl (fun hc3 => ?_) (fun hc3 => ?_)
      · exact absurd hc3 (by omega)
      · refine lv_aload_n S.1 S.2.1 d_M_type_26 rfl (lv_at hl 1 rfl) ?_
        refine fk_gf S E G 89 (by decide) (v := .int (M 89 19)) (congrArg (fk_ce g ov 89 (M 89)) kd_89) rfl 19 (by decide) rfl i_641 rfl d_M_type_27 ?_
        rw [hdl]
        refine lv_iload_n S.1 S.2.1 d_M_type_30 rfl (lv_at hl 3 rfl) ?_
        refine fk_iadd S.1 S.2.1 d_M_type_31 ?_
        refine lv_bipush (v := nI 40) S.1 S.2.1 d_M_type_32 (by decide +kernel) ?_
        refine fk_cle (tgt := 41) S.1 S.2.1 (by omega) (by omega) d_M_type_34 rfl (fun hc4 => ?_) (fun hc4 => ?_)
        · refine lv_iconst (v := nI 0) S.1 S.2.1 d_M_type_41 (by decide +kernel) ?_
          refine fk_cvi S E G 89 (by decide) (congrArg (fk_ce g ov 89 (M 89)) kd_89) rfl (rest := []) (c_M_throwing l g ov M 0 0 (by decide) (by decide)) m_M_throwing i_724 ⟨rfl, rfl⟩ ⟨by decide, by decide⟩ rfl rfl hl.1 (Nat.le_of_ble_eq_true rfl) d_M_type_42 ⟨Nat.zero_le _, Nat.zero_le _⟩ (fun H locs G => ?_)
          change fk_H g ov (fk_th M 0) s H locs at G
          refine fk_zeq (tgt := 49) S.1 S.2.1 (fk_bl _) d_M_type_45 rfl (fun hc5 => ?_) (fun hc5 => ?_)
          · refine lv_iload_n S.1 S.2.1 d_M_type_49 rfl (lv_at hl 3 rfl) ?_
            refine lv_iconst (v := nI 1) S.1 S.2.1 d_M_type_50 (by decide +kernel) ?_
            refine fk_isub S.1 S.2.1 (by omega) d_M_type_51 ?_
            refine lv_istore (lv' := [(5, .int (nI (k - 1))), (4, .int (nI 0)), (0, .ref (fk_a g 89)), (1, .long w), (3, .int (nI k))]) S.1 S.2.1 d_M_type_52 hl (by decide) rfl (fun ls hl => ?_)
            have loop : ∀ (d : Nat) (u : Nat) (Mc : fk_M) (H : Heap) (locs : List Loc) (ls : Array Slot), u + d ≤ 40 → d ≤ 8 → Mc 89 19 = nI u → fk_mty w d u Mc = (if 40 < dl + k then fk_th M 2 else fk_mty w k dl (fk_th M 0)) → fk_H g ov (Mc) s H locs → lv_has ls 6 [(5, .int (nI d - 1)), (4, .int (nI 0)), (0, .ref (fk_a g 89)), (1, .long w), (3, .int (nI k))] → W p l e (fk_rm (1)) s m args below meth c H locs 0 0 (MQ below (va_Qv (fun (_ : Unit) => True) (fun _ t9 => fk_Wd g ov (if 40 < dl + k then fk_th M 2 else fk_mty w k dl (fk_th M 0)) t9) (fk_A g)) args s 0 0 (fk_A g)) (F0 m 54 ls []) := by
              intro d
              induction d with
              | zero =>
                intro u Mc H locs ls hv0 hv1 hv2 hv3 G hl
                refine lv_iload S.1 S.2.1 d_M_type_54 (lv_at hl 0 rfl) ?_
                refine lv_if_lt (tgt := 96) S.1 S.2.1 d_M_type_56 rfl (fun hc6 => ?_) (fun hc6 => ?_)
                · exact fk_vret S hr hlk E G hv3 d_M_type_96
                · exact absurd (by decide +kernel) hc6
              | succ d ih =>
                intro u Mc H locs ls hv0 hv1 hv2 hv3 G hl
                rw [nI_pred] at hl
                refine lv_iload S.1 S.2.1 d_M_type_54 (lv_at hl 0 rfl) ?_
                refine lv_if_lt (tgt := 96) S.1 S.2.1 d_M_type_56 rfl (fun hc7 => ?_) (fun hc7 => ?_)
                · exact absurd hc7 (nI_pos (by omega))
                · refine lv_aload_n S.1 S.2.1 d_M_type_59 rfl (lv_at hl 2 rfl) ?_
                  refine fk_gf S E G 89 (by decide) (v := .ref (fk_a g 106)) (congrArg (fk_ce g ov 89 (Mc 89)) kd_89) rfl 18 (by decide) rfl i_640 rfl d_M_type_60 ?_
                  refine lv_aload_n S.1 S.2.1 d_M_type_63 rfl (lv_at hl 2 rfl) ?_
                  refine fk_gf S E G 89 (by decide) (v := .int (Mc 89 19)) (congrArg (fk_ce g ov 89 (Mc 89)) kd_89) rfl 19 (by decide) rfl i_641 rfl d_M_type_64 ?_
                  rw [hv2]
                  refine lv_lload_n S.1 S.2.1 d_M_type_67 rfl (lv_at hl 3 rfl) ?_
                  refine lv_bipush (v := nI 8) S.1 S.2.1 d_M_type_68 (by decide +kernel) ?_
                  refine lv_iload S.1 S.2.1 d_M_type_70 (lv_at hl 0 rfl) ?_
                  refine fk_imul S.1 S.2.1 d_M_type_72 ?_
                  refine lv_lshr (v := w >>> ((nI (8 * d)).toInt64 &&& 63)) S.1 S.2.1 d_M_type_73 rfl ?_
                  refine lv_ldc2 S.1 S.2.1 S.2.2.2.1 (S.2.2.2.2 _ i_740) d_M_type_74 ?_
                  refine lv_land S.1 S.2.1 d_M_type_77 ?_
                  refine lv_l2i (v := fk_yb w d) S.1 S.2.1 d_M_type_78 rfl ?_
                  refine fk_is S E G 106 (by decide) (fun r => congrArg (fk_ce g ov 106 r) kd_106) u rfl (by omega) (by decide) d_M_type_79 (fun H locs G => ?_)
                  obtain ⟨M8, hM8⟩ : ∃ z : fk_M, z = va_up Mc 106 (upd (Mc 106) u (fk_yb w d)) := ⟨_, rfl⟩
                  rw [← hM8] at G
                  have e89 : M8 89 = Mc 89 := by rw [hM8, va_up_ne _ _ (by decide)]
                  refine lv_aload_n S.1 S.2.1 d_M_type_80 rfl (lv_at hl 2 rfl) ?_
                  refine lv_dup S.1 S.2.1 d_M_type_81 rfl ?_
                  refine fk_gf S E G 89 (by decide) (v := .int (M8 89 19)) (congrArg (fk_ce g ov 89 (M8 89)) kd_89) rfl 19 (by decide) rfl i_641 rfl d_M_type_82 ?_
                  rw [e89, hv2]
                  refine lv_iconst (v := nI 1) S.1 S.2.1 d_M_type_85 (by decide +kernel) ?_
                  refine fk_iadd S.1 S.2.1 d_M_type_86 ?_
                  refine fk_pf S E G 89 (by decide) (congrArg (fk_ce g ov 89 (M8 89)) kd_89) rfl 19 (by decide) rfl i_641 (upd (M8 89) 19 (nI (u + 1))) (congrArg (fk_ce g ov 89 (upd (M8 89) 19 (nI (u + 1)))) kd_89) rfl (ty := (.int)) (by decide +kernel) rfl rfl (Nat.le_of_ble_eq_true rfl) d_M_type_87 (fun H locs G => ?_)
                  obtain ⟨M9, hM9⟩ : ∃ z : fk_M, z = va_up M8 89 (upd (M8 89) 19 (nI (u + 1))) := ⟨_, rfl⟩
                  rw [← hM9] at G
                  refine lv_iinc (k := 0) (v := nI d - 1) (lv' := [(5, .int (nI d - 1)), (4, .int (nI 0)), (0, .ref (fk_a g 89)), (1, .long w), (3, .int (nI k))]) S.1 S.2.1 d_M_type_90 hl rfl (fk_dec _) (by decide) rfl (fun ls hl => ?_)
                  refine lv_goto (tgt := 54) S.1 S.2.1 d_M_type_93 rfl ?_
                  exact ih (u + 1) M9 H locs ls (by omega) (by omega) (by rw [hM9, va_up_self, pk_us]) (by rw [← hv3, hM9, e89, hM8]; rfl) G hl
            rw [show nI (k - 1) = nI k - 1 by rw [← pk_sub h1]; rfl] at hl
            exact loop k dl (fk_th M 0) H locs ls (by omega) h8 (by rw [fk_th_s (by decide)]; exact hdl) (if_neg (by omega)).symm G hl
          · exact absurd hc5 (by decide)
        · refine lv_iconst (v := nI 1) S.1 S.2.1 d_M_type_37 (by decide +kernel) ?_
          refine lv_goto (tgt := 42) S.1 S.2.1 d_M_type_38 rfl ?_
          refine fk_cvi S E G 89 (by decide) (congrArg (fk_ce g ov 89 (M 89)) kd_89) rfl (rest := []) (c_M_throwing l g ov M 0 1 (by decide) (by decide)) m_M_throwing i_724 ⟨rfl, rfl⟩ ⟨by decide, by decide⟩ rfl rfl hl.1 (Nat.le_of_ble_eq_true rfl) d_M_type_42 ⟨Nat.zero_le _, Nat.zero_le _⟩ (fun H locs G => ?_)
          change fk_H g ov (fk_th M 2) s H locs at G
          refine fk_zeq (tgt := 49) S.1 S.2.1 (fk_bl _) d_M_type_45 rfl (fun hc10 => ?_) (fun hc10 => ?_)
          · exact absurd hc10 (by decide)
          · exact fk_vret S hr hlk E G (if_pos (by omega)).symm d_M_type_48
    · exact absurd hc2 (by omega)
