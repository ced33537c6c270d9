/-! Clockwork: hasInstant, countOf, combine, chosenPart, resultOf. Written by wip/gen/s_clock.py. -/
theorem fk_T_E {b : Nat → Nat} {n cnt : Nat} {E : Nat → Int32} {r x y : Nat} (h : fk_T b n cnt E r x y) : E x = nI y := by
  cases r with
  | zero => exact h.elim
  | succ r => exact h.2.1
/-- the clock ck has an instant now, as the class sees it -/
def fk_hi (M : fk_M) (ck : Nat) : Bool := decide (ck = 0 ∨ (¬ M (3 + 6 * ((ck - 1) / 2)) 5 = 0 ∧ M (3 + 6 * ((ck - 1) / 2)) 6 = nI (ck % 2)))
def fk_cb (k : Nat) (va vb : Int32) : Int32 := match k with
  | 6 => va + vb
  | 7 => va - vb
  | 8 => va * vb
  | 9 => nI (decide (va < vb)).toNat
  | 10 => nI (decide (va = vb)).toNat
  | 11 => va &&& vb
  | _ => va ||| vb
def fk_en (M : fk_M) (x j : Nat) : Nat := (M (x + 2) j).toNatClampNeg
/-- the value of a kind out of its parts' values -/
def fk_ek (M : fk_M) (x k w i : Nat) (v1 v2 v3 : Int32) : Int32 := match k with
  | 0 => nI w - nI 128
  | 1 => nI 1
  | 2 => nI 0
  | 3 => M (3 + 6 * w) 6
  | 4 => nI 1 - v1
  | 5 => -v1
  | 13 => if v1 = nI 1 then v2 else v3
  | 14 => M (x + 4) i
  | 15 => if M 83 (M (x + 3) i).toNatClampNeg = 0 then v1 else v2
  | 16 => v1
  | 17 => v1
  | 18 => if M (3 + 6 * w) 6 = nI 1 then v1 else v2
  | k => fk_cb k v1 v2
def fk_ev (M : fk_M) (x : Nat) (b : Nat → Nat) : Nat → Nat → Int32
  | 0, _ => 0
  | r + 1, i => fk_ek M x (b i) (b (i + 1)) i (fk_ev M x b r (i + fk_hd (b i))) (fk_ev M x b r (fk_en M x (i + fk_hd (b i)))) (fk_ev M x b r (fk_en M x (fk_en M x (i + fk_hd (b i)))))
def fk_cq (M : fk_M) (x k w i c1 c2 c3 : Nat) (v1 : Int32) : Nat := match k with
  | 13 => if v1 = nI 1 then c2 else c3
  | 15 => if M 83 (M (x + 3) i).toNatClampNeg = 0 then c1 else c2
  | 18 => if M (3 + 6 * w) 6 = nI 1 then c1 else c2
  | _ => c1
def fk_cp (M : fk_M) (x : Nat) (b : Nat → Nat) (r i : Nat) : Nat := fk_cq M x (b i) (b (i + 1)) i (i + fk_hd (b i)) (fk_en M x (i + fk_hd (b i))) (fk_en M x (fk_en M x (i + fk_hd (b i)))) (fk_ev M x b r (i + fk_hd (b i)))
theorem fk_en_T {M : fk_M} {x : Nat} {b : Nat → Nat} {n cnt r i y : Nat} (hn : n ≤ 40) (h : fk_T b n cnt (M (x + 2)) r i y) : fk_en M x i = y := by
  unfold fk_en
  have := fk_T_lt _ _ _ h
  rw [fk_T_E h, nI_clamp (by omega)]
theorem d_C_hasInstant_0 : decode b_C_hasInstant 0 = .ok (.iload_n 1, 1) := by decide +kernel
theorem d_C_hasInstant_1 : decode b_C_hasInstant 1 = .ok (.ifCond .ne 5, 3) := by decide +kernel
theorem d_C_hasInstant_4 : decode b_C_hasInstant 4 = .ok (.iconst 1, 1) := by decide +kernel
theorem d_C_hasInstant_5 : decode b_C_hasInstant 5 = .ok (.ireturn, 1) := by decide +kernel
theorem d_C_hasInstant_6 : decode b_C_hasInstant 6 = .ok (.aload_n 0, 1) := by decide +kernel
theorem d_C_hasInstant_7 : decode b_C_hasInstant 7 = .ok (.getfield 15, 3) := by decide +kernel
theorem d_C_hasInstant_10 : decode b_C_hasInstant 10 = .ok (.getfield 35, 3) := by decide +kernel
theorem d_C_hasInstant_13 : decode b_C_hasInstant 13 = .ok (.iload_n 1, 1) := by decide +kernel
theorem d_C_hasInstant_14 : decode b_C_hasInstant 14 = .ok (.invokestatic 91, 3) := by decide +kernel
theorem d_C_hasInstant_17 : decode b_C_hasInstant 17 = .ok (.aaload, 1) := by decide +kernel
theorem d_C_hasInstant_18 : decode b_C_hasInstant 18 = .ok (.astore_n 2, 1) := by decide +kernel
theorem d_C_hasInstant_19 : decode b_C_hasInstant 19 = .ok (.aload_n 2, 1) := by decide +kernel
theorem d_C_hasInstant_20 : decode b_C_hasInstant 20 = .ok (.getfield 39, 3) := by decide +kernel
theorem d_C_hasInstant_23 : decode b_C_hasInstant 23 = .ok (.ifCond .eq 17, 3) := by decide +kernel
theorem d_C_hasInstant_26 : decode b_C_hasInstant 26 = .ok (.aload_n 2, 1) := by decide +kernel
theorem d_C_hasInstant_27 : decode b_C_hasInstant 27 = .ok (.getfield 88, 3) := by decide +kernel
theorem d_C_hasInstant_30 : decode b_C_hasInstant 30 = .ok (.iload_n 1, 1) := by decide +kernel
theorem d_C_hasInstant_31 : decode b_C_hasInstant 31 = .ok (.iconst 2, 1) := by decide +kernel
theorem d_C_hasInstant_32 : decode b_C_hasInstant 32 = .ok (.irem, 1) := by decide +kernel
theorem d_C_hasInstant_33 : decode b_C_hasInstant 33 = .ok (.if_icmp .ne 7, 3) := by decide +kernel
theorem d_C_hasInstant_36 : decode b_C_hasInstant 36 = .ok (.iconst 1, 1) := by decide +kernel
theorem d_C_hasInstant_37 : decode b_C_hasInstant 37 = .ok (.goto 4, 3) := by decide +kernel
theorem d_C_hasInstant_40 : decode b_C_hasInstant 40 = .ok (.iconst 0, 1) := by decide +kernel
theorem d_C_hasInstant_41 : decode b_C_hasInstant 41 = .ok (.ireturn, 1) := by decide +kernel
theorem m_C_hasInstant : fk_MI y_C_hasInstant b_C_hasInstant 3 (some .boolean) 1 := ⟨i_556, i_555, fk_mp (q := (y_C_hasInstant, 3)) (by decide +kernel), i_7, by decide +kernel⟩
set_option maxHeartbeats 4000000 in
set_option maxRecDepth 100000 in
theorem c_C_hasInstant (l : Launch) (g : fk_G) (ov : Int64) (M : fk_M) (ck : Nat) (h25 : ck < 25) : fk_CI l y_C_hasInstant b_C_hasInstant 3 (some .boolean) (fk_rm 1) g ov M M [.ref (fk_a g 82), .int (nI ck)] (nI (fk_hi M ck).toNat) := by
  refine fk_ofI rfl (Nat.le_of_ble_eq_true rfl) ?_
  intro p e s m args below meth c ls S hr hlk E G hl
  have hl : lv_has ls 3 [(0, .ref (fk_a g 82)), (1, .int (nI ck))] := hl
  refine lv_iload_n S.1 S.2.1 d_C_hasInstant_0 rfl (lv_at hl 1 rfl) ?_
  refine fk_zne (tgt := 6) S.1 S.2.1 (by omega) d_C_hasInstant_1 rfl (fun hc1 => ?_) (fun hc1 => ?_)
  · refine lv_aload_n S.1 S.2.1 d_C_hasInstant_6 rfl (lv_at hl 0 rfl) ?_
    refine fk_gf S E G 82 (by decide) (v := .ref (fk_a g 1)) (congrArg (fk_ce g ov 82 (M 82)) kd_82) rfl 0 (by decide) rfl i_188 rfl d_C_hasInstant_7 ?_
    refine fk_gn S E G 1 (by decide) (v := .ref (fk_a g 2)) (congrArg (fk_ce g ov 1 (M 1)) kd_1) rfl 0 (by decide) rfl (List.mem_of_getElem? (i := 35) rfl) rfl d_C_hasInstant_10 ?_
    refine lv_iload_n S.1 S.2.1 d_C_hasInstant_13 rfl (lv_at hl 1 rfl) ?_
    refine fk_cti S E G (rest := [.ref (fk_a g 2)]) (c_D_flowBehind l g ov M ck (by omega) (by omega)) m_D_flowBehind (List.mem_of_getElem? (i := 32) rfl) ⟨rfl, rfl⟩ ⟨by decide, by decide⟩ rfl rfl hl.1 (Nat.le_of_ble_eq_true rfl) d_C_hasInstant_14 ⟨Nat.zero_le _, Nat.zero_le _⟩ (fun H locs G => ?_)
    refine fk_rw S E G ((ck - 1) / 2) rfl (by omega) d_C_hasInstant_17 ?_
    refine lv_astore_n (lv' := [(2, .ref (fk_a g (3 + 6 * ((ck - 1) / 2)))), (0, .ref (fk_a g 82)), (1, .int (nI ck))]) S.1 S.2.1 d_C_hasInstant_18 rfl hl (by decide) rfl (fun ls hl => ?_)
    refine lv_aload_n S.1 S.2.1 d_C_hasInstant_19 rfl (lv_at hl 0 rfl) ?_
    refine fk_gn S E G (3 + 6 * ((ck - 1) / 2)) (by omega) (v := .int (M (3 + 6 * ((ck - 1) / 2)) 5)) (congrArg (fk_ce g ov (3 + 6 * ((ck - 1) / 2)) (M (3 + 6 * ((ck - 1) / 2)))) (fk_kf (show (ck - 1) / 2 < 12 by omega))) rfl 5 (by decide) rfl (List.mem_of_getElem? (i := 30) rfl) rfl d_C_hasInstant_20 ?_
    refine lv_if_eq (tgt := 40) S.1 S.2.1 d_C_hasInstant_23 rfl (fun hc2 => ?_) (fun hc2 => ?_)
    · refine lv_iconst (v := nI 0) S.1 S.2.1 d_C_hasInstant_40 (by decide +kernel) ?_
      exact fk_zret S hr hlk E G rfl (fk_b0 (decide_eq_false (fun q => q.elim (fun q => by omega) (fun q => q.1 hc2)))) (fk_bz _) d_C_hasInstant_41
    · refine lv_aload_n S.1 S.2.1 d_C_hasInstant_26 rfl (lv_at hl 0 rfl) ?_
      refine fk_gn S E G (3 + 6 * ((ck - 1) / 2)) (by omega) (v := .int (M (3 + 6 * ((ck - 1) / 2)) 6)) (congrArg (fk_ce g ov (3 + 6 * ((ck - 1) / 2)) (M (3 + 6 * ((ck - 1) / 2)))) (fk_kf (show (ck - 1) / 2 < 12 by omega))) rfl 6 (by decide) rfl (List.mem_of_getElem? (i := 32) rfl) rfl d_C_hasInstant_27 ?_
      refine lv_iload_n S.1 S.2.1 d_C_hasInstant_30 rfl (lv_at hl 2 rfl) ?_
      refine lv_iconst (v := nI 2) S.1 S.2.1 d_C_hasInstant_31 (by decide +kernel) ?_
      refine fk_irem S.1 S.2.1 (by omega) (by decide) (by decide) d_C_hasInstant_32 ?_
      refine lv_icmp_ne (tgt := 40) S.1 S.2.1 d_C_hasInstant_33 rfl (fun hc3 => ?_) (fun hc3 => ?_)
      · refine lv_iconst (v := nI 0) S.1 S.2.1 d_C_hasInstant_40 (by decide +kernel) ?_
        exact fk_zret S hr hlk E G rfl (fk_b0 (decide_eq_false (fun q => q.elim (fun q => by omega) (fun q => hc3 q.2)))) (fk_bz _) d_C_hasInstant_41
      · refine lv_iconst (v := nI 1) S.1 S.2.1 d_C_hasInstant_36 (by decide +kernel) ?_
        refine lv_goto (tgt := 41) S.1 S.2.1 d_C_hasInstant_37 rfl ?_
        exact fk_zret S hr hlk E G rfl (fk_b1 (decide_eq_true (Or.inr ⟨hc2, hc3⟩))) (fk_bz _) d_C_hasInstant_41
  · refine lv_iconst (v := nI 1) S.1 S.2.1 d_C_hasInstant_4 (by decide +kernel) ?_
    exact fk_zret S hr hlk E G rfl (fk_b1 (decide_eq_true (Or.inl hc1))) (fk_bz _) d_C_hasInstant_5
theorem d_C_countOf_0 : decode b_C_countOf 0 = .ok (.aload_n 0, 1) := by decide +kernel
theorem d_C_countOf_1 : decode b_C_countOf 1 = .ok (.getfield 9, 3) := by decide +kernel
theorem d_C_countOf_4 : decode b_C_countOf 4 = .ok (.aload_n 0, 1) := by decide +kernel
theorem d_C_countOf_5 : decode b_C_countOf 5 = .ok (.getfield 15, 3) := by decide +kernel
theorem d_C_countOf_8 : decode b_C_countOf 8 = .ok (.getfield 35, 3) := by decide +kernel
theorem d_C_countOf_11 : decode b_C_countOf 11 = .ok (.iload_n 1, 1) := by decide +kernel
theorem d_C_countOf_12 : decode b_C_countOf 12 = .ok (.aaload, 1) := by decide +kernel
theorem d_C_countOf_13 : decode b_C_countOf 13 = .ok (.getfield 54, 3) := by decide +kernel
theorem d_C_countOf_16 : decode b_C_countOf 16 = .ok (.iaload, 1) := by decide +kernel
theorem d_C_countOf_17 : decode b_C_countOf 17 = .ok (.ireturn, 1) := by decide +kernel
theorem m_C_countOf : fk_MI y_C_countOf b_C_countOf 2 (some .int) 1 := ⟨i_607, i_606, fk_mp (q := (y_C_countOf, 3)) (by decide +kernel), i_7, by decide +kernel⟩
set_option maxHeartbeats 4000000 in
set_option maxRecDepth 100000 in
theorem c_C_countOf (l : Launch) (g : fk_G) (ov : Int64) (M : fk_M) (j ck : Nat) (hj : j < 12) (hck : M (3 + 6 * j) 3 = nI ck) (h25 : ck < 25) : fk_CI l y_C_countOf b_C_countOf 2 (some .int) (fk_rm 0) g ov M M [.ref (fk_a g 82), .int (nI j)] (M 83 ck) := by
  refine fk_ofI rfl (Nat.le_of_ble_eq_true rfl) ?_
  intro p e s m args below meth c ls S hr hlk E G hl
  have hl : lv_has ls 2 [(0, .ref (fk_a g 82)), (1, .int (nI j))] := hl
  refine lv_aload_n S.1 S.2.1 d_C_countOf_0 rfl (lv_at hl 0 rfl) ?_
  refine fk_gf S E G 82 (by decide) (v := .ref (fk_a g 83)) (congrArg (fk_ce g ov 82 (M 82)) kd_82) rfl 2 (by decide) rfl i_190 rfl d_C_countOf_1 ?_
  refine lv_aload_n S.1 S.2.1 d_C_countOf_4 rfl (lv_at hl 0 rfl) ?_
  refine fk_gf S E G 82 (by decide) (v := .ref (fk_a g 1)) (congrArg (fk_ce g ov 82 (M 82)) kd_82) rfl 0 (by decide) rfl i_188 rfl d_C_countOf_5 ?_
  refine fk_gn S E G 1 (by decide) (v := .ref (fk_a g 2)) (congrArg (fk_ce g ov 1 (M 1)) kd_1) rfl 0 (by decide) rfl (List.mem_of_getElem? (i := 35) rfl) rfl d_C_countOf_8 ?_
  refine lv_iload_n S.1 S.2.1 d_C_countOf_11 rfl (lv_at hl 1 rfl) ?_
  refine fk_rw S E G j rfl (by omega) d_C_countOf_12 ?_
  refine fk_gn S E G (3 + 6 * j) (by omega) (v := .int (M (3 + 6 * j) 3)) (congrArg (fk_ce g ov (3 + 6 * j) (M (3 + 6 * j))) (fk_kf hj)) rfl 3 (by decide) rfl (List.mem_of_getElem? (i := 25) rfl) rfl d_C_countOf_13 ?_
  rw [hck]
  refine fk_ia S E G 83 (by decide) (congrArg (fk_ce g ov 83 (M 83)) kd_83) ck rfl (by omega) (by decide) (v := M 83 ck) rfl d_C_countOf_16 ?_
  exact fk_iret S hr hlk E G rfl rfl d_C_countOf_17
theorem d_C_combine_0 : decode b_C_combine 0 = .ok (.iload_n 0, 1) := by decide +kernel
theorem d_C_combine_1 : decode b_C_combine 1 = .ok (.tableswitch 87 6 12 #[43, 47, 51, 55, 69, 83, 87], 43) := by decide +kernel
theorem d_C_combine_44 : decode b_C_combine 44 = .ok (.iload_n 1, 1) := by decide +kernel
theorem d_C_combine_45 : decode b_C_combine 45 = .ok (.iload_n 2, 1) := by decide +kernel
theorem d_C_combine_46 : decode b_C_combine 46 = .ok (.iadd, 1) := by decide +kernel
theorem d_C_combine_47 : decode b_C_combine 47 = .ok (.ireturn, 1) := by decide +kernel
theorem d_C_combine_48 : decode b_C_combine 48 = .ok (.iload_n 1, 1) := by decide +kernel
theorem d_C_combine_49 : decode b_C_combine 49 = .ok (.iload_n 2, 1) := by decide +kernel
theorem d_C_combine_50 : decode b_C_combine 50 = .ok (.isub, 1) := by decide +kernel
theorem d_C_combine_51 : decode b_C_combine 51 = .ok (.ireturn, 1) := by decide +kernel
theorem d_C_combine_52 : decode b_C_combine 52 = .ok (.iload_n 1, 1) := by decide +kernel
theorem d_C_combine_53 : decode b_C_combine 53 = .ok (.iload_n 2, 1) := by decide +kernel
theorem d_C_combine_54 : decode b_C_combine 54 = .ok (.imul, 1) := by decide +kernel
theorem d_C_combine_55 : decode b_C_combine 55 = .ok (.ireturn, 1) := by decide +kernel
theorem d_C_combine_56 : decode b_C_combine 56 = .ok (.iload_n 1, 1) := by decide +kernel
theorem d_C_combine_57 : decode b_C_combine 57 = .ok (.iload_n 2, 1) := by decide +kernel
theorem d_C_combine_58 : decode b_C_combine 58 = .ok (.if_icmp .ge 7, 3) := by decide +kernel
theorem d_C_combine_61 : decode b_C_combine 61 = .ok (.iconst 1, 1) := by decide +kernel
theorem d_C_combine_62 : decode b_C_combine 62 = .ok (.goto 4, 3) := by decide +kernel
theorem d_C_combine_65 : decode b_C_combine 65 = .ok (.iconst 0, 1) := by decide +kernel
theorem d_C_combine_66 : decode b_C_combine 66 = .ok (.invokestatic 74, 3) := by decide +kernel
theorem d_C_combine_69 : decode b_C_combine 69 = .ok (.ireturn, 1) := by decide +kernel
theorem d_C_combine_70 : decode b_C_combine 70 = .ok (.iload_n 1, 1) := by decide +kernel
theorem d_C_combine_71 : decode b_C_combine 71 = .ok (.iload_n 2, 1) := by decide +kernel
theorem d_C_combine_72 : decode b_C_combine 72 = .ok (.if_icmp .ne 7, 3) := by decide +kernel
theorem d_C_combine_75 : decode b_C_combine 75 = .ok (.iconst 1, 1) := by decide +kernel
theorem d_C_combine_76 : decode b_C_combine 76 = .ok (.goto 4, 3) := by decide +kernel
theorem d_C_combine_79 : decode b_C_combine 79 = .ok (.iconst 0, 1) := by decide +kernel
theorem d_C_combine_80 : decode b_C_combine 80 = .ok (.invokestatic 74, 3) := by decide +kernel
theorem d_C_combine_83 : decode b_C_combine 83 = .ok (.ireturn, 1) := by decide +kernel
theorem d_C_combine_84 : decode b_C_combine 84 = .ok (.iload_n 1, 1) := by decide +kernel
theorem d_C_combine_85 : decode b_C_combine 85 = .ok (.iload_n 2, 1) := by decide +kernel
theorem d_C_combine_86 : decode b_C_combine 86 = .ok (.iand, 1) := by decide +kernel
theorem d_C_combine_87 : decode b_C_combine 87 = .ok (.ireturn, 1) := by decide +kernel
theorem d_C_combine_88 : decode b_C_combine 88 = .ok (.iload_n 1, 1) := by decide +kernel
theorem d_C_combine_89 : decode b_C_combine 89 = .ok (.iload_n 2, 1) := by decide +kernel
theorem d_C_combine_90 : decode b_C_combine 90 = .ok (.ior, 1) := by decide +kernel
theorem d_C_combine_91 : decode b_C_combine 91 = .ok (.ireturn, 1) := by decide +kernel
theorem m_C_combine : fk_MS y_C_combine b_C_combine 3 (some .int) 3 := ⟨i_580, i_579, i_7, by decide +kernel⟩
set_option maxHeartbeats 4000000 in
set_option maxRecDepth 100000 in
theorem c_C_combine (l : Launch) (g : fk_G) (ov : Int64) (M : fk_M) (k : Nat) (h6 : 6 ≤ k) (hk : k ≤ 12) (va vb : Int32) : fk_CI l y_C_combine b_C_combine 3 (some .int) (fk_rm 1) g ov M M [.int (nI k), .int va, .int vb] (fk_cb k va vb) := by
  refine fk_ofI rfl (Nat.le_of_ble_eq_true rfl) ?_
  intro p e s m args below meth c ls S hr hlk E G hl
  have hl : lv_has ls 3 [(0, .int (nI k)), (1, .int va), (2, .int vb)] := hl
  rcases (show k = 6 ∨ k = 7 ∨ k = 8 ∨ k = 9 ∨ k = 10 ∨ k = 11 ∨ k = 12 by omega) with rfl | rfl | rfl | rfl | rfl | rfl | rfl
  · refine lv_iload_n S.1 S.2.1 d_C_combine_0 rfl (lv_at hl 0 rfl) ?_
    refine lv_tableIn (off := 43) (tgt := 44) S.1 S.2.1 d_C_combine_1 (by decide +kernel) (by decide +kernel) (by decide +kernel) rfl ?_
    refine lv_iload_n S.1 S.2.1 d_C_combine_44 rfl (lv_at hl 1 rfl) ?_
    refine lv_iload_n S.1 S.2.1 d_C_combine_45 rfl (lv_at hl 2 rfl) ?_
    refine lv_iadd S.1 S.2.1 d_C_combine_46 ?_
    exact fk_iret S hr hlk E G rfl rfl d_C_combine_47
  · refine lv_iload_n S.1 S.2.1 d_C_combine_0 rfl (lv_at hl 0 rfl) ?_
    refine lv_tableIn (off := 47) (tgt := 48) S.1 S.2.1 d_C_combine_1 (by decide +kernel) (by decide +kernel) (by decide +kernel) rfl ?_
    refine lv_iload_n S.1 S.2.1 d_C_combine_48 rfl (lv_at hl 1 rfl) ?_
    refine lv_iload_n S.1 S.2.1 d_C_combine_49 rfl (lv_at hl 2 rfl) ?_
    refine lv_isub S.1 S.2.1 d_C_combine_50 ?_
    exact fk_iret S hr hlk E G rfl rfl d_C_combine_51
  · refine lv_iload_n S.1 S.2.1 d_C_combine_0 rfl (lv_at hl 0 rfl) ?_
    refine lv_tableIn (off := 51) (tgt := 52) S.1 S.2.1 d_C_combine_1 (by decide +kernel) (by decide +kernel) (by decide +kernel) rfl ?_
    refine lv_iload_n S.1 S.2.1 d_C_combine_52 rfl (lv_at hl 1 rfl) ?_
    refine lv_iload_n S.1 S.2.1 d_C_combine_53 rfl (lv_at hl 2 rfl) ?_
    refine lv_imul S.1 S.2.1 d_C_combine_54 ?_
    exact fk_iret S hr hlk E G rfl rfl d_C_combine_55
  · refine lv_iload_n S.1 S.2.1 d_C_combine_0 rfl (lv_at hl 0 rfl) ?_
    refine lv_tableIn (off := 55) (tgt := 56) S.1 S.2.1 d_C_combine_1 (by decide +kernel) (by decide +kernel) (by decide +kernel) rfl ?_
    refine lv_iload_n S.1 S.2.1 d_C_combine_56 rfl (lv_at hl 1 rfl) ?_
    refine lv_iload_n S.1 S.2.1 d_C_combine_57 rfl (lv_at hl 2 rfl) ?_
    refine lv_icmp_ge (tgt := 65) S.1 S.2.1 d_C_combine_58 rfl (fun hc1 => ?_) (fun hc1 => ?_)
    · refine lv_iconst (v := nI 0) S.1 S.2.1 d_C_combine_65 (by decide +kernel) ?_
      refine fk_cti S E G (rest := []) (c_D_truth l g ov M 0 (by decide)) m_D_truth (List.mem_of_getElem? (i := 37) rfl) ⟨rfl, rfl⟩ ⟨by decide, by decide⟩ rfl rfl hl.1 (Nat.le_of_ble_eq_true rfl) d_C_combine_66 ⟨Nat.zero_le _, Nat.zero_le _⟩ (fun H locs G => ?_)
      exact fk_iret S hr hlk E G rfl (fk_b0 (decide_eq_false (Int32.not_lt.mpr hc1))) d_C_combine_69
    · refine lv_iconst (v := nI 1) S.1 S.2.1 d_C_combine_61 (by decide +kernel) ?_
      refine lv_goto (tgt := 66) S.1 S.2.1 d_C_combine_62 rfl ?_
      refine fk_cti S E G (rest := []) (c_D_truth l g ov M 1 (by decide)) m_D_truth (List.mem_of_getElem? (i := 37) rfl) ⟨rfl, rfl⟩ ⟨by decide, by decide⟩ rfl rfl hl.1 (Nat.le_of_ble_eq_true rfl) d_C_combine_66 ⟨Nat.zero_le _, Nat.zero_le _⟩ (fun H locs G => ?_)
      exact fk_iret S hr hlk E G rfl (fk_b1 (decide_eq_true (Int32.not_le.mp hc1))) d_C_combine_69
  · refine lv_iload_n S.1 S.2.1 d_C_combine_0 rfl (lv_at hl 0 rfl) ?_
    refine lv_tableIn (off := 69) (tgt := 70) S.1 S.2.1 d_C_combine_1 (by decide +kernel) (by decide +kernel) (by decide +kernel) rfl ?_
    refine lv_iload_n S.1 S.2.1 d_C_combine_70 rfl (lv_at hl 1 rfl) ?_
    refine lv_iload_n S.1 S.2.1 d_C_combine_71 rfl (lv_at hl 2 rfl) ?_
    refine lv_icmp_ne (tgt := 79) S.1 S.2.1 d_C_combine_72 rfl (fun hc2 => ?_) (fun hc2 => ?_)
    · refine lv_iconst (v := nI 0) S.1 S.2.1 d_C_combine_79 (by decide +kernel) ?_
      refine fk_cti S E G (rest := []) (c_D_truth l g ov M 0 (by decide)) m_D_truth (List.mem_of_getElem? (i := 37) rfl) ⟨rfl, rfl⟩ ⟨by decide, by decide⟩ rfl rfl hl.1 (Nat.le_of_ble_eq_true rfl) d_C_combine_80 ⟨Nat.zero_le _, Nat.zero_le _⟩ (fun H locs G => ?_)
      exact fk_iret S hr hlk E G rfl (fk_b0 (decide_eq_false hc2)) d_C_combine_83
    · refine lv_iconst (v := nI 1) S.1 S.2.1 d_C_combine_75 (by decide +kernel) ?_
      refine lv_goto (tgt := 80) S.1 S.2.1 d_C_combine_76 rfl ?_
      refine fk_cti S E G (rest := []) (c_D_truth l g ov M 1 (by decide)) m_D_truth (List.mem_of_getElem? (i := 37) rfl) ⟨rfl, rfl⟩ ⟨by decide, by decide⟩ rfl rfl hl.1 (Nat.le_of_ble_eq_true rfl) d_C_combine_80 ⟨Nat.zero_le _, Nat.zero_le _⟩ (fun H locs G => ?_)
      exact fk_iret S hr hlk E G rfl (fk_b1 (decide_eq_true hc2)) d_C_combine_83
  · refine lv_iload_n S.1 S.2.1 d_C_combine_0 rfl (lv_at hl 0 rfl) ?_
    refine lv_tableIn (off := 83) (tgt := 84) S.1 S.2.1 d_C_combine_1 (by decide +kernel) (by decide +kernel) (by decide +kernel) rfl ?_
    refine lv_iload_n S.1 S.2.1 d_C_combine_84 rfl (lv_at hl 1 rfl) ?_
    refine lv_iload_n S.1 S.2.1 d_C_combine_85 rfl (lv_at hl 2 rfl) ?_
    refine lv_iand S.1 S.2.1 d_C_combine_86 ?_
    exact fk_iret S hr hlk E G rfl rfl d_C_combine_87
  · refine lv_iload_n S.1 S.2.1 d_C_combine_0 rfl (lv_at hl 0 rfl) ?_
    refine lv_tableIn (off := 87) (tgt := 88) S.1 S.2.1 d_C_combine_1 (by decide +kernel) (by decide +kernel) (by decide +kernel) rfl ?_
    refine lv_iload_n S.1 S.2.1 d_C_combine_88 rfl (lv_at hl 1 rfl) ?_
    refine lv_iload_n S.1 S.2.1 d_C_combine_89 rfl (lv_at hl 2 rfl) ?_
    refine lv_ior S.1 S.2.1 d_C_combine_90 ?_
    exact fk_iret S hr hlk E G rfl rfl d_C_combine_91
theorem d_C_chosenPart_0 : decode b_C_chosenPart 0 = .ok (.aload_n 1, 1) := by decide +kernel
theorem d_C_chosenPart_1 : decode b_C_chosenPart 1 = .ok (.getfield 101, 3) := by decide +kernel
theorem d_C_chosenPart_4 : decode b_C_chosenPart 4 = .ok (.iload_n 2, 1) := by decide +kernel
theorem d_C_chosenPart_5 : decode b_C_chosenPart 5 = .ok (.iaload, 1) := by decide +kernel
theorem d_C_chosenPart_6 : decode b_C_chosenPart 6 = .ok (.lookupswitch 158 #[(13, 34), (15, 72), (18, 112)], 34) := by decide +kernel
theorem d_C_chosenPart_40 : decode b_C_chosenPart 40 = .ok (.aload_n 0, 1) := by decide +kernel
theorem d_C_chosenPart_41 : decode b_C_chosenPart 41 = .ok (.aload_n 1, 1) := by decide +kernel
theorem d_C_chosenPart_42 : decode b_C_chosenPart 42 = .ok (.aload_n 1, 1) := by decide +kernel
theorem d_C_chosenPart_43 : decode b_C_chosenPart 43 = .ok (.iload_n 2, 1) := by decide +kernel
theorem d_C_chosenPart_44 : decode b_C_chosenPart 44 = .ok (.invokevirtual 107, 3) := by decide +kernel
theorem d_C_chosenPart_47 : decode b_C_chosenPart 47 = .ok (.invokevirtual 84, 3) := by decide +kernel
theorem d_C_chosenPart_50 : decode b_C_chosenPart 50 = .ok (.iconst 1, 1) := by decide +kernel
theorem d_C_chosenPart_51 : decode b_C_chosenPart 51 = .ok (.if_icmp .ne 7, 3) := by decide +kernel
theorem d_C_chosenPart_54 : decode b_C_chosenPart 54 = .ok (.iconst 1, 1) := by decide +kernel
theorem d_C_chosenPart_55 : decode b_C_chosenPart 55 = .ok (.goto 4, 3) := by decide +kernel
theorem d_C_chosenPart_58 : decode b_C_chosenPart 58 = .ok (.iconst 0, 1) := by decide +kernel
theorem d_C_chosenPart_59 : decode b_C_chosenPart 59 = .ok (.istore_n 3, 1) := by decide +kernel
theorem d_C_chosenPart_60 : decode b_C_chosenPart 60 = .ok (.iload_n 3, 1) := by decide +kernel
theorem d_C_chosenPart_61 : decode b_C_chosenPart 61 = .ok (.ifCond .eq 11, 3) := by decide +kernel
theorem d_C_chosenPart_64 : decode b_C_chosenPart 64 = .ok (.aload_n 1, 1) := by decide +kernel
theorem d_C_chosenPart_65 : decode b_C_chosenPart 65 = .ok (.iload_n 2, 1) := by decide +kernel
theorem d_C_chosenPart_66 : decode b_C_chosenPart 66 = .ok (.invokevirtual 116, 3) := by decide +kernel
theorem d_C_chosenPart_69 : decode b_C_chosenPart 69 = .ok (.goto 8, 3) := by decide +kernel
theorem d_C_chosenPart_72 : decode b_C_chosenPart 72 = .ok (.aload_n 1, 1) := by decide +kernel
theorem d_C_chosenPart_73 : decode b_C_chosenPart 73 = .ok (.iload_n 2, 1) := by decide +kernel
theorem d_C_chosenPart_74 : decode b_C_chosenPart 74 = .ok (.invokevirtual 123, 3) := by decide +kernel
theorem d_C_chosenPart_77 : decode b_C_chosenPart 77 = .ok (.ireturn, 1) := by decide +kernel
theorem d_C_chosenPart_78 : decode b_C_chosenPart 78 = .ok (.aload_n 0, 1) := by decide +kernel
theorem d_C_chosenPart_79 : decode b_C_chosenPart 79 = .ok (.getfield 9, 3) := by decide +kernel
theorem d_C_chosenPart_82 : decode b_C_chosenPart 82 = .ok (.aload_n 1, 1) := by decide +kernel
theorem d_C_chosenPart_83 : decode b_C_chosenPart 83 = .ok (.getfield 104, 3) := by decide +kernel
theorem d_C_chosenPart_86 : decode b_C_chosenPart 86 = .ok (.iload_n 2, 1) := by decide +kernel
theorem d_C_chosenPart_87 : decode b_C_chosenPart 87 = .ok (.iaload, 1) := by decide +kernel
theorem d_C_chosenPart_88 : decode b_C_chosenPart 88 = .ok (.iaload, 1) := by decide +kernel
theorem d_C_chosenPart_89 : decode b_C_chosenPart 89 = .ok (.ifCond .ne 7, 3) := by decide +kernel
theorem d_C_chosenPart_92 : decode b_C_chosenPart 92 = .ok (.iconst 1, 1) := by decide +kernel
theorem d_C_chosenPart_93 : decode b_C_chosenPart 93 = .ok (.goto 4, 3) := by decide +kernel
theorem d_C_chosenPart_96 : decode b_C_chosenPart 96 = .ok (.iconst 0, 1) := by decide +kernel
theorem d_C_chosenPart_97 : decode b_C_chosenPart 97 = .ok (.istore 4, 2) := by decide +kernel
theorem d_C_chosenPart_99 : decode b_C_chosenPart 99 = .ok (.iload 4, 2) := by decide +kernel
theorem d_C_chosenPart_101 : decode b_C_chosenPart 101 = .ok (.ifCond .eq 11, 3) := by decide +kernel
theorem d_C_chosenPart_104 : decode b_C_chosenPart 104 = .ok (.aload_n 1, 1) := by decide +kernel
theorem d_C_chosenPart_105 : decode b_C_chosenPart 105 = .ok (.iload_n 2, 1) := by decide +kernel
theorem d_C_chosenPart_106 : decode b_C_chosenPart 106 = .ok (.invokevirtual 107, 3) := by decide +kernel
theorem d_C_chosenPart_109 : decode b_C_chosenPart 109 = .ok (.goto 8, 3) := by decide +kernel
theorem d_C_chosenPart_112 : decode b_C_chosenPart 112 = .ok (.aload_n 1, 1) := by decide +kernel
theorem d_C_chosenPart_113 : decode b_C_chosenPart 113 = .ok (.iload_n 2, 1) := by decide +kernel
theorem d_C_chosenPart_114 : decode b_C_chosenPart 114 = .ok (.invokevirtual 116, 3) := by decide +kernel
theorem d_C_chosenPart_117 : decode b_C_chosenPart 117 = .ok (.ireturn, 1) := by decide +kernel
theorem d_C_chosenPart_118 : decode b_C_chosenPart 118 = .ok (.aload_n 0, 1) := by decide +kernel
theorem d_C_chosenPart_119 : decode b_C_chosenPart 119 = .ok (.getfield 15, 3) := by decide +kernel
theorem d_C_chosenPart_122 : decode b_C_chosenPart 122 = .ok (.getfield 35, 3) := by decide +kernel
theorem d_C_chosenPart_125 : decode b_C_chosenPart 125 = .ok (.aload_n 1, 1) := by decide +kernel
theorem d_C_chosenPart_126 : decode b_C_chosenPart 126 = .ok (.iload_n 2, 1) := by decide +kernel
theorem d_C_chosenPart_127 : decode b_C_chosenPart 127 = .ok (.invokevirtual 110, 3) := by decide +kernel
theorem d_C_chosenPart_130 : decode b_C_chosenPart 130 = .ok (.aaload, 1) := by decide +kernel
theorem d_C_chosenPart_131 : decode b_C_chosenPart 131 = .ok (.getfield 88, 3) := by decide +kernel
theorem d_C_chosenPart_134 : decode b_C_chosenPart 134 = .ok (.iconst 1, 1) := by decide +kernel
theorem d_C_chosenPart_135 : decode b_C_chosenPart 135 = .ok (.if_icmp .ne 7, 3) := by decide +kernel
theorem d_C_chosenPart_138 : decode b_C_chosenPart 138 = .ok (.iconst 1, 1) := by decide +kernel
theorem d_C_chosenPart_139 : decode b_C_chosenPart 139 = .ok (.goto 4, 3) := by decide +kernel
theorem d_C_chosenPart_142 : decode b_C_chosenPart 142 = .ok (.iconst 0, 1) := by decide +kernel
theorem d_C_chosenPart_143 : decode b_C_chosenPart 143 = .ok (.istore 5, 2) := by decide +kernel
theorem d_C_chosenPart_145 : decode b_C_chosenPart 145 = .ok (.iload 5, 2) := by decide +kernel
theorem d_C_chosenPart_147 : decode b_C_chosenPart 147 = .ok (.ifCond .eq 11, 3) := by decide +kernel
theorem d_C_chosenPart_150 : decode b_C_chosenPart 150 = .ok (.aload_n 1, 1) := by decide +kernel
theorem d_C_chosenPart_151 : decode b_C_chosenPart 151 = .ok (.iload_n 2, 1) := by decide +kernel
theorem d_C_chosenPart_152 : decode b_C_chosenPart 152 = .ok (.invokevirtual 107, 3) := by decide +kernel
theorem d_C_chosenPart_155 : decode b_C_chosenPart 155 = .ok (.goto 8, 3) := by decide +kernel
theorem d_C_chosenPart_158 : decode b_C_chosenPart 158 = .ok (.aload_n 1, 1) := by decide +kernel
theorem d_C_chosenPart_159 : decode b_C_chosenPart 159 = .ok (.iload_n 2, 1) := by decide +kernel
theorem d_C_chosenPart_160 : decode b_C_chosenPart 160 = .ok (.invokevirtual 116, 3) := by decide +kernel
theorem d_C_chosenPart_163 : decode b_C_chosenPart 163 = .ok (.ireturn, 1) := by decide +kernel
theorem d_C_chosenPart_164 : decode b_C_chosenPart 164 = .ok (.aload_n 1, 1) := by decide +kernel
theorem d_C_chosenPart_165 : decode b_C_chosenPart 165 = .ok (.iload_n 2, 1) := by decide +kernel
theorem d_C_chosenPart_166 : decode b_C_chosenPart 166 = .ok (.invokevirtual 107, 3) := by decide +kernel
theorem d_C_chosenPart_169 : decode b_C_chosenPart 169 = .ok (.ireturn, 1) := by decide +kernel
theorem m_C_chosenPart : fk_MI y_C_chosenPart b_C_chosenPart 6 (some .int) 2 := ⟨i_566, i_565, fk_mp (q := (y_C_chosenPart, 3)) (by decide +kernel), i_7, by decide +kernel⟩
theorem d_C_resultOf_0 : decode b_C_resultOf 0 = .ok (.aload_n 1, 1) := by decide +kernel
theorem d_C_resultOf_1 : decode b_C_resultOf 1 = .ok (.getfield 101, 3) := by decide +kernel
theorem d_C_resultOf_4 : decode b_C_resultOf 4 = .ok (.iload_n 2, 1) := by decide +kernel
theorem d_C_resultOf_5 : decode b_C_resultOf 5 = .ok (.iaload, 1) := by decide +kernel
theorem d_C_resultOf_6 : decode b_C_resultOf 6 = .ok (.tableswitch 168 0 18 #[90, 103, 105, 107, 143, 156, 168, 168, 168, 168, 168, 168, 168, 131, 124, 131, 131, 131, 131], 90) := by decide +kernel
theorem d_C_resultOf_96 : decode b_C_resultOf 96 = .ok (.aload_n 1, 1) := by decide +kernel
theorem d_C_resultOf_97 : decode b_C_resultOf 97 = .ok (.getfield 101, 3) := by decide +kernel
theorem d_C_resultOf_100 : decode b_C_resultOf 100 = .ok (.iload_n 2, 1) := by decide +kernel
theorem d_C_resultOf_101 : decode b_C_resultOf 101 = .ok (.iconst 1, 1) := by decide +kernel
theorem d_C_resultOf_102 : decode b_C_resultOf 102 = .ok (.iadd, 1) := by decide +kernel
theorem d_C_resultOf_103 : decode b_C_resultOf 103 = .ok (.iaload, 1) := by decide +kernel
theorem d_C_resultOf_104 : decode b_C_resultOf 104 = .ok (.sipush 128, 3) := by decide +kernel
theorem d_C_resultOf_107 : decode b_C_resultOf 107 = .ok (.isub, 1) := by decide +kernel
theorem d_C_resultOf_108 : decode b_C_resultOf 108 = .ok (.ireturn, 1) := by decide +kernel
theorem d_C_resultOf_109 : decode b_C_resultOf 109 = .ok (.iconst 1, 1) := by decide +kernel
theorem d_C_resultOf_110 : decode b_C_resultOf 110 = .ok (.ireturn, 1) := by decide +kernel
theorem d_C_resultOf_111 : decode b_C_resultOf 111 = .ok (.iconst 0, 1) := by decide +kernel
theorem d_C_resultOf_112 : decode b_C_resultOf 112 = .ok (.ireturn, 1) := by decide +kernel
theorem d_C_resultOf_113 : decode b_C_resultOf 113 = .ok (.aload_n 0, 1) := by decide +kernel
theorem d_C_resultOf_114 : decode b_C_resultOf 114 = .ok (.getfield 15, 3) := by decide +kernel
theorem d_C_resultOf_117 : decode b_C_resultOf 117 = .ok (.getfield 35, 3) := by decide +kernel
theorem d_C_resultOf_120 : decode b_C_resultOf 120 = .ok (.aload_n 1, 1) := by decide +kernel
theorem d_C_resultOf_121 : decode b_C_resultOf 121 = .ok (.iload_n 2, 1) := by decide +kernel
theorem d_C_resultOf_122 : decode b_C_resultOf 122 = .ok (.invokevirtual 110, 3) := by decide +kernel
theorem d_C_resultOf_125 : decode b_C_resultOf 125 = .ok (.aaload, 1) := by decide +kernel
theorem d_C_resultOf_126 : decode b_C_resultOf 126 = .ok (.getfield 88, 3) := by decide +kernel
theorem d_C_resultOf_129 : decode b_C_resultOf 129 = .ok (.ireturn, 1) := by decide +kernel
theorem d_C_resultOf_130 : decode b_C_resultOf 130 = .ok (.aload_n 1, 1) := by decide +kernel
theorem d_C_resultOf_131 : decode b_C_resultOf 131 = .ok (.getfield 49, 3) := by decide +kernel
theorem d_C_resultOf_134 : decode b_C_resultOf 134 = .ok (.iload_n 2, 1) := by decide +kernel
theorem d_C_resultOf_135 : decode b_C_resultOf 135 = .ok (.iaload, 1) := by decide +kernel
theorem d_C_resultOf_136 : decode b_C_resultOf 136 = .ok (.ireturn, 1) := by decide +kernel
theorem d_C_resultOf_137 : decode b_C_resultOf 137 = .ok (.aload_n 0, 1) := by decide +kernel
theorem d_C_resultOf_138 : decode b_C_resultOf 138 = .ok (.aload_n 1, 1) := by decide +kernel
theorem d_C_resultOf_139 : decode b_C_resultOf 139 = .ok (.aload_n 0, 1) := by decide +kernel
theorem d_C_resultOf_140 : decode b_C_resultOf 140 = .ok (.aload_n 1, 1) := by decide +kernel
theorem d_C_resultOf_141 : decode b_C_resultOf 141 = .ok (.iload_n 2, 1) := by decide +kernel
theorem d_C_resultOf_142 : decode b_C_resultOf 142 = .ok (.invokevirtual 113, 3) := by decide +kernel
theorem d_C_resultOf_145 : decode b_C_resultOf 145 = .ok (.invokevirtual 84, 3) := by decide +kernel
theorem d_C_resultOf_148 : decode b_C_resultOf 148 = .ok (.ireturn, 1) := by decide +kernel
theorem d_C_resultOf_149 : decode b_C_resultOf 149 = .ok (.iconst 1, 1) := by decide +kernel
theorem d_C_resultOf_150 : decode b_C_resultOf 150 = .ok (.aload_n 0, 1) := by decide +kernel
theorem d_C_resultOf_151 : decode b_C_resultOf 151 = .ok (.aload_n 1, 1) := by decide +kernel
theorem d_C_resultOf_152 : decode b_C_resultOf 152 = .ok (.aload_n 1, 1) := by decide +kernel
theorem d_C_resultOf_153 : decode b_C_resultOf 153 = .ok (.iload_n 2, 1) := by decide +kernel
theorem d_C_resultOf_154 : decode b_C_resultOf 154 = .ok (.invokevirtual 107, 3) := by decide +kernel
theorem d_C_resultOf_157 : decode b_C_resultOf 157 = .ok (.invokevirtual 84, 3) := by decide +kernel
theorem d_C_resultOf_160 : decode b_C_resultOf 160 = .ok (.isub, 1) := by decide +kernel
theorem d_C_resultOf_161 : decode b_C_resultOf 161 = .ok (.ireturn, 1) := by decide +kernel
theorem d_C_resultOf_162 : decode b_C_resultOf 162 = .ok (.aload_n 0, 1) := by decide +kernel
theorem d_C_resultOf_163 : decode b_C_resultOf 163 = .ok (.aload_n 1, 1) := by decide +kernel
theorem d_C_resultOf_164 : decode b_C_resultOf 164 = .ok (.aload_n 1, 1) := by decide +kernel
theorem d_C_resultOf_165 : decode b_C_resultOf 165 = .ok (.iload_n 2, 1) := by decide +kernel
theorem d_C_resultOf_166 : decode b_C_resultOf 166 = .ok (.invokevirtual 107, 3) := by decide +kernel
theorem d_C_resultOf_169 : decode b_C_resultOf 169 = .ok (.invokevirtual 84, 3) := by decide +kernel
theorem d_C_resultOf_172 : decode b_C_resultOf 172 = .ok (.ineg, 1) := by decide +kernel
theorem d_C_resultOf_173 : decode b_C_resultOf 173 = .ok (.ireturn, 1) := by decide +kernel
theorem d_C_resultOf_174 : decode b_C_resultOf 174 = .ok (.aload_n 1, 1) := by decide +kernel
theorem d_C_resultOf_175 : decode b_C_resultOf 175 = .ok (.getfield 101, 3) := by decide +kernel
theorem d_C_resultOf_178 : decode b_C_resultOf 178 = .ok (.iload_n 2, 1) := by decide +kernel
theorem d_C_resultOf_179 : decode b_C_resultOf 179 = .ok (.iaload, 1) := by decide +kernel
theorem d_C_resultOf_180 : decode b_C_resultOf 180 = .ok (.aload_n 0, 1) := by decide +kernel
theorem d_C_resultOf_181 : decode b_C_resultOf 181 = .ok (.aload_n 1, 1) := by decide +kernel
theorem d_C_resultOf_182 : decode b_C_resultOf 182 = .ok (.aload_n 1, 1) := by decide +kernel
theorem d_C_resultOf_183 : decode b_C_resultOf 183 = .ok (.iload_n 2, 1) := by decide +kernel
theorem d_C_resultOf_184 : decode b_C_resultOf 184 = .ok (.invokevirtual 107, 3) := by decide +kernel
theorem d_C_resultOf_187 : decode b_C_resultOf 187 = .ok (.invokevirtual 84, 3) := by decide +kernel
theorem d_C_resultOf_190 : decode b_C_resultOf 190 = .ok (.aload_n 0, 1) := by decide +kernel
theorem d_C_resultOf_191 : decode b_C_resultOf 191 = .ok (.aload_n 1, 1) := by decide +kernel
theorem d_C_resultOf_192 : decode b_C_resultOf 192 = .ok (.aload_n 1, 1) := by decide +kernel
theorem d_C_resultOf_193 : decode b_C_resultOf 193 = .ok (.iload_n 2, 1) := by decide +kernel
theorem d_C_resultOf_194 : decode b_C_resultOf 194 = .ok (.invokevirtual 116, 3) := by decide +kernel
theorem d_C_resultOf_197 : decode b_C_resultOf 197 = .ok (.invokevirtual 84, 3) := by decide +kernel
theorem d_C_resultOf_200 : decode b_C_resultOf 200 = .ok (.invokestatic 119, 3) := by decide +kernel
theorem d_C_resultOf_203 : decode b_C_resultOf 203 = .ok (.ireturn, 1) := by decide +kernel
theorem m_C_resultOf : fk_MI y_C_resultOf b_C_resultOf 3 (some .int) 2 := ⟨i_561, i_560, fk_mp (q := (y_C_resultOf, 3)) (by decide +kernel), i_7, by decide +kernel⟩
set_option maxHeartbeats 4000000 in
set_option maxRecDepth 100000 in
theorem c_C_chosenPart (l : Launch) (g : fk_G) (ov : Int64) (M : fk_M) (x : Nat) (hX : fk_X x) (bf : Nat → Nat) (n cnt : Nat) (hn40 : n ≤ 40) (h12 : cnt ≤ 12) (hb : ∀ j, j < n → M (x + 1) j = nI (bf j)) (hck : ∀ j, j < 40 → ∃ q, q < 25 ∧ M (x + 3) j = nI q) (r i ee : Nat) (ht : fk_T bf n cnt (M (x + 2)) (r + 1) i ee) (h13 : bf i = 13 ∨ bf i = 15 ∨ bf i = 16 ∨ bf i = 17 ∨ bf i = 18) (hR : ∀ j y, fk_T bf n cnt (M (x + 2)) r j y → fk_CI l y_C_resultOf b_C_resultOf 3 (some .int) (fk_rm (2 * r + 3)) g ov M M [.ref (fk_a g 82), .ref (fk_a g x), .int (nI j)] (fk_ev M x bf r j)) : fk_CI l y_C_chosenPart b_C_chosenPart 6 (some .int) (fk_rm (2 * r + 4)) g ov M M [.ref (fk_a g 82), .ref (fk_a g x), .int (nI i)] (nI (fk_cp M x bf r i)) := by
  have hlt := fk_T_lt _ _ _ ht
  obtain ⟨hok, hE, -, hts⟩ := ht
  refine fk_ofI rfl (Nat.le_of_ble_eq_true rfl) ?_
  intro p e s m args below meth c ls S hr hlk E G hl
  have hl : lv_has ls 6 [(0, .ref (fk_a g 82)), (1, .ref (fk_a g x)), (2, .int (nI i))] := hl
  rcases h13 with hk | hk | hk | hk | hk
  · have hok2 := hok.2.1
    have hts0 : fk_Ts (fk_T bf n cnt (M (x + 2)) r) 3 (i + fk_hd (bf i)) ee := by
      have h9 : fk_ar (bf i) = 3 := by rw [hk]; decide
      rw [h9] at hts
      exact hts
    obtain ⟨y1, t1, y2, t2, y3, t3, hz⟩ := hts0
    have l1 := fk_T_lt _ _ _ t1
    have n1 := fk_en_T hn40 t1
    have l2 := fk_T_lt _ _ _ t2
    have n2 := fk_en_T hn40 t2
    have l3 := fk_T_lt _ _ _ t3
    have n3 := fk_en_T hn40 t3
    refine lv_aload_n S.1 S.2.1 d_C_chosenPart_0 rfl (lv_at hl 1 rfl) ?_
    refine fk_gn S E G x (by have := fk_Xlt hX; omega) (v := .ref (fk_a g (x + 1))) (congrArg (fk_ce g ov x (M x)) (fk_kx0 hX)) rfl 0 (by decide) rfl (List.mem_of_getElem? (i := 2) rfl) rfl d_C_chosenPart_1 ?_
    refine lv_iload_n S.1 S.2.1 d_C_chosenPart_4 rfl (lv_at hl 2 rfl) ?_
    refine fk_ia S E G (x + 1) (by have := fk_Xlt hX; omega) (congrArg (fk_ce g ov (x + 1) (M (x + 1))) (fk_kx1 hX)) i rfl (by omega) (by decide) (v := nI 13) (by rw [hb i hok.1, hk]) d_C_chosenPart_5 ?_
    refine lv_lookup (off := 34) (tgt := 40) S.1 S.2.1 d_C_chosenPart_6 (by decide +kernel) (by decide +kernel) rfl ?_
    refine lv_aload_n S.1 S.2.1 d_C_chosenPart_40 rfl (lv_at hl 0 rfl) ?_
    refine lv_aload_n S.1 S.2.1 d_C_chosenPart_41 rfl (lv_at hl 1 rfl) ?_
    refine lv_aload_n S.1 S.2.1 d_C_chosenPart_42 rfl (lv_at hl 1 rfl) ?_
    refine lv_iload_n S.1 S.2.1 d_C_chosenPart_43 rfl (lv_at hl 2 rfl) ?_
    refine fk_cni S E G x (by have := fk_Xlt hX; omega) (congrArg (fk_ce g ov x (M x)) (fk_kx0 hX)) rfl (rest := [.ref (fk_a g x), .ref (fk_a g 82)]) (c_E_firstPart l g ov M x hX i (bf i) (by omega) (by have := hok.2.1; omega) (hb i hok.1)) m_E_firstPart (List.mem_of_getElem? (i := 34) rfl) ⟨rfl, rfl⟩ ⟨by show 0 + 1 ≤ 2 * r + 4; omega, by show 8 + (2 + 11) + 64 * (0) ≤ 64 * (2 * r + 4); omega⟩ rfl rfl hl.1 (Nat.le_of_ble_eq_true rfl) d_C_chosenPart_44 ⟨Nat.zero_le _, Nat.zero_le _⟩ (fun H locs G => ?_)
    refine fk_cvi S E G 82 (by decide) (congrArg (fk_ce g ov 82 (M 82)) kd_82) rfl (rest := []) (hR _ _ t1) m_C_resultOf i_558 ⟨rfl, rfl⟩ ⟨by show 2 * r + 3 + 1 ≤ 2 * r + 4; omega, by show 8 + (3 + 11) + 64 * (2 * r + 3) ≤ 64 * (2 * r + 4); omega⟩ rfl rfl hl.1 (Nat.le_of_ble_eq_true rfl) d_C_chosenPart_47 ⟨Nat.zero_le _, Nat.zero_le _⟩ (fun H locs G => ?_)
    refine lv_iconst (v := nI 1) S.1 S.2.1 d_C_chosenPart_50 (by decide +kernel) ?_
    refine lv_icmp_ne (tgt := 58) S.1 S.2.1 d_C_chosenPart_51 rfl (fun hc1 => ?_) (fun hc1 => ?_)
    · refine lv_iconst (v := nI 0) S.1 S.2.1 d_C_chosenPart_58 (by decide +kernel) ?_
      refine lv_istore_n (lv' := [(3, .int (nI 0)), (0, .ref (fk_a g 82)), (1, .ref (fk_a g x)), (2, .int (nI i))]) S.1 S.2.1 d_C_chosenPart_59 rfl hl (by decide) rfl (fun ls hl => ?_)
      refine lv_iload_n S.1 S.2.1 d_C_chosenPart_60 rfl (lv_at hl 0 rfl) ?_
      refine fk_zeq (tgt := 72) S.1 S.2.1 (by omega) d_C_chosenPart_61 rfl (fun hc2 => ?_) (fun hc2 => ?_)
      · refine lv_aload_n S.1 S.2.1 d_C_chosenPart_72 rfl (lv_at hl 2 rfl) ?_
        refine lv_iload_n S.1 S.2.1 d_C_chosenPart_73 rfl (lv_at hl 3 rfl) ?_
        refine fk_cni S E G x (by have := fk_Xlt hX; omega) (congrArg (fk_ce g ov x (M x)) (fk_kx0 hX)) rfl (rest := []) (fk_T_E t2 ▸ c_E_thirdPart l g ov M x hX i (bf i) (by omega) (by have := hok.2.1; omega) (hb i hok.1) (by omega) y1 (fk_T_E t1) (by omega)) m_E_thirdPart (List.mem_of_getElem? (i := 36) rfl) ⟨rfl, rfl⟩ ⟨by show 2 + 1 ≤ 2 * r + 4; omega, by show 8 + (2 + 11) + 64 * (2) ≤ 64 * (2 * r + 4); omega⟩ rfl rfl hl.1 (Nat.le_of_ble_eq_true rfl) d_C_chosenPart_74 ⟨Nat.zero_le _, Nat.zero_le _⟩ (fun H locs G => ?_)
        exact fk_iret S hr hlk E G rfl (by show _ = nI (fk_cq M x (bf i) _ i _ _ _ _); rw [n1, n2]; rw [hk] at hc1 ⊢; show _ = nI (if _ then _ else _); rw [if_neg hc1]) d_C_chosenPart_77
      · exact absurd hc2 (by omega)
    · refine lv_iconst (v := nI 1) S.1 S.2.1 d_C_chosenPart_54 (by decide +kernel) ?_
      refine lv_goto (tgt := 59) S.1 S.2.1 d_C_chosenPart_55 rfl ?_
      refine lv_istore_n (lv' := [(3, .int (nI 1)), (0, .ref (fk_a g 82)), (1, .ref (fk_a g x)), (2, .int (nI i))]) S.1 S.2.1 d_C_chosenPart_59 rfl hl (by decide) rfl (fun ls hl => ?_)
      refine lv_iload_n S.1 S.2.1 d_C_chosenPart_60 rfl (lv_at hl 0 rfl) ?_
      refine fk_zeq (tgt := 72) S.1 S.2.1 (by omega) d_C_chosenPart_61 rfl (fun hc3 => ?_) (fun hc3 => ?_)
      · exact absurd hc3 (by omega)
      · refine lv_aload_n S.1 S.2.1 d_C_chosenPart_64 rfl (lv_at hl 2 rfl) ?_
        refine lv_iload_n S.1 S.2.1 d_C_chosenPart_65 rfl (lv_at hl 3 rfl) ?_
        refine fk_cni S E G x (by have := fk_Xlt hX; omega) (congrArg (fk_ce g ov x (M x)) (fk_kx0 hX)) rfl (rest := []) (fk_T_E t1 ▸ c_E_secondPart l g ov M x hX i (bf i) (by omega) (by have := hok.2.1; omega) (hb i hok.1) (by omega)) m_E_secondPart (List.mem_of_getElem? (i := 35) rfl) ⟨rfl, rfl⟩ ⟨by show 1 + 1 ≤ 2 * r + 4; omega, by show 8 + (2 + 11) + 64 * (1) ≤ 64 * (2 * r + 4); omega⟩ rfl rfl hl.1 (Nat.le_of_ble_eq_true rfl) d_C_chosenPart_66 ⟨Nat.zero_le _, Nat.zero_le _⟩ (fun H locs G => ?_)
        refine lv_goto (tgt := 77) S.1 S.2.1 d_C_chosenPart_69 rfl ?_
        exact fk_iret S hr hlk E G rfl (by show _ = nI (fk_cq M x (bf i) _ i _ _ _ _); rw [n1]; rw [hk] at hc1 ⊢; show _ = nI (if _ then _ else _); rw [if_pos hc1]) d_C_chosenPart_77
  · have hok2 := hok.2.1
    have hts0 : fk_Ts (fk_T bf n cnt (M (x + 2)) r) 2 (i + fk_hd (bf i)) ee := by
      have h9 : fk_ar (bf i) = 2 := by rw [hk]; decide
      rw [h9] at hts
      exact hts
    obtain ⟨y1, t1, y2, t2, hz⟩ := hts0
    have l1 := fk_T_lt _ _ _ t1
    have n1 := fk_en_T hn40 t1
    have l2 := fk_T_lt _ _ _ t2
    have n2 := fk_en_T hn40 t2
    refine lv_aload_n S.1 S.2.1 d_C_chosenPart_0 rfl (lv_at hl 1 rfl) ?_
    refine fk_gn S E G x (by have := fk_Xlt hX; omega) (v := .ref (fk_a g (x + 1))) (congrArg (fk_ce g ov x (M x)) (fk_kx0 hX)) rfl 0 (by decide) rfl (List.mem_of_getElem? (i := 2) rfl) rfl d_C_chosenPart_1 ?_
    refine lv_iload_n S.1 S.2.1 d_C_chosenPart_4 rfl (lv_at hl 2 rfl) ?_
    refine fk_ia S E G (x + 1) (by have := fk_Xlt hX; omega) (congrArg (fk_ce g ov (x + 1) (M (x + 1))) (fk_kx1 hX)) i rfl (by omega) (by decide) (v := nI 15) (by rw [hb i hok.1, hk]) d_C_chosenPart_5 ?_
    refine lv_lookup (off := 72) (tgt := 78) S.1 S.2.1 d_C_chosenPart_6 (by decide +kernel) (by decide +kernel) rfl ?_
    obtain ⟨w, hw1, hw2⟩ := hck i (by omega)
    refine lv_aload_n S.1 S.2.1 d_C_chosenPart_78 rfl (lv_at hl 0 rfl) ?_
    refine fk_gf S E G 82 (by decide) (v := .ref (fk_a g 83)) (congrArg (fk_ce g ov 82 (M 82)) kd_82) rfl 2 (by decide) rfl i_190 rfl d_C_chosenPart_79 ?_
    refine lv_aload_n S.1 S.2.1 d_C_chosenPart_82 rfl (lv_at hl 1 rfl) ?_
    refine fk_gn S E G x (by have := fk_Xlt hX; omega) (v := .ref (fk_a g (x + 3))) (congrArg (fk_ce g ov x (M x)) (fk_kx0 hX)) rfl 2 (by decide) rfl (List.mem_of_getElem? (i := 5) rfl) rfl d_C_chosenPart_83 ?_
    refine lv_iload_n S.1 S.2.1 d_C_chosenPart_86 rfl (lv_at hl 2 rfl) ?_
    refine fk_ia S E G (x + 3) (by have := fk_Xlt hX; omega) (congrArg (fk_ce g ov (x + 3) (M (x + 3))) (fk_kx3 hX)) i rfl (by omega) (by decide) (v := nI w) hw2 d_C_chosenPart_87 ?_
    refine fk_ia S E G 83 (by decide) (congrArg (fk_ce g ov 83 (M 83)) kd_83) w rfl (by omega) (by decide) (v := M 83 w) rfl d_C_chosenPart_88 ?_
    refine lv_if_ne (tgt := 96) S.1 S.2.1 d_C_chosenPart_89 rfl (fun hc4 => ?_) (fun hc4 => ?_)
    · refine lv_iconst (v := nI 0) S.1 S.2.1 d_C_chosenPart_96 (by decide +kernel) ?_
      refine lv_istore (lv' := [(4, .int (nI 0)), (0, .ref (fk_a g 82)), (1, .ref (fk_a g x)), (2, .int (nI i))]) S.1 S.2.1 d_C_chosenPart_97 hl (by decide) rfl (fun ls hl => ?_)
      refine lv_iload S.1 S.2.1 d_C_chosenPart_99 (lv_at hl 0 rfl) ?_
      refine fk_zeq (tgt := 112) S.1 S.2.1 (by omega) d_C_chosenPart_101 rfl (fun hc5 => ?_) (fun hc5 => ?_)
      · refine lv_aload_n S.1 S.2.1 d_C_chosenPart_112 rfl (lv_at hl 2 rfl) ?_
        refine lv_iload_n S.1 S.2.1 d_C_chosenPart_113 rfl (lv_at hl 3 rfl) ?_
        refine fk_cni S E G x (by have := fk_Xlt hX; omega) (congrArg (fk_ce g ov x (M x)) (fk_kx0 hX)) rfl (rest := []) (fk_T_E t1 ▸ c_E_secondPart l g ov M x hX i (bf i) (by omega) (by have := hok.2.1; omega) (hb i hok.1) (by omega)) m_E_secondPart (List.mem_of_getElem? (i := 35) rfl) ⟨rfl, rfl⟩ ⟨by show 1 + 1 ≤ 2 * r + 4; omega, by show 8 + (2 + 11) + 64 * (1) ≤ 64 * (2 * r + 4); omega⟩ rfl rfl hl.1 (Nat.le_of_ble_eq_true rfl) d_C_chosenPart_114 ⟨Nat.zero_le _, Nat.zero_le _⟩ (fun H locs G => ?_)
        exact fk_iret S hr hlk E G rfl (by show _ = nI (fk_cq M x (bf i) _ i _ _ _ _); rw [n1, hk]; show _ = nI (if M 83 (M (x + 3) i).toNatClampNeg = 0 then _ else _); rw [hw2, nI_clamp (by omega), if_neg hc4]) d_C_chosenPart_117
      · exact absurd hc5 (by omega)
    · refine lv_iconst (v := nI 1) S.1 S.2.1 d_C_chosenPart_92 (by decide +kernel) ?_
      refine lv_goto (tgt := 97) S.1 S.2.1 d_C_chosenPart_93 rfl ?_
      refine lv_istore (lv' := [(4, .int (nI 1)), (0, .ref (fk_a g 82)), (1, .ref (fk_a g x)), (2, .int (nI i))]) S.1 S.2.1 d_C_chosenPart_97 hl (by decide) rfl (fun ls hl => ?_)
      refine lv_iload S.1 S.2.1 d_C_chosenPart_99 (lv_at hl 0 rfl) ?_
      refine fk_zeq (tgt := 112) S.1 S.2.1 (by omega) d_C_chosenPart_101 rfl (fun hc6 => ?_) (fun hc6 => ?_)
      · exact absurd hc6 (by omega)
      · refine lv_aload_n S.1 S.2.1 d_C_chosenPart_104 rfl (lv_at hl 2 rfl) ?_
        refine lv_iload_n S.1 S.2.1 d_C_chosenPart_105 rfl (lv_at hl 3 rfl) ?_
        refine fk_cni S E G x (by have := fk_Xlt hX; omega) (congrArg (fk_ce g ov x (M x)) (fk_kx0 hX)) rfl (rest := []) (c_E_firstPart l g ov M x hX i (bf i) (by omega) (by have := hok.2.1; omega) (hb i hok.1)) m_E_firstPart (List.mem_of_getElem? (i := 34) rfl) ⟨rfl, rfl⟩ ⟨by show 0 + 1 ≤ 2 * r + 4; omega, by show 8 + (2 + 11) + 64 * (0) ≤ 64 * (2 * r + 4); omega⟩ rfl rfl hl.1 (Nat.le_of_ble_eq_true rfl) d_C_chosenPart_106 ⟨Nat.zero_le _, Nat.zero_le _⟩ (fun H locs G => ?_)
        refine lv_goto (tgt := 117) S.1 S.2.1 d_C_chosenPart_109 rfl ?_
        exact fk_iret S hr hlk E G rfl (by show _ = nI (fk_cq M x (bf i) _ i _ _ _ _); rw [hk]; show _ = nI (if M 83 (M (x + 3) i).toNatClampNeg = 0 then _ else _); rw [hw2, nI_clamp (by omega), if_pos hc4]) d_C_chosenPart_117
  · have hok2 := hok.2.1
    refine lv_aload_n S.1 S.2.1 d_C_chosenPart_0 rfl (lv_at hl 1 rfl) ?_
    refine fk_gn S E G x (by have := fk_Xlt hX; omega) (v := .ref (fk_a g (x + 1))) (congrArg (fk_ce g ov x (M x)) (fk_kx0 hX)) rfl 0 (by decide) rfl (List.mem_of_getElem? (i := 2) rfl) rfl d_C_chosenPart_1 ?_
    refine lv_iload_n S.1 S.2.1 d_C_chosenPart_4 rfl (lv_at hl 2 rfl) ?_
    refine fk_ia S E G (x + 1) (by have := fk_Xlt hX; omega) (congrArg (fk_ce g ov (x + 1) (M (x + 1))) (fk_kx1 hX)) i rfl (by omega) (by decide) (v := nI 16) (by rw [hb i hok.1, hk]) d_C_chosenPart_5 ?_
    refine lv_lookup (off := 158) (tgt := 164) S.1 S.2.1 d_C_chosenPart_6 (by decide +kernel) (by decide +kernel) rfl ?_
    refine lv_aload_n S.1 S.2.1 d_C_chosenPart_164 rfl (lv_at hl 1 rfl) ?_
    refine lv_iload_n S.1 S.2.1 d_C_chosenPart_165 rfl (lv_at hl 2 rfl) ?_
    refine fk_cni S E G x (by have := fk_Xlt hX; omega) (congrArg (fk_ce g ov x (M x)) (fk_kx0 hX)) rfl (rest := []) (c_E_firstPart l g ov M x hX i (bf i) (by omega) (by have := hok.2.1; omega) (hb i hok.1)) m_E_firstPart (List.mem_of_getElem? (i := 34) rfl) ⟨rfl, rfl⟩ ⟨by show 0 + 1 ≤ 2 * r + 4; omega, by show 8 + (2 + 11) + 64 * (0) ≤ 64 * (2 * r + 4); omega⟩ rfl rfl hl.1 (Nat.le_of_ble_eq_true rfl) d_C_chosenPart_166 ⟨Nat.zero_le _, Nat.zero_le _⟩ (fun H locs G => ?_)
    exact fk_iret S hr hlk E G rfl (by show _ = nI (fk_cq M x (bf i) _ i _ _ _ _); rw [hk]; rfl) d_C_chosenPart_169
  · have hok2 := hok.2.1
    refine lv_aload_n S.1 S.2.1 d_C_chosenPart_0 rfl (lv_at hl 1 rfl) ?_
    refine fk_gn S E G x (by have := fk_Xlt hX; omega) (v := .ref (fk_a g (x + 1))) (congrArg (fk_ce g ov x (M x)) (fk_kx0 hX)) rfl 0 (by decide) rfl (List.mem_of_getElem? (i := 2) rfl) rfl d_C_chosenPart_1 ?_
    refine lv_iload_n S.1 S.2.1 d_C_chosenPart_4 rfl (lv_at hl 2 rfl) ?_
    refine fk_ia S E G (x + 1) (by have := fk_Xlt hX; omega) (congrArg (fk_ce g ov (x + 1) (M (x + 1))) (fk_kx1 hX)) i rfl (by omega) (by decide) (v := nI 17) (by rw [hb i hok.1, hk]) d_C_chosenPart_5 ?_
    refine lv_lookup (off := 158) (tgt := 164) S.1 S.2.1 d_C_chosenPart_6 (by decide +kernel) (by decide +kernel) rfl ?_
    refine lv_aload_n S.1 S.2.1 d_C_chosenPart_164 rfl (lv_at hl 1 rfl) ?_
    refine lv_iload_n S.1 S.2.1 d_C_chosenPart_165 rfl (lv_at hl 2 rfl) ?_
    refine fk_cni S E G x (by have := fk_Xlt hX; omega) (congrArg (fk_ce g ov x (M x)) (fk_kx0 hX)) rfl (rest := []) (c_E_firstPart l g ov M x hX i (bf i) (by omega) (by have := hok.2.1; omega) (hb i hok.1)) m_E_firstPart (List.mem_of_getElem? (i := 34) rfl) ⟨rfl, rfl⟩ ⟨by show 0 + 1 ≤ 2 * r + 4; omega, by show 8 + (2 + 11) + 64 * (0) ≤ 64 * (2 * r + 4); omega⟩ rfl rfl hl.1 (Nat.le_of_ble_eq_true rfl) d_C_chosenPart_166 ⟨Nat.zero_le _, Nat.zero_le _⟩ (fun H locs G => ?_)
    exact fk_iret S hr hlk E G rfl (by show _ = nI (fk_cq M x (bf i) _ i _ _ _ _); rw [hk]; rfl) d_C_chosenPart_169
  · have hok2 := hok.2.1
    have hts0 : fk_Ts (fk_T bf n cnt (M (x + 2)) r) 2 (i + fk_hd (bf i)) ee := by
      have h9 : fk_ar (bf i) = 2 := by rw [hk]; decide
      rw [h9] at hts
      exact hts
    obtain ⟨y1, t1, y2, t2, hz⟩ := hts0
    have l1 := fk_T_lt _ _ _ t1
    have n1 := fk_en_T hn40 t1
    have l2 := fk_T_lt _ _ _ t2
    have n2 := fk_en_T hn40 t2
    refine lv_aload_n S.1 S.2.1 d_C_chosenPart_0 rfl (lv_at hl 1 rfl) ?_
    refine fk_gn S E G x (by have := fk_Xlt hX; omega) (v := .ref (fk_a g (x + 1))) (congrArg (fk_ce g ov x (M x)) (fk_kx0 hX)) rfl 0 (by decide) rfl (List.mem_of_getElem? (i := 2) rfl) rfl d_C_chosenPart_1 ?_
    refine lv_iload_n S.1 S.2.1 d_C_chosenPart_4 rfl (lv_at hl 2 rfl) ?_
    refine fk_ia S E G (x + 1) (by have := fk_Xlt hX; omega) (congrArg (fk_ce g ov (x + 1) (M (x + 1))) (fk_kx1 hX)) i rfl (by omega) (by decide) (v := nI 18) (by rw [hb i hok.1, hk]) d_C_chosenPart_5 ?_
    refine lv_lookup (off := 112) (tgt := 118) S.1 S.2.1 d_C_chosenPart_6 (by decide +kernel) (by decide +kernel) rfl ?_
    have hw := hok.2.2.2 (by omega)
    have hd2 := fk_hd2 (k := bf i) (by omega)
    have hlen := hok.2.2.1
    refine lv_aload_n S.1 S.2.1 d_C_chosenPart_118 rfl (lv_at hl 0 rfl) ?_
    refine fk_gf S E G 82 (by decide) (v := .ref (fk_a g 1)) (congrArg (fk_ce g ov 82 (M 82)) kd_82) rfl 0 (by decide) rfl i_188 rfl d_C_chosenPart_119 ?_
    refine fk_gn S E G 1 (by decide) (v := .ref (fk_a g 2)) (congrArg (fk_ce g ov 1 (M 1)) kd_1) rfl 0 (by decide) rfl (List.mem_of_getElem? (i := 35) rfl) rfl d_C_chosenPart_122 ?_
    refine lv_aload_n S.1 S.2.1 d_C_chosenPart_125 rfl (lv_at hl 1 rfl) ?_
    refine lv_iload_n S.1 S.2.1 d_C_chosenPart_126 rfl (lv_at hl 2 rfl) ?_
    refine fk_cni S E G x (by have := fk_Xlt hX; omega) (congrArg (fk_ce g ov x (M x)) (fk_kx0 hX)) rfl (rest := [.ref (fk_a g 2)]) (hb (i + 1) (by omega) ▸ c_E_named l g ov M x hX i (by omega)) m_E_named (List.mem_of_getElem? (i := 33) rfl) ⟨rfl, rfl⟩ ⟨by show 0 + 1 ≤ 2 * r + 4; omega, by show 8 + (2 + 11) + 64 * (0) ≤ 64 * (2 * r + 4); omega⟩ rfl rfl hl.1 (Nat.le_of_ble_eq_true rfl) d_C_chosenPart_127 ⟨Nat.zero_le _, Nat.zero_le _⟩ (fun H locs G => ?_)
    refine fk_rw S E G (bf (i + 1)) rfl (by omega) d_C_chosenPart_130 ?_
    refine fk_gn S E G (3 + 6 * (bf (i + 1))) (by omega) (v := .int (M (3 + 6 * (bf (i + 1))) 6)) (congrArg (fk_ce g ov (3 + 6 * (bf (i + 1))) (M (3 + 6 * (bf (i + 1))))) (fk_kf (show bf (i + 1) < 12 by omega))) rfl 6 (by decide) rfl (List.mem_of_getElem? (i := 32) rfl) rfl d_C_chosenPart_131 ?_
    refine lv_iconst (v := nI 1) S.1 S.2.1 d_C_chosenPart_134 (by decide +kernel) ?_
    refine lv_icmp_ne (tgt := 142) S.1 S.2.1 d_C_chosenPart_135 rfl (fun hc7 => ?_) (fun hc7 => ?_)
    · refine lv_iconst (v := nI 0) S.1 S.2.1 d_C_chosenPart_142 (by decide +kernel) ?_
      refine lv_istore (lv' := [(5, .int (nI 0)), (0, .ref (fk_a g 82)), (1, .ref (fk_a g x)), (2, .int (nI i))]) S.1 S.2.1 d_C_chosenPart_143 hl (by decide) rfl (fun ls hl => ?_)
      refine lv_iload S.1 S.2.1 d_C_chosenPart_145 (lv_at hl 0 rfl) ?_
      refine fk_zeq (tgt := 158) S.1 S.2.1 (by omega) d_C_chosenPart_147 rfl (fun hc8 => ?_) (fun hc8 => ?_)
      · refine lv_aload_n S.1 S.2.1 d_C_chosenPart_158 rfl (lv_at hl 2 rfl) ?_
        refine lv_iload_n S.1 S.2.1 d_C_chosenPart_159 rfl (lv_at hl 3 rfl) ?_
        refine fk_cni S E G x (by have := fk_Xlt hX; omega) (congrArg (fk_ce g ov x (M x)) (fk_kx0 hX)) rfl (rest := []) (fk_T_E t1 ▸ c_E_secondPart l g ov M x hX i (bf i) (by omega) (by have := hok.2.1; omega) (hb i hok.1) (by omega)) m_E_secondPart (List.mem_of_getElem? (i := 35) rfl) ⟨rfl, rfl⟩ ⟨by show 1 + 1 ≤ 2 * r + 4; omega, by show 8 + (2 + 11) + 64 * (1) ≤ 64 * (2 * r + 4); omega⟩ rfl rfl hl.1 (Nat.le_of_ble_eq_true rfl) d_C_chosenPart_160 ⟨Nat.zero_le _, Nat.zero_le _⟩ (fun H locs G => ?_)
        exact fk_iret S hr hlk E G rfl (by show _ = nI (fk_cq M x (bf i) _ i _ _ _ _); rw [n1, hk]; show _ = nI (if _ then _ else _); rw [if_neg hc7]) d_C_chosenPart_163
      · exact absurd hc8 (by omega)
    · refine lv_iconst (v := nI 1) S.1 S.2.1 d_C_chosenPart_138 (by decide +kernel) ?_
      refine lv_goto (tgt := 143) S.1 S.2.1 d_C_chosenPart_139 rfl ?_
      refine lv_istore (lv' := [(5, .int (nI 1)), (0, .ref (fk_a g 82)), (1, .ref (fk_a g x)), (2, .int (nI i))]) S.1 S.2.1 d_C_chosenPart_143 hl (by decide) rfl (fun ls hl => ?_)
      refine lv_iload S.1 S.2.1 d_C_chosenPart_145 (lv_at hl 0 rfl) ?_
      refine fk_zeq (tgt := 158) S.1 S.2.1 (by omega) d_C_chosenPart_147 rfl (fun hc9 => ?_) (fun hc9 => ?_)
      · exact absurd hc9 (by omega)
      · refine lv_aload_n S.1 S.2.1 d_C_chosenPart_150 rfl (lv_at hl 2 rfl) ?_
        refine lv_iload_n S.1 S.2.1 d_C_chosenPart_151 rfl (lv_at hl 3 rfl) ?_
        refine fk_cni S E G x (by have := fk_Xlt hX; omega) (congrArg (fk_ce g ov x (M x)) (fk_kx0 hX)) rfl (rest := []) (c_E_firstPart l g ov M x hX i (bf i) (by omega) (by have := hok.2.1; omega) (hb i hok.1)) m_E_firstPart (List.mem_of_getElem? (i := 34) rfl) ⟨rfl, rfl⟩ ⟨by show 0 + 1 ≤ 2 * r + 4; omega, by show 8 + (2 + 11) + 64 * (0) ≤ 64 * (2 * r + 4); omega⟩ rfl rfl hl.1 (Nat.le_of_ble_eq_true rfl) d_C_chosenPart_152 ⟨Nat.zero_le _, Nat.zero_le _⟩ (fun H locs G => ?_)
        refine lv_goto (tgt := 163) S.1 S.2.1 d_C_chosenPart_155 rfl ?_
        exact fk_iret S hr hlk E G rfl (by show _ = nI (fk_cq M x (bf i) _ i _ _ _ _); rw [hk]; show _ = nI (if _ then _ else _); rw [if_pos hc7]) d_C_chosenPart_163
set_option maxHeartbeats 8000000 in
set_option maxRecDepth 100000 in
theorem c_C_resultOf (l : Launch) (g : fk_G) (ov : Int64) (M : fk_M) (x : Nat) (hX : fk_X x) (bf : Nat → Nat) (n cnt : Nat) (hn40 : n ≤ 40) (h12 : cnt ≤ 12) (hb : ∀ j, j < n → M (x + 1) j = nI (bf j)) (hck : ∀ j, j < 40 → ∃ q, q < 25 ∧ M (x + 3) j = nI q) : ∀ (r i ee : Nat), fk_T bf n cnt (M (x + 2)) r i ee → fk_CI l y_C_resultOf b_C_resultOf 3 (some .int) (fk_rm (2 * r + 3)) g ov M M [.ref (fk_a g 82), .ref (fk_a g x), .int (nI i)] (fk_ev M x bf r i) := by
  intro r
  induction r with
  | zero => intro i ee ht; exact ht.elim
  | succ r ih =>
    intro i ee ht
    have hlt := fk_T_lt _ _ _ ht
    have ht0 := ht
    obtain ⟨hok, hE, -, hts⟩ := ht
    have hok2 := hok.2.1
    have hlen := hok.2.2.1
    have hhd := fk_hd_pos (bf i)
    refine fk_ofI rfl (Nat.le_of_ble_eq_true rfl) ?_
    intro p e s m args below meth c ls S hr hlk E G hl
    have hl : lv_has ls 3 [(0, .ref (fk_a g 82)), (1, .ref (fk_a g x)), (2, .int (nI i))] := hl
    rcases (show bf i = 0 ∨ bf i = 1 ∨ bf i = 2 ∨ bf i = 3 ∨ bf i = 4 ∨ bf i = 5 ∨ bf i = 6 ∨ bf i = 7 ∨ bf i = 8 ∨ bf i = 9 ∨ bf i = 10 ∨ bf i = 11 ∨ bf i = 12 ∨ bf i = 13 ∨ bf i = 14 ∨ bf i = 15 ∨ bf i = 16 ∨ bf i = 17 ∨ bf i = 18 by omega) with hk | hk | hk | hk | hk | hk | hk | hk | hk | hk | hk | hk | hk | hk | hk | hk | hk | hk | hk
    · refine lv_aload_n S.1 S.2.1 d_C_resultOf_0 rfl (lv_at hl 1 rfl) ?_
      refine fk_gn S E G x (by have := fk_Xlt hX; omega) (v := .ref (fk_a g (x + 1))) (congrArg (fk_ce g ov x (M x)) (fk_kx0 hX)) rfl 0 (by decide) rfl (List.mem_of_getElem? (i := 2) rfl) rfl d_C_resultOf_1 ?_
      refine lv_iload_n S.1 S.2.1 d_C_resultOf_4 rfl (lv_at hl 2 rfl) ?_
      refine fk_ia S E G (x + 1) (by have := fk_Xlt hX; omega) (congrArg (fk_ce g ov (x + 1) (M (x + 1))) (fk_kx1 hX)) i rfl (by omega) (by decide) (v := nI 0) (by rw [hb i hok.1, hk]) d_C_resultOf_5 ?_
      refine lv_tableIn (off := 90) (tgt := 96) S.1 S.2.1 d_C_resultOf_6 (by decide +kernel) (by decide +kernel) (by decide +kernel) rfl ?_
      have hd2 : fk_hd (bf i) = 2 := by rw [hk]; decide
      refine lv_aload_n S.1 S.2.1 d_C_resultOf_96 rfl (lv_at hl 1 rfl) ?_
      refine fk_gn S E G x (by have := fk_Xlt hX; omega) (v := .ref (fk_a g (x + 1))) (congrArg (fk_ce g ov x (M x)) (fk_kx0 hX)) rfl 0 (by decide) rfl (List.mem_of_getElem? (i := 2) rfl) rfl d_C_resultOf_97 ?_
      refine lv_iload_n S.1 S.2.1 d_C_resultOf_100 rfl (lv_at hl 2 rfl) ?_
      refine lv_iconst (v := nI 1) S.1 S.2.1 d_C_resultOf_101 (by decide +kernel) ?_
      refine fk_iadd S.1 S.2.1 d_C_resultOf_102 ?_
      refine fk_ia S E G (x + 1) (by have := fk_Xlt hX; omega) (congrArg (fk_ce g ov (x + 1) (M (x + 1))) (fk_kx1 hX)) (i + 1) rfl (by omega) (by decide) (v := nI (bf (i + 1))) (hb (i + 1) (by omega)) d_C_resultOf_103 ?_
      refine lv_sipush (v := nI 128) S.1 S.2.1 d_C_resultOf_104 (by decide +kernel) ?_
      refine lv_isub S.1 S.2.1 d_C_resultOf_107 ?_
      exact fk_iret S hr hlk E G rfl (by show _ = fk_ek M x (bf i) (bf (i + 1)) i _ _ _; rw [hk]; rfl) d_C_resultOf_108
    · refine lv_aload_n S.1 S.2.1 d_C_resultOf_0 rfl (lv_at hl 1 rfl) ?_
      refine fk_gn S E G x (by have := fk_Xlt hX; omega) (v := .ref (fk_a g (x + 1))) (congrArg (fk_ce g ov x (M x)) (fk_kx0 hX)) rfl 0 (by decide) rfl (List.mem_of_getElem? (i := 2) rfl) rfl d_C_resultOf_1 ?_
      refine lv_iload_n S.1 S.2.1 d_C_resultOf_4 rfl (lv_at hl 2 rfl) ?_
      refine fk_ia S E G (x + 1) (by have := fk_Xlt hX; omega) (congrArg (fk_ce g ov (x + 1) (M (x + 1))) (fk_kx1 hX)) i rfl (by omega) (by decide) (v := nI 1) (by rw [hb i hok.1, hk]) d_C_resultOf_5 ?_
      refine lv_tableIn (off := 103) (tgt := 109) S.1 S.2.1 d_C_resultOf_6 (by decide +kernel) (by decide +kernel) (by decide +kernel) rfl ?_
      refine lv_iconst (v := nI 1) S.1 S.2.1 d_C_resultOf_109 (by decide +kernel) ?_
      exact fk_iret S hr hlk E G rfl (by show _ = fk_ek M x (bf i) (bf (i + 1)) i _ _ _; rw [hk]; rfl) d_C_resultOf_110
    · refine lv_aload_n S.1 S.2.1 d_C_resultOf_0 rfl (lv_at hl 1 rfl) ?_
      refine fk_gn S E G x (by have := fk_Xlt hX; omega) (v := .ref (fk_a g (x + 1))) (congrArg (fk_ce g ov x (M x)) (fk_kx0 hX)) rfl 0 (by decide) rfl (List.mem_of_getElem? (i := 2) rfl) rfl d_C_resultOf_1 ?_
      refine lv_iload_n S.1 S.2.1 d_C_resultOf_4 rfl (lv_at hl 2 rfl) ?_
      refine fk_ia S E G (x + 1) (by have := fk_Xlt hX; omega) (congrArg (fk_ce g ov (x + 1) (M (x + 1))) (fk_kx1 hX)) i rfl (by omega) (by decide) (v := nI 2) (by rw [hb i hok.1, hk]) d_C_resultOf_5 ?_
      refine lv_tableIn (off := 105) (tgt := 111) S.1 S.2.1 d_C_resultOf_6 (by decide +kernel) (by decide +kernel) (by decide +kernel) rfl ?_
      refine lv_iconst (v := nI 0) S.1 S.2.1 d_C_resultOf_111 (by decide +kernel) ?_
      exact fk_iret S hr hlk E G rfl (by show _ = fk_ek M x (bf i) (bf (i + 1)) i _ _ _; rw [hk]; rfl) d_C_resultOf_112
    · refine lv_aload_n S.1 S.2.1 d_C_resultOf_0 rfl (lv_at hl 1 rfl) ?_
      refine fk_gn S E G x (by have := fk_Xlt hX; omega) (v := .ref (fk_a g (x + 1))) (congrArg (fk_ce g ov x (M x)) (fk_kx0 hX)) rfl 0 (by decide) rfl (List.mem_of_getElem? (i := 2) rfl) rfl d_C_resultOf_1 ?_
      refine lv_iload_n S.1 S.2.1 d_C_resultOf_4 rfl (lv_at hl 2 rfl) ?_
      refine fk_ia S E G (x + 1) (by have := fk_Xlt hX; omega) (congrArg (fk_ce g ov (x + 1) (M (x + 1))) (fk_kx1 hX)) i rfl (by omega) (by decide) (v := nI 3) (by rw [hb i hok.1, hk]) d_C_resultOf_5 ?_
      refine lv_tableIn (off := 107) (tgt := 113) S.1 S.2.1 d_C_resultOf_6 (by decide +kernel) (by decide +kernel) (by decide +kernel) rfl ?_
      have hw := hok.2.2.2 (by omega)
      have hd2 := fk_hd2 (k := bf i) (by omega)
      have hlen := hok.2.2.1
      refine lv_aload_n S.1 S.2.1 d_C_resultOf_113 rfl (lv_at hl 0 rfl) ?_
      refine fk_gf S E G 82 (by decide) (v := .ref (fk_a g 1)) (congrArg (fk_ce g ov 82 (M 82)) kd_82) rfl 0 (by decide) rfl i_188 rfl d_C_resultOf_114 ?_
      refine fk_gn S E G 1 (by decide) (v := .ref (fk_a g 2)) (congrArg (fk_ce g ov 1 (M 1)) kd_1) rfl 0 (by decide) rfl (List.mem_of_getElem? (i := 35) rfl) rfl d_C_resultOf_117 ?_
      refine lv_aload_n S.1 S.2.1 d_C_resultOf_120 rfl (lv_at hl 1 rfl) ?_
      refine lv_iload_n S.1 S.2.1 d_C_resultOf_121 rfl (lv_at hl 2 rfl) ?_
      refine fk_cni S E G x (by have := fk_Xlt hX; omega) (congrArg (fk_ce g ov x (M x)) (fk_kx0 hX)) rfl (rest := [.ref (fk_a g 2)]) (hb (i + 1) (by omega) ▸ c_E_named l g ov M x hX i (by omega)) m_E_named (List.mem_of_getElem? (i := 33) rfl) ⟨rfl, rfl⟩ ⟨by show 0 + 1 ≤ 2 * (r + 1) + 3; omega, by show 8 + (2 + 11) + 64 * (0) ≤ 64 * (2 * (r + 1) + 3); omega⟩ rfl rfl hl.1 (Nat.le_of_ble_eq_true rfl) d_C_resultOf_122 ⟨Nat.zero_le _, Nat.zero_le _⟩ (fun H locs G => ?_)
      refine fk_rw S E G (bf (i + 1)) rfl (by omega) d_C_resultOf_125 ?_
      refine fk_gn S E G (3 + 6 * (bf (i + 1))) (by omega) (v := .int (M (3 + 6 * (bf (i + 1))) 6)) (congrArg (fk_ce g ov (3 + 6 * (bf (i + 1))) (M (3 + 6 * (bf (i + 1))))) (fk_kf (show bf (i + 1) < 12 by omega))) rfl 6 (by decide) rfl (List.mem_of_getElem? (i := 32) rfl) rfl d_C_resultOf_126 ?_
      exact fk_iret S hr hlk E G rfl (by show _ = fk_ek M x (bf i) (bf (i + 1)) i _ _ _; rw [hk]; rfl) d_C_resultOf_129
    · have hts0 : fk_Ts (fk_T bf n cnt (M (x + 2)) r) 1 (i + fk_hd (bf i)) ee := by
        have h9 : fk_ar (bf i) = 1 := by rw [hk]; decide
        rw [h9] at hts
        exact hts
      obtain ⟨y1, t1, hz⟩ := hts0
      have l1 := fk_T_lt _ _ _ t1
      have n1 := fk_en_T hn40 t1
      refine lv_aload_n S.1 S.2.1 d_C_resultOf_0 rfl (lv_at hl 1 rfl) ?_
      refine fk_gn S E G x (by have := fk_Xlt hX; omega) (v := .ref (fk_a g (x + 1))) (congrArg (fk_ce g ov x (M x)) (fk_kx0 hX)) rfl 0 (by decide) rfl (List.mem_of_getElem? (i := 2) rfl) rfl d_C_resultOf_1 ?_
      refine lv_iload_n S.1 S.2.1 d_C_resultOf_4 rfl (lv_at hl 2 rfl) ?_
      refine fk_ia S E G (x + 1) (by have := fk_Xlt hX; omega) (congrArg (fk_ce g ov (x + 1) (M (x + 1))) (fk_kx1 hX)) i rfl (by omega) (by decide) (v := nI 4) (by rw [hb i hok.1, hk]) d_C_resultOf_5 ?_
      refine lv_tableIn (off := 143) (tgt := 149) S.1 S.2.1 d_C_resultOf_6 (by decide +kernel) (by decide +kernel) (by decide +kernel) rfl ?_
      refine lv_iconst (v := nI 1) S.1 S.2.1 d_C_resultOf_149 (by decide +kernel) ?_
      refine lv_aload_n S.1 S.2.1 d_C_resultOf_150 rfl (lv_at hl 0 rfl) ?_
      refine lv_aload_n S.1 S.2.1 d_C_resultOf_151 rfl (lv_at hl 1 rfl) ?_
      refine lv_aload_n S.1 S.2.1 d_C_resultOf_152 rfl (lv_at hl 1 rfl) ?_
      refine lv_iload_n S.1 S.2.1 d_C_resultOf_153 rfl (lv_at hl 2 rfl) ?_
      refine fk_cni S E G x (by have := fk_Xlt hX; omega) (congrArg (fk_ce g ov x (M x)) (fk_kx0 hX)) rfl (rest := [.ref (fk_a g x), .ref (fk_a g 82), .int (nI 1)]) (c_E_firstPart l g ov M x hX i (bf i) (by omega) (by have := hok.2.1; omega) (hb i hok.1)) m_E_firstPart (List.mem_of_getElem? (i := 34) rfl) ⟨rfl, rfl⟩ ⟨by show 0 + 1 ≤ 2 * (r + 1) + 3; omega, by show 8 + (2 + 11) + 64 * (0) ≤ 64 * (2 * (r + 1) + 3); omega⟩ rfl rfl hl.1 (Nat.le_of_ble_eq_true rfl) d_C_resultOf_154 ⟨Nat.zero_le _, Nat.zero_le _⟩ (fun H locs G => ?_)
      refine fk_cvi S E G 82 (by decide) (congrArg (fk_ce g ov 82 (M 82)) kd_82) rfl (rest := [.int (nI 1)]) (ih _ _ t1) m_C_resultOf i_558 ⟨rfl, rfl⟩ ⟨by show 2 * r + 3 + 1 ≤ 2 * (r + 1) + 3; omega, by show 8 + (3 + 11) + 64 * (2 * r + 3) ≤ 64 * (2 * (r + 1) + 3); omega⟩ rfl rfl hl.1 (Nat.le_of_ble_eq_true rfl) d_C_resultOf_157 ⟨Nat.zero_le _, Nat.zero_le _⟩ (fun H locs G => ?_)
      refine lv_isub S.1 S.2.1 d_C_resultOf_160 ?_
      exact fk_iret S hr hlk E G rfl (by show _ = fk_ek M x (bf i) (bf (i + 1)) i _ _ _; rw [hk]; rfl) d_C_resultOf_161
    · have hts0 : fk_Ts (fk_T bf n cnt (M (x + 2)) r) 1 (i + fk_hd (bf i)) ee := by
        have h9 : fk_ar (bf i) = 1 := by rw [hk]; decide
        rw [h9] at hts
        exact hts
      obtain ⟨y1, t1, hz⟩ := hts0
      have l1 := fk_T_lt _ _ _ t1
      have n1 := fk_en_T hn40 t1
      refine lv_aload_n S.1 S.2.1 d_C_resultOf_0 rfl (lv_at hl 1 rfl) ?_
      refine fk_gn S E G x (by have := fk_Xlt hX; omega) (v := .ref (fk_a g (x + 1))) (congrArg (fk_ce g ov x (M x)) (fk_kx0 hX)) rfl 0 (by decide) rfl (List.mem_of_getElem? (i := 2) rfl) rfl d_C_resultOf_1 ?_
      refine lv_iload_n S.1 S.2.1 d_C_resultOf_4 rfl (lv_at hl 2 rfl) ?_
      refine fk_ia S E G (x + 1) (by have := fk_Xlt hX; omega) (congrArg (fk_ce g ov (x + 1) (M (x + 1))) (fk_kx1 hX)) i rfl (by omega) (by decide) (v := nI 5) (by rw [hb i hok.1, hk]) d_C_resultOf_5 ?_
      refine lv_tableIn (off := 156) (tgt := 162) S.1 S.2.1 d_C_resultOf_6 (by decide +kernel) (by decide +kernel) (by decide +kernel) rfl ?_
      refine lv_aload_n S.1 S.2.1 d_C_resultOf_162 rfl (lv_at hl 0 rfl) ?_
      refine lv_aload_n S.1 S.2.1 d_C_resultOf_163 rfl (lv_at hl 1 rfl) ?_
      refine lv_aload_n S.1 S.2.1 d_C_resultOf_164 rfl (lv_at hl 1 rfl) ?_
      refine lv_iload_n S.1 S.2.1 d_C_resultOf_165 rfl (lv_at hl 2 rfl) ?_
      refine fk_cni S E G x (by have := fk_Xlt hX; omega) (congrArg (fk_ce g ov x (M x)) (fk_kx0 hX)) rfl (rest := [.ref (fk_a g x), .ref (fk_a g 82)]) (c_E_firstPart l g ov M x hX i (bf i) (by omega) (by have := hok.2.1; omega) (hb i hok.1)) m_E_firstPart (List.mem_of_getElem? (i := 34) rfl) ⟨rfl, rfl⟩ ⟨by show 0 + 1 ≤ 2 * (r + 1) + 3; omega, by show 8 + (2 + 11) + 64 * (0) ≤ 64 * (2 * (r + 1) + 3); omega⟩ rfl rfl hl.1 (Nat.le_of_ble_eq_true rfl) d_C_resultOf_166 ⟨Nat.zero_le _, Nat.zero_le _⟩ (fun H locs G => ?_)
      refine fk_cvi S E G 82 (by decide) (congrArg (fk_ce g ov 82 (M 82)) kd_82) rfl (rest := []) (ih _ _ t1) m_C_resultOf i_558 ⟨rfl, rfl⟩ ⟨by show 2 * r + 3 + 1 ≤ 2 * (r + 1) + 3; omega, by show 8 + (3 + 11) + 64 * (2 * r + 3) ≤ 64 * (2 * (r + 1) + 3); omega⟩ rfl rfl hl.1 (Nat.le_of_ble_eq_true rfl) d_C_resultOf_169 ⟨Nat.zero_le _, Nat.zero_le _⟩ (fun H locs G => ?_)
      refine lv_ineg S.1 S.2.1 d_C_resultOf_172 ?_
      exact fk_iret S hr hlk E G rfl (by show _ = fk_ek M x (bf i) (bf (i + 1)) i _ _ _; rw [hk]; rfl) d_C_resultOf_173
    · have hts0 : fk_Ts (fk_T bf n cnt (M (x + 2)) r) 2 (i + fk_hd (bf i)) ee := by
        have h9 : fk_ar (bf i) = 2 := by rw [hk]; decide
        rw [h9] at hts
        exact hts
      obtain ⟨y1, t1, y2, t2, hz⟩ := hts0
      have l1 := fk_T_lt _ _ _ t1
      have n1 := fk_en_T hn40 t1
      have l2 := fk_T_lt _ _ _ t2
      have n2 := fk_en_T hn40 t2
      refine lv_aload_n S.1 S.2.1 d_C_resultOf_0 rfl (lv_at hl 1 rfl) ?_
      refine fk_gn S E G x (by have := fk_Xlt hX; omega) (v := .ref (fk_a g (x + 1))) (congrArg (fk_ce g ov x (M x)) (fk_kx0 hX)) rfl 0 (by decide) rfl (List.mem_of_getElem? (i := 2) rfl) rfl d_C_resultOf_1 ?_
      refine lv_iload_n S.1 S.2.1 d_C_resultOf_4 rfl (lv_at hl 2 rfl) ?_
      refine fk_ia S E G (x + 1) (by have := fk_Xlt hX; omega) (congrArg (fk_ce g ov (x + 1) (M (x + 1))) (fk_kx1 hX)) i rfl (by omega) (by decide) (v := nI 6) (by rw [hb i hok.1, hk]) d_C_resultOf_5 ?_
      refine lv_tableIn (off := 168) (tgt := 174) S.1 S.2.1 d_C_resultOf_6 (by decide +kernel) (by decide +kernel) (by decide +kernel) rfl ?_
      refine lv_aload_n S.1 S.2.1 d_C_resultOf_174 rfl (lv_at hl 1 rfl) ?_
      refine fk_gn S E G x (by have := fk_Xlt hX; omega) (v := .ref (fk_a g (x + 1))) (congrArg (fk_ce g ov x (M x)) (fk_kx0 hX)) rfl 0 (by decide) rfl (List.mem_of_getElem? (i := 2) rfl) rfl d_C_resultOf_175 ?_
      refine lv_iload_n S.1 S.2.1 d_C_resultOf_178 rfl (lv_at hl 2 rfl) ?_
      refine fk_ia S E G (x + 1) (by have := fk_Xlt hX; omega) (congrArg (fk_ce g ov (x + 1) (M (x + 1))) (fk_kx1 hX)) i rfl (by omega) (by decide) (v := nI (bf i)) (hb i hok.1) d_C_resultOf_179 ?_
      refine lv_aload_n S.1 S.2.1 d_C_resultOf_180 rfl (lv_at hl 0 rfl) ?_
      refine lv_aload_n S.1 S.2.1 d_C_resultOf_181 rfl (lv_at hl 1 rfl) ?_
      refine lv_aload_n S.1 S.2.1 d_C_resultOf_182 rfl (lv_at hl 1 rfl) ?_
      refine lv_iload_n S.1 S.2.1 d_C_resultOf_183 rfl (lv_at hl 2 rfl) ?_
      refine fk_cni S E G x (by have := fk_Xlt hX; omega) (congrArg (fk_ce g ov x (M x)) (fk_kx0 hX)) rfl (rest := [.ref (fk_a g x), .ref (fk_a g 82), .int (nI (bf i))]) (c_E_firstPart l g ov M x hX i (bf i) (by omega) (by have := hok.2.1; omega) (hb i hok.1)) m_E_firstPart (List.mem_of_getElem? (i := 34) rfl) ⟨rfl, rfl⟩ ⟨by show 0 + 1 ≤ 2 * (r + 1) + 3; omega, by show 8 + (2 + 11) + 64 * (0) ≤ 64 * (2 * (r + 1) + 3); omega⟩ rfl rfl hl.1 (Nat.le_of_ble_eq_true rfl) d_C_resultOf_184 ⟨Nat.zero_le _, Nat.zero_le _⟩ (fun H locs G => ?_)
      refine fk_cvi S E G 82 (by decide) (congrArg (fk_ce g ov 82 (M 82)) kd_82) rfl (rest := [.int (nI (bf i))]) (ih _ _ t1) m_C_resultOf i_558 ⟨rfl, rfl⟩ ⟨by show 2 * r + 3 + 1 ≤ 2 * (r + 1) + 3; omega, by show 8 + (3 + 11) + 64 * (2 * r + 3) ≤ 64 * (2 * (r + 1) + 3); omega⟩ rfl rfl hl.1 (Nat.le_of_ble_eq_true rfl) d_C_resultOf_187 ⟨Nat.zero_le _, Nat.zero_le _⟩ (fun H locs G => ?_)
      refine lv_aload_n S.1 S.2.1 d_C_resultOf_190 rfl (lv_at hl 0 rfl) ?_
      refine lv_aload_n S.1 S.2.1 d_C_resultOf_191 rfl (lv_at hl 1 rfl) ?_
      refine lv_aload_n S.1 S.2.1 d_C_resultOf_192 rfl (lv_at hl 1 rfl) ?_
      refine lv_iload_n S.1 S.2.1 d_C_resultOf_193 rfl (lv_at hl 2 rfl) ?_
      refine fk_cni S E G x (by have := fk_Xlt hX; omega) (congrArg (fk_ce g ov x (M x)) (fk_kx0 hX)) rfl (rest := [.ref (fk_a g x), .ref (fk_a g 82), .int (fk_ev M x bf r (i + fk_hd (bf i))), .int (nI (bf i))]) (fk_T_E t1 ▸ c_E_secondPart l g ov M x hX i (bf i) (by omega) (by have := hok.2.1; omega) (hb i hok.1) (by omega)) m_E_secondPart (List.mem_of_getElem? (i := 35) rfl) ⟨rfl, rfl⟩ ⟨by show 1 + 1 ≤ 2 * (r + 1) + 3; omega, by show 8 + (2 + 11) + 64 * (1) ≤ 64 * (2 * (r + 1) + 3); omega⟩ rfl rfl hl.1 (Nat.le_of_ble_eq_true rfl) d_C_resultOf_194 ⟨Nat.zero_le _, Nat.zero_le _⟩ (fun H locs G => ?_)
      refine fk_cvi S E G 82 (by decide) (congrArg (fk_ce g ov 82 (M 82)) kd_82) rfl (rest := [.int (fk_ev M x bf r (i + fk_hd (bf i))), .int (nI (bf i))]) (ih _ _ t2) m_C_resultOf i_558 ⟨rfl, rfl⟩ ⟨by show 2 * r + 3 + 1 ≤ 2 * (r + 1) + 3; omega, by show 8 + (3 + 11) + 64 * (2 * r + 3) ≤ 64 * (2 * (r + 1) + 3); omega⟩ rfl rfl hl.1 (Nat.le_of_ble_eq_true rfl) d_C_resultOf_197 ⟨Nat.zero_le _, Nat.zero_le _⟩ (fun H locs G => ?_)
      refine fk_csi S E G (rest := []) (c_C_combine l g ov M (bf i) (by omega) (by omega) (fk_ev M x bf r (i + fk_hd (bf i))) (fk_ev M x bf r y1)) m_C_combine i_578 ⟨rfl, rfl⟩ ⟨by show 1 + 1 ≤ 2 * (r + 1) + 3; omega, by show 8 + (3 + 11) + 64 * (1) ≤ 64 * (2 * (r + 1) + 3); omega⟩ rfl rfl hl.1 (Nat.le_of_ble_eq_true rfl) d_C_resultOf_200 ⟨Nat.zero_le _, Nat.zero_le _⟩ (fun H locs G => ?_)
      exact fk_iret S hr hlk E G rfl (by show _ = fk_ek M x (bf i) (bf (i + 1)) i _ _ _; rw [n1, hk]; rfl) d_C_resultOf_203
    · have hts0 : fk_Ts (fk_T bf n cnt (M (x + 2)) r) 2 (i + fk_hd (bf i)) ee := by
        have h9 : fk_ar (bf i) = 2 := by rw [hk]; decide
        rw [h9] at hts
        exact hts
      obtain ⟨y1, t1, y2, t2, hz⟩ := hts0
      have l1 := fk_T_lt _ _ _ t1
      have n1 := fk_en_T hn40 t1
      have l2 := fk_T_lt _ _ _ t2
      have n2 := fk_en_T hn40 t2
      refine lv_aload_n S.1 S.2.1 d_C_resultOf_0 rfl (lv_at hl 1 rfl) ?_
      refine fk_gn S E G x (by have := fk_Xlt hX; omega) (v := .ref (fk_a g (x + 1))) (congrArg (fk_ce g ov x (M x)) (fk_kx0 hX)) rfl 0 (by decide) rfl (List.mem_of_getElem? (i := 2) rfl) rfl d_C_resultOf_1 ?_
      refine lv_iload_n S.1 S.2.1 d_C_resultOf_4 rfl (lv_at hl 2 rfl) ?_
      refine fk_ia S E G (x + 1) (by have := fk_Xlt hX; omega) (congrArg (fk_ce g ov (x + 1) (M (x + 1))) (fk_kx1 hX)) i rfl (by omega) (by decide) (v := nI 7) (by rw [hb i hok.1, hk]) d_C_resultOf_5 ?_
      refine lv_tableIn (off := 168) (tgt := 174) S.1 S.2.1 d_C_resultOf_6 (by decide +kernel) (by decide +kernel) (by decide +kernel) rfl ?_
      refine lv_aload_n S.1 S.2.1 d_C_resultOf_174 rfl (lv_at hl 1 rfl) ?_
      refine fk_gn S E G x (by have := fk_Xlt hX; omega) (v := .ref (fk_a g (x + 1))) (congrArg (fk_ce g ov x (M x)) (fk_kx0 hX)) rfl 0 (by decide) rfl (List.mem_of_getElem? (i := 2) rfl) rfl d_C_resultOf_175 ?_
      refine lv_iload_n S.1 S.2.1 d_C_resultOf_178 rfl (lv_at hl 2 rfl) ?_
      refine fk_ia S E G (x + 1) (by have := fk_Xlt hX; omega) (congrArg (fk_ce g ov (x + 1) (M (x + 1))) (fk_kx1 hX)) i rfl (by omega) (by decide) (v := nI (bf i)) (hb i hok.1) d_C_resultOf_179 ?_
      refine lv_aload_n S.1 S.2.1 d_C_resultOf_180 rfl (lv_at hl 0 rfl) ?_
      refine lv_aload_n S.1 S.2.1 d_C_resultOf_181 rfl (lv_at hl 1 rfl) ?_
      refine lv_aload_n S.1 S.2.1 d_C_resultOf_182 rfl (lv_at hl 1 rfl) ?_
      refine lv_iload_n S.1 S.2.1 d_C_resultOf_183 rfl (lv_at hl 2 rfl) ?_
      refine fk_cni S E G x (by have := fk_Xlt hX; omega) (congrArg (fk_ce g ov x (M x)) (fk_kx0 hX)) rfl (rest := [.ref (fk_a g x), .ref (fk_a g 82), .int (nI (bf i))]) (c_E_firstPart l g ov M x hX i (bf i) (by omega) (by have := hok.2.1; omega) (hb i hok.1)) m_E_firstPart (List.mem_of_getElem? (i := 34) rfl) ⟨rfl, rfl⟩ ⟨by show 0 + 1 ≤ 2 * (r + 1) + 3; omega, by show 8 + (2 + 11) + 64 * (0) ≤ 64 * (2 * (r + 1) + 3); omega⟩ rfl rfl hl.1 (Nat.le_of_ble_eq_true rfl) d_C_resultOf_184 ⟨Nat.zero_le _, Nat.zero_le _⟩ (fun H locs G => ?_)
      refine fk_cvi S E G 82 (by decide) (congrArg (fk_ce g ov 82 (M 82)) kd_82) rfl (rest := [.int (nI (bf i))]) (ih _ _ t1) m_C_resultOf i_558 ⟨rfl, rfl⟩ ⟨by show 2 * r + 3 + 1 ≤ 2 * (r + 1) + 3; omega, by show 8 + (3 + 11) + 64 * (2 * r + 3) ≤ 64 * (2 * (r + 1) + 3); omega⟩ rfl rfl hl.1 (Nat.le_of_ble_eq_true rfl) d_C_resultOf_187 ⟨Nat.zero_le _, Nat.zero_le _⟩ (fun H locs G => ?_)
      refine lv_aload_n S.1 S.2.1 d_C_resultOf_190 rfl (lv_at hl 0 rfl) ?_
      refine lv_aload_n S.1 S.2.1 d_C_resultOf_191 rfl (lv_at hl 1 rfl) ?_
      refine lv_aload_n S.1 S.2.1 d_C_resultOf_192 rfl (lv_at hl 1 rfl) ?_
      refine lv_iload_n S.1 S.2.1 d_C_resultOf_193 rfl (lv_at hl 2 rfl) ?_
      refine fk_cni S E G x (by have := fk_Xlt hX; omega) (congrArg (fk_ce g ov x (M x)) (fk_kx0 hX)) rfl (rest := [.ref (fk_a g x), .ref (fk_a g 82), .int (fk_ev M x bf r (i + fk_hd (bf i))), .int (nI (bf i))]) (fk_T_E t1 ▸ c_E_secondPart l g ov M x hX i (bf i) (by omega) (by have := hok.2.1; omega) (hb i hok.1) (by omega)) m_E_secondPart (List.mem_of_getElem? (i := 35) rfl) ⟨rfl, rfl⟩ ⟨by show 1 + 1 ≤ 2 * (r + 1) + 3; omega, by show 8 + (2 + 11) + 64 * (1) ≤ 64 * (2 * (r + 1) + 3); omega⟩ rfl rfl hl.1 (Nat.le_of_ble_eq_true rfl) d_C_resultOf_194 ⟨Nat.zero_le _, Nat.zero_le _⟩ (fun H locs G => ?_)
      refine fk_cvi S E G 82 (by decide) (congrArg (fk_ce g ov 82 (M 82)) kd_82) rfl (rest := [.int (fk_ev M x bf r (i + fk_hd (bf i))), .int (nI (bf i))]) (ih _ _ t2) m_C_resultOf i_558 ⟨rfl, rfl⟩ ⟨by show 2 * r + 3 + 1 ≤ 2 * (r + 1) + 3; omega, by show 8 + (3 + 11) + 64 * (2 * r + 3) ≤ 64 * (2 * (r + 1) + 3); omega⟩ rfl rfl hl.1 (Nat.le_of_ble_eq_true rfl) d_C_resultOf_197 ⟨Nat.zero_le _, Nat.zero_le _⟩ (fun H locs G => ?_)
      refine fk_csi S E G (rest := []) (c_C_combine l g ov M (bf i) (by omega) (by omega) (fk_ev M x bf r (i + fk_hd (bf i))) (fk_ev M x bf r y1)) m_C_combine i_578 ⟨rfl, rfl⟩ ⟨by show 1 + 1 ≤ 2 * (r + 1) + 3; omega, by show 8 + (3 + 11) + 64 * (1) ≤ 64 * (2 * (r + 1) + 3); omega⟩ rfl rfl hl.1 (Nat.le_of_ble_eq_true rfl) d_C_resultOf_200 ⟨Nat.zero_le _, Nat.zero_le _⟩ (fun H locs G => ?_)
      exact fk_iret S hr hlk E G rfl (by show _ = fk_ek M x (bf i) (bf (i + 1)) i _ _ _; rw [n1, hk]; rfl) d_C_resultOf_203
    · have hts0 : fk_Ts (fk_T bf n cnt (M (x + 2)) r) 2 (i + fk_hd (bf i)) ee := by
        have h9 : fk_ar (bf i) = 2 := by rw [hk]; decide
        rw [h9] at hts
        exact hts
      obtain ⟨y1, t1, y2, t2, hz⟩ := hts0
      have l1 := fk_T_lt _ _ _ t1
      have n1 := fk_en_T hn40 t1
      have l2 := fk_T_lt _ _ _ t2
      have n2 := fk_en_T hn40 t2
      refine lv_aload_n S.1 S.2.1 d_C_resultOf_0 rfl (lv_at hl 1 rfl) ?_
      refine fk_gn S E G x (by have := fk_Xlt hX; omega) (v := .ref (fk_a g (x + 1))) (congrArg (fk_ce g ov x (M x)) (fk_kx0 hX)) rfl 0 (by decide) rfl (List.mem_of_getElem? (i := 2) rfl) rfl d_C_resultOf_1 ?_
      refine lv_iload_n S.1 S.2.1 d_C_resultOf_4 rfl (lv_at hl 2 rfl) ?_
      refine fk_ia S E G (x + 1) (by have := fk_Xlt hX; omega) (congrArg (fk_ce g ov (x + 1) (M (x + 1))) (fk_kx1 hX)) i rfl (by omega) (by decide) (v := nI 8) (by rw [hb i hok.1, hk]) d_C_resultOf_5 ?_
      refine lv_tableIn (off := 168) (tgt := 174) S.1 S.2.1 d_C_resultOf_6 (by decide +kernel) (by decide +kernel) (by decide +kernel) rfl ?_
      refine lv_aload_n S.1 S.2.1 d_C_resultOf_174 rfl (lv_at hl 1 rfl) ?_
      refine fk_gn S E G x (by have := fk_Xlt hX; omega) (v := .ref (fk_a g (x + 1))) (congrArg (fk_ce g ov x (M x)) (fk_kx0 hX)) rfl 0 (by decide) rfl (List.mem_of_getElem? (i := 2) rfl) rfl d_C_resultOf_175 ?_
      refine lv_iload_n S.1 S.2.1 d_C_resultOf_178 rfl (lv_at hl 2 rfl) ?_
      refine fk_ia S E G (x + 1) (by have := fk_Xlt hX; omega) (congrArg (fk_ce g ov (x + 1) (M (x + 1))) (fk_kx1 hX)) i rfl (by omega) (by decide) (v := nI (bf i)) (hb i hok.1) d_C_resultOf_179 ?_
      refine lv_aload_n S.1 S.2.1 d_C_resultOf_180 rfl (lv_at hl 0 rfl) ?_
      refine lv_aload_n S.1 S.2.1 d_C_resultOf_181 rfl (lv_at hl 1 rfl) ?_
      refine lv_aload_n S.1 S.2.1 d_C_resultOf_182 rfl (lv_at hl 1 rfl) ?_
      refine lv_iload_n S.1 S.2.1 d_C_resultOf_183 rfl (lv_at hl 2 rfl) ?_
      refine fk_cni S E G x (by have := fk_Xlt hX; omega) (congrArg (fk_ce g ov x (M x)) (fk_kx0 hX)) rfl (rest := [.ref (fk_a g x), .ref (fk_a g 82), .int (nI (bf i))]) (c_E_firstPart l g ov M x hX i (bf i) (by omega) (by have := hok.2.1; omega) (hb i hok.1)) m_E_firstPart (List.mem_of_getElem? (i := 34) rfl) ⟨rfl, rfl⟩ ⟨by show 0 + 1 ≤ 2 * (r + 1) + 3; omega, by show 8 + (2 + 11) + 64 * (0) ≤ 64 * (2 * (r + 1) + 3); omega⟩ rfl rfl hl.1 (Nat.le_of_ble_eq_true rfl) d_C_resultOf_184 ⟨Nat.zero_le _, Nat.zero_le _⟩ (fun H locs G => ?_)
      refine fk_cvi S E G 82 (by decide) (congrArg (fk_ce g ov 82 (M 82)) kd_82) rfl (rest := [.int (nI (bf i))]) (ih _ _ t1) m_C_resultOf i_558 ⟨rfl, rfl⟩ ⟨by show 2 * r + 3 + 1 ≤ 2 * (r + 1) + 3; omega, by show 8 + (3 + 11) + 64 * (2 * r + 3) ≤ 64 * (2 * (r + 1) + 3); omega⟩ rfl rfl hl.1 (Nat.le_of_ble_eq_true rfl) d_C_resultOf_187 ⟨Nat.zero_le _, Nat.zero_le _⟩ (fun H locs G => ?_)
      refine lv_aload_n S.1 S.2.1 d_C_resultOf_190 rfl (lv_at hl 0 rfl) ?_
      refine lv_aload_n S.1 S.2.1 d_C_resultOf_191 rfl (lv_at hl 1 rfl) ?_
      refine lv_aload_n S.1 S.2.1 d_C_resultOf_192 rfl (lv_at hl 1 rfl) ?_
      refine lv_iload_n S.1 S.2.1 d_C_resultOf_193 rfl (lv_at hl 2 rfl) ?_
      refine fk_cni S E G x (by have := fk_Xlt hX; omega) (congrArg (fk_ce g ov x (M x)) (fk_kx0 hX)) rfl (rest := [.ref (fk_a g x), .ref (fk_a g 82), .int (fk_ev M x bf r (i + fk_hd (bf i))), .int (nI (bf i))]) (fk_T_E t1 ▸ c_E_secondPart l g ov M x hX i (bf i) (by omega) (by have := hok.2.1; omega) (hb i hok.1) (by omega)) m_E_secondPart (List.mem_of_getElem? (i := 35) rfl) ⟨rfl, rfl⟩ ⟨by show 1 + 1 ≤ 2 * (r + 1) + 3; omega, by show 8 + (2 + 11) + 64 * (1) ≤ 64 * (2 * (r + 1) + 3); omega⟩ rfl rfl hl.1 (Nat.le_of_ble_eq_true rfl) d_C_resultOf_194 ⟨Nat.zero_le _, Nat.zero_le _⟩ (fun H locs G => ?_)
      refine fk_cvi S E G 82 (by decide) (congrArg (fk_ce g ov 82 (M 82)) kd_82) rfl (rest := [.int (fk_ev M x bf r (i + fk_hd (bf i))), .int (nI (bf i))]) (ih _ _ t2) m_C_resultOf i_558 ⟨rfl, rfl⟩ ⟨by show 2 * r + 3 + 1 ≤ 2 * (r + 1) + 3; omega, by show 8 + (3 + 11) + 64 * (2 * r + 3) ≤ 64 * (2 * (r + 1) + 3); omega⟩ rfl rfl hl.1 (Nat.le_of_ble_eq_true rfl) d_C_resultOf_197 ⟨Nat.zero_le _, Nat.zero_le _⟩ (fun H locs G => ?_)
      refine fk_csi S E G (rest := []) (c_C_combine l g ov M (bf i) (by omega) (by omega) (fk_ev M x bf r (i + fk_hd (bf i))) (fk_ev M x bf r y1)) m_C_combine i_578 ⟨rfl, rfl⟩ ⟨by show 1 + 1 ≤ 2 * (r + 1) + 3; omega, by show 8 + (3 + 11) + 64 * (1) ≤ 64 * (2 * (r + 1) + 3); omega⟩ rfl rfl hl.1 (Nat.le_of_ble_eq_true rfl) d_C_resultOf_200 ⟨Nat.zero_le _, Nat.zero_le _⟩ (fun H locs G => ?_)
      exact fk_iret S hr hlk E G rfl (by show _ = fk_ek M x (bf i) (bf (i + 1)) i _ _ _; rw [n1, hk]; rfl) d_C_resultOf_203
    · have hts0 : fk_Ts (fk_T bf n cnt (M (x + 2)) r) 2 (i + fk_hd (bf i)) ee := by
        have h9 : fk_ar (bf i) = 2 := by rw [hk]; decide
        rw [h9] at hts
        exact hts
      obtain ⟨y1, t1, y2, t2, hz⟩ := hts0
      have l1 := fk_T_lt _ _ _ t1
      have n1 := fk_en_T hn40 t1
      have l2 := fk_T_lt _ _ _ t2
      have n2 := fk_en_T hn40 t2
      refine lv_aload_n S.1 S.2.1 d_C_resultOf_0 rfl (lv_at hl 1 rfl) ?_
      refine fk_gn S E G x (by have := fk_Xlt hX; omega) (v := .ref (fk_a g (x + 1))) (congrArg (fk_ce g ov x (M x)) (fk_kx0 hX)) rfl 0 (by decide) rfl (List.mem_of_getElem? (i := 2) rfl) rfl d_C_resultOf_1 ?_
      refine lv_iload_n S.1 S.2.1 d_C_resultOf_4 rfl (lv_at hl 2 rfl) ?_
      refine fk_ia S E G (x + 1) (by have := fk_Xlt hX; omega) (congrArg (fk_ce g ov (x + 1) (M (x + 1))) (fk_kx1 hX)) i rfl (by omega) (by decide) (v := nI 9) (by rw [hb i hok.1, hk]) d_C_resultOf_5 ?_
      refine lv_tableIn (off := 168) (tgt := 174) S.1 S.2.1 d_C_resultOf_6 (by decide +kernel) (by decide +kernel) (by decide +kernel) rfl ?_
      refine lv_aload_n S.1 S.2.1 d_C_resultOf_174 rfl (lv_at hl 1 rfl) ?_
      refine fk_gn S E G x (by have := fk_Xlt hX; omega) (v := .ref (fk_a g (x + 1))) (congrArg (fk_ce g ov x (M x)) (fk_kx0 hX)) rfl 0 (by decide) rfl (List.mem_of_getElem? (i := 2) rfl) rfl d_C_resultOf_175 ?_
      refine lv_iload_n S.1 S.2.1 d_C_resultOf_178 rfl (lv_at hl 2 rfl) ?_
      refine fk_ia S E G (x + 1) (by have := fk_Xlt hX; omega) (congrArg (fk_ce g ov (x + 1) (M (x + 1))) (fk_kx1 hX)) i rfl (by omega) (by decide) (v := nI (bf i)) (hb i hok.1) d_C_resultOf_179 ?_
      refine lv_aload_n S.1 S.2.1 d_C_resultOf_180 rfl (lv_at hl 0 rfl) ?_
      refine lv_aload_n S.1 S.2.1 d_C_resultOf_181 rfl (lv_at hl 1 rfl) ?_
      refine lv_aload_n S.1 S.2.1 d_C_resultOf_182 rfl (lv_at hl 1 rfl) ?_
      refine lv_iload_n S.1 S.2.1 d_C_resultOf_183 rfl (lv_at hl 2 rfl) ?_
      refine fk_cni S E G x (by have := fk_Xlt hX; omega) (congrArg (fk_ce g ov x (M x)) (fk_kx0 hX)) rfl (rest := [.ref (fk_a g x), .ref (fk_a g 82), .int (nI (bf i))]) (c_E_firstPart l g ov M x hX i (bf i) (by omega) (by have := hok.2.1; omega) (hb i hok.1)) m_E_firstPart (List.mem_of_getElem? (i := 34) rfl) ⟨rfl, rfl⟩ ⟨by show 0 + 1 ≤ 2 * (r + 1) + 3; omega, by show 8 + (2 + 11) + 64 * (0) ≤ 64 * (2 * (r + 1) + 3); omega⟩ rfl rfl hl.1 (Nat.le_of_ble_eq_true rfl) d_C_resultOf_184 ⟨Nat.zero_le _, Nat.zero_le _⟩ (fun H locs G => ?_)
      refine fk_cvi S E G 82 (by decide) (congrArg (fk_ce g ov 82 (M 82)) kd_82) rfl (rest := [.int (nI (bf i))]) (ih _ _ t1) m_C_resultOf i_558 ⟨rfl, rfl⟩ ⟨by show 2 * r + 3 + 1 ≤ 2 * (r + 1) + 3; omega, by show 8 + (3 + 11) + 64 * (2 * r + 3) ≤ 64 * (2 * (r + 1) + 3); omega⟩ rfl rfl hl.1 (Nat.le_of_ble_eq_true rfl) d_C_resultOf_187 ⟨Nat.zero_le _, Nat.zero_le _⟩ (fun H locs G => ?_)
      refine lv_aload_n S.1 S.2.1 d_C_resultOf_190 rfl (lv_at hl 0 rfl) ?_
      refine lv_aload_n S.1 S.2.1 d_C_resultOf_191 rfl (lv_at hl 1 rfl) ?_
      refine lv_aload_n S.1 S.2.1 d_C_resultOf_192 rfl (lv_at hl 1 rfl) ?_
      refine lv_iload_n S.1 S.2.1 d_C_resultOf_193 rfl (lv_at hl 2 rfl) ?_
      refine fk_cni S E G x (by have := fk_Xlt hX; omega) (congrArg (fk_ce g ov x (M x)) (fk_kx0 hX)) rfl (rest := [.ref (fk_a g x), .ref (fk_a g 82), .int (fk_ev M x bf r (i + fk_hd (bf i))), .int (nI (bf i))]) (fk_T_E t1 ▸ c_E_secondPart l g ov M x hX i (bf i) (by omega) (by have := hok.2.1; omega) (hb i hok.1) (by omega)) m_E_secondPart (List.mem_of_getElem? (i := 35) rfl) ⟨rfl, rfl⟩ ⟨by show 1 + 1 ≤ 2 * (r + 1) + 3; omega, by show 8 + (2 + 11) + 64 * (1) ≤ 64 * (2 * (r + 1) + 3); omega⟩ rfl rfl hl.1 (Nat.le_of_ble_eq_true rfl) d_C_resultOf_194 ⟨Nat.zero_le _, Nat.zero_le _⟩ (fun H locs G => ?_)
      refine fk_cvi S E G 82 (by decide) (congrArg (fk_ce g ov 82 (M 82)) kd_82) rfl (rest := [.int (fk_ev M x bf r (i + fk_hd (bf i))), .int (nI (bf i))]) (ih _ _ t2) m_C_resultOf i_558 ⟨rfl, rfl⟩ ⟨by show 2 * r + 3 + 1 ≤ 2 * (r + 1) + 3; omega, by show 8 + (3 + 11) + 64 * (2 * r + 3) ≤ 64 * (2 * (r + 1) + 3); omega⟩ rfl rfl hl.1 (Nat.le_of_ble_eq_true rfl) d_C_resultOf_197 ⟨Nat.zero_le _, Nat.zero_le _⟩ (fun H locs G => ?_)
      refine fk_csi S E G (rest := []) (c_C_combine l g ov M (bf i) (by omega) (by omega) (fk_ev M x bf r (i + fk_hd (bf i))) (fk_ev M x bf r y1)) m_C_combine i_578 ⟨rfl, rfl⟩ ⟨by show 1 + 1 ≤ 2 * (r + 1) + 3; omega, by show 8 + (3 + 11) + 64 * (1) ≤ 64 * (2 * (r + 1) + 3); omega⟩ rfl rfl hl.1 (Nat.le_of_ble_eq_true rfl) d_C_resultOf_200 ⟨Nat.zero_le _, Nat.zero_le _⟩ (fun H locs G => ?_)
      exact fk_iret S hr hlk E G rfl (by show _ = fk_ek M x (bf i) (bf (i + 1)) i _ _ _; rw [n1, hk]; rfl) d_C_resultOf_203
    · have hts0 : fk_Ts (fk_T bf n cnt (M (x + 2)) r) 2 (i + fk_hd (bf i)) ee := by
        have h9 : fk_ar (bf i) = 2 := by rw [hk]; decide
        rw [h9] at hts
        exact hts
      obtain ⟨y1, t1, y2, t2, hz⟩ := hts0
      have l1 := fk_T_lt _ _ _ t1
      have n1 := fk_en_T hn40 t1
      have l2 := fk_T_lt _ _ _ t2
      have n2 := fk_en_T hn40 t2
      refine lv_aload_n S.1 S.2.1 d_C_resultOf_0 rfl (lv_at hl 1 rfl) ?_
      refine fk_gn S E G x (by have := fk_Xlt hX; omega) (v := .ref (fk_a g (x + 1))) (congrArg (fk_ce g ov x (M x)) (fk_kx0 hX)) rfl 0 (by decide) rfl (List.mem_of_getElem? (i := 2) rfl) rfl d_C_resultOf_1 ?_
      refine lv_iload_n S.1 S.2.1 d_C_resultOf_4 rfl (lv_at hl 2 rfl) ?_
      refine fk_ia S E G (x + 1) (by have := fk_Xlt hX; omega) (congrArg (fk_ce g ov (x + 1) (M (x + 1))) (fk_kx1 hX)) i rfl (by omega) (by decide) (v := nI 10) (by rw [hb i hok.1, hk]) d_C_resultOf_5 ?_
      refine lv_tableIn (off := 168) (tgt := 174) S.1 S.2.1 d_C_resultOf_6 (by decide +kernel) (by decide +kernel) (by decide +kernel) rfl ?_
      refine lv_aload_n S.1 S.2.1 d_C_resultOf_174 rfl (lv_at hl 1 rfl) ?_
      refine fk_gn S E G x (by have := fk_Xlt hX; omega) (v := .ref (fk_a g (x + 1))) (congrArg (fk_ce g ov x (M x)) (fk_kx0 hX)) rfl 0 (by decide) rfl (List.mem_of_getElem? (i := 2) rfl) rfl d_C_resultOf_175 ?_
      refine lv_iload_n S.1 S.2.1 d_C_resultOf_178 rfl (lv_at hl 2 rfl) ?_
      refine fk_ia S E G (x + 1) (by have := fk_Xlt hX; omega) (congrArg (fk_ce g ov (x + 1) (M (x + 1))) (fk_kx1 hX)) i rfl (by omega) (by decide) (v := nI (bf i)) (hb i hok.1) d_C_resultOf_179 ?_
      refine lv_aload_n S.1 S.2.1 d_C_resultOf_180 rfl (lv_at hl 0 rfl) ?_
      refine lv_aload_n S.1 S.2.1 d_C_resultOf_181 rfl (lv_at hl 1 rfl) ?_
      refine lv_aload_n S.1 S.2.1 d_C_resultOf_182 rfl (lv_at hl 1 rfl) ?_
      refine lv_iload_n S.1 S.2.1 d_C_resultOf_183 rfl (lv_at hl 2 rfl) ?_
      refine fk_cni S E G x (by have := fk_Xlt hX; omega) (congrArg (fk_ce g ov x (M x)) (fk_kx0 hX)) rfl (rest := [.ref (fk_a g x), .ref (fk_a g 82), .int (nI (bf i))]) (c_E_firstPart l g ov M x hX i (bf i) (by omega) (by have := hok.2.1; omega) (hb i hok.1)) m_E_firstPart (List.mem_of_getElem? (i := 34) rfl) ⟨rfl, rfl⟩ ⟨by show 0 + 1 ≤ 2 * (r + 1) + 3; omega, by show 8 + (2 + 11) + 64 * (0) ≤ 64 * (2 * (r + 1) + 3); omega⟩ rfl rfl hl.1 (Nat.le_of_ble_eq_true rfl) d_C_resultOf_184 ⟨Nat.zero_le _, Nat.zero_le _⟩ (fun H locs G => ?_)
      refine fk_cvi S E G 82 (by decide) (congrArg (fk_ce g ov 82 (M 82)) kd_82) rfl (rest := [.int (nI (bf i))]) (ih _ _ t1) m_C_resultOf i_558 ⟨rfl, rfl⟩ ⟨by show 2 * r + 3 + 1 ≤ 2 * (r + 1) + 3; omega, by show 8 + (3 + 11) + 64 * (2 * r + 3) ≤ 64 * (2 * (r + 1) + 3); omega⟩ rfl rfl hl.1 (Nat.le_of_ble_eq_true rfl) d_C_resultOf_187 ⟨Nat.zero_le _, Nat.zero_le _⟩ (fun H locs G => ?_)
      refine lv_aload_n S.1 S.2.1 d_C_resultOf_190 rfl (lv_at hl 0 rfl) ?_
      refine lv_aload_n S.1 S.2.1 d_C_resultOf_191 rfl (lv_at hl 1 rfl) ?_
      refine lv_aload_n S.1 S.2.1 d_C_resultOf_192 rfl (lv_at hl 1 rfl) ?_
      refine lv_iload_n S.1 S.2.1 d_C_resultOf_193 rfl (lv_at hl 2 rfl) ?_
      refine fk_cni S E G x (by have := fk_Xlt hX; omega) (congrArg (fk_ce g ov x (M x)) (fk_kx0 hX)) rfl (rest := [.ref (fk_a g x), .ref (fk_a g 82), .int (fk_ev M x bf r (i + fk_hd (bf i))), .int (nI (bf i))]) (fk_T_E t1 ▸ c_E_secondPart l g ov M x hX i (bf i) (by omega) (by have := hok.2.1; omega) (hb i hok.1) (by omega)) m_E_secondPart (List.mem_of_getElem? (i := 35) rfl) ⟨rfl, rfl⟩ ⟨by show 1 + 1 ≤ 2 * (r + 1) + 3; omega, by show 8 + (2 + 11) + 64 * (1) ≤ 64 * (2 * (r + 1) + 3); omega⟩ rfl rfl hl.1 (Nat.le_of_ble_eq_true rfl) d_C_resultOf_194 ⟨Nat.zero_le _, Nat.zero_le _⟩ (fun H locs G => ?_)
      refine fk_cvi S E G 82 (by decide) (congrArg (fk_ce g ov 82 (M 82)) kd_82) rfl (rest := [.int (fk_ev M x bf r (i + fk_hd (bf i))), .int (nI (bf i))]) (ih _ _ t2) m_C_resultOf i_558 ⟨rfl, rfl⟩ ⟨by show 2 * r + 3 + 1 ≤ 2 * (r + 1) + 3; omega, by show 8 + (3 + 11) + 64 * (2 * r + 3) ≤ 64 * (2 * (r + 1) + 3); omega⟩ rfl rfl hl.1 (Nat.le_of_ble_eq_true rfl) d_C_resultOf_197 ⟨Nat.zero_le _, Nat.zero_le _⟩ (fun H locs G => ?_)
      refine fk_csi S E G (rest := []) (c_C_combine l g ov M (bf i) (by omega) (by omega) (fk_ev M x bf r (i + fk_hd (bf i))) (fk_ev M x bf r y1)) m_C_combine i_578 ⟨rfl, rfl⟩ ⟨by show 1 + 1 ≤ 2 * (r + 1) + 3; omega, by show 8 + (3 + 11) + 64 * (1) ≤ 64 * (2 * (r + 1) + 3); omega⟩ rfl rfl hl.1 (Nat.le_of_ble_eq_true rfl) d_C_resultOf_200 ⟨Nat.zero_le _, Nat.zero_le _⟩ (fun H locs G => ?_)
      exact fk_iret S hr hlk E G rfl (by show _ = fk_ek M x (bf i) (bf (i + 1)) i _ _ _; rw [n1, hk]; rfl) d_C_resultOf_203
    · have hts0 : fk_Ts (fk_T bf n cnt (M (x + 2)) r) 2 (i + fk_hd (bf i)) ee := by
        have h9 : fk_ar (bf i) = 2 := by rw [hk]; decide
        rw [h9] at hts
        exact hts
      obtain ⟨y1, t1, y2, t2, hz⟩ := hts0
      have l1 := fk_T_lt _ _ _ t1
      have n1 := fk_en_T hn40 t1
      have l2 := fk_T_lt _ _ _ t2
      have n2 := fk_en_T hn40 t2
      refine lv_aload_n S.1 S.2.1 d_C_resultOf_0 rfl (lv_at hl 1 rfl) ?_
      refine fk_gn S E G x (by have := fk_Xlt hX; omega) (v := .ref (fk_a g (x + 1))) (congrArg (fk_ce g ov x (M x)) (fk_kx0 hX)) rfl 0 (by decide) rfl (List.mem_of_getElem? (i := 2) rfl) rfl d_C_resultOf_1 ?_
      refine lv_iload_n S.1 S.2.1 d_C_resultOf_4 rfl (lv_at hl 2 rfl) ?_
      refine fk_ia S E G (x + 1) (by have := fk_Xlt hX; omega) (congrArg (fk_ce g ov (x + 1) (M (x + 1))) (fk_kx1 hX)) i rfl (by omega) (by decide) (v := nI 11) (by rw [hb i hok.1, hk]) d_C_resultOf_5 ?_
      refine lv_tableIn (off := 168) (tgt := 174) S.1 S.2.1 d_C_resultOf_6 (by decide +kernel) (by decide +kernel) (by decide +kernel) rfl ?_
      refine lv_aload_n S.1 S.2.1 d_C_resultOf_174 rfl (lv_at hl 1 rfl) ?_
      refine fk_gn S E G x (by have := fk_Xlt hX; omega) (v := .ref (fk_a g (x + 1))) (congrArg (fk_ce g ov x (M x)) (fk_kx0 hX)) rfl 0 (by decide) rfl (List.mem_of_getElem? (i := 2) rfl) rfl d_C_resultOf_175 ?_
      refine lv_iload_n S.1 S.2.1 d_C_resultOf_178 rfl (lv_at hl 2 rfl) ?_
      refine fk_ia S E G (x + 1) (by have := fk_Xlt hX; omega) (congrArg (fk_ce g ov (x + 1) (M (x + 1))) (fk_kx1 hX)) i rfl (by omega) (by decide) (v := nI (bf i)) (hb i hok.1) d_C_resultOf_179 ?_
      refine lv_aload_n S.1 S.2.1 d_C_resultOf_180 rfl (lv_at hl 0 rfl) ?_
      refine lv_aload_n S.1 S.2.1 d_C_resultOf_181 rfl (lv_at hl 1 rfl) ?_
      refine lv_aload_n S.1 S.2.1 d_C_resultOf_182 rfl (lv_at hl 1 rfl) ?_
      refine lv_iload_n S.1 S.2.1 d_C_resultOf_183 rfl (lv_at hl 2 rfl) ?_
      refine fk_cni S E G x (by have := fk_Xlt hX; omega) (congrArg (fk_ce g ov x (M x)) (fk_kx0 hX)) rfl (rest := [.ref (fk_a g x), .ref (fk_a g 82), .int (nI (bf i))]) (c_E_firstPart l g ov M x hX i (bf i) (by omega) (by have := hok.2.1; omega) (hb i hok.1)) m_E_firstPart (List.mem_of_getElem? (i := 34) rfl) ⟨rfl, rfl⟩ ⟨by show 0 + 1 ≤ 2 * (r + 1) + 3; omega, by show 8 + (2 + 11) + 64 * (0) ≤ 64 * (2 * (r + 1) + 3); omega⟩ rfl rfl hl.1 (Nat.le_of_ble_eq_true rfl) d_C_resultOf_184 ⟨Nat.zero_le _, Nat.zero_le _⟩ (fun H locs G => ?_)
      refine fk_cvi S E G 82 (by decide) (congrArg (fk_ce g ov 82 (M 82)) kd_82) rfl (rest := [.int (nI (bf i))]) (ih _ _ t1) m_C_resultOf i_558 ⟨rfl, rfl⟩ ⟨by show 2 * r + 3 + 1 ≤ 2 * (r + 1) + 3; omega, by show 8 + (3 + 11) + 64 * (2 * r + 3) ≤ 64 * (2 * (r + 1) + 3); omega⟩ rfl rfl hl.1 (Nat.le_of_ble_eq_true rfl) d_C_resultOf_187 ⟨Nat.zero_le _, Nat.zero_le _⟩ (fun H locs G => ?_)
      refine lv_aload_n S.1 S.2.1 d_C_resultOf_190 rfl (lv_at hl 0 rfl) ?_
      refine lv_aload_n S.1 S.2.1 d_C_resultOf_191 rfl (lv_at hl 1 rfl) ?_
      refine lv_aload_n S.1 S.2.1 d_C_resultOf_192 rfl (lv_at hl 1 rfl) ?_
      refine lv_iload_n S.1 S.2.1 d_C_resultOf_193 rfl (lv_at hl 2 rfl) ?_
      refine fk_cni S E G x (by have := fk_Xlt hX; omega) (congrArg (fk_ce g ov x (M x)) (fk_kx0 hX)) rfl (rest := [.ref (fk_a g x), .ref (fk_a g 82), .int (fk_ev M x bf r (i + fk_hd (bf i))), .int (nI (bf i))]) (fk_T_E t1 ▸ c_E_secondPart l g ov M x hX i (bf i) (by omega) (by have := hok.2.1; omega) (hb i hok.1) (by omega)) m_E_secondPart (List.mem_of_getElem? (i := 35) rfl) ⟨rfl, rfl⟩ ⟨by show 1 + 1 ≤ 2 * (r + 1) + 3; omega, by show 8 + (2 + 11) + 64 * (1) ≤ 64 * (2 * (r + 1) + 3); omega⟩ rfl rfl hl.1 (Nat.le_of_ble_eq_true rfl) d_C_resultOf_194 ⟨Nat.zero_le _, Nat.zero_le _⟩ (fun H locs G => ?_)
      refine fk_cvi S E G 82 (by decide) (congrArg (fk_ce g ov 82 (M 82)) kd_82) rfl (rest := [.int (fk_ev M x bf r (i + fk_hd (bf i))), .int (nI (bf i))]) (ih _ _ t2) m_C_resultOf i_558 ⟨rfl, rfl⟩ ⟨by show 2 * r + 3 + 1 ≤ 2 * (r + 1) + 3; omega, by show 8 + (3 + 11) + 64 * (2 * r + 3) ≤ 64 * (2 * (r + 1) + 3); omega⟩ rfl rfl hl.1 (Nat.le_of_ble_eq_true rfl) d_C_resultOf_197 ⟨Nat.zero_le _, Nat.zero_le _⟩ (fun H locs G => ?_)
      refine fk_csi S E G (rest := []) (c_C_combine l g ov M (bf i) (by omega) (by omega) (fk_ev M x bf r (i + fk_hd (bf i))) (fk_ev M x bf r y1)) m_C_combine i_578 ⟨rfl, rfl⟩ ⟨by show 1 + 1 ≤ 2 * (r + 1) + 3; omega, by show 8 + (3 + 11) + 64 * (1) ≤ 64 * (2 * (r + 1) + 3); omega⟩ rfl rfl hl.1 (Nat.le_of_ble_eq_true rfl) d_C_resultOf_200 ⟨Nat.zero_le _, Nat.zero_le _⟩ (fun H locs G => ?_)
      exact fk_iret S hr hlk E G rfl (by show _ = fk_ek M x (bf i) (bf (i + 1)) i _ _ _; rw [n1, hk]; rfl) d_C_resultOf_203
    · have hts0 : fk_Ts (fk_T bf n cnt (M (x + 2)) r) 2 (i + fk_hd (bf i)) ee := by
        have h9 : fk_ar (bf i) = 2 := by rw [hk]; decide
        rw [h9] at hts
        exact hts
      obtain ⟨y1, t1, y2, t2, hz⟩ := hts0
      have l1 := fk_T_lt _ _ _ t1
      have n1 := fk_en_T hn40 t1
      have l2 := fk_T_lt _ _ _ t2
      have n2 := fk_en_T hn40 t2
      refine lv_aload_n S.1 S.2.1 d_C_resultOf_0 rfl (lv_at hl 1 rfl) ?_
      refine fk_gn S E G x (by have := fk_Xlt hX; omega) (v := .ref (fk_a g (x + 1))) (congrArg (fk_ce g ov x (M x)) (fk_kx0 hX)) rfl 0 (by decide) rfl (List.mem_of_getElem? (i := 2) rfl) rfl d_C_resultOf_1 ?_
      refine lv_iload_n S.1 S.2.1 d_C_resultOf_4 rfl (lv_at hl 2 rfl) ?_
      refine fk_ia S E G (x + 1) (by have := fk_Xlt hX; omega) (congrArg (fk_ce g ov (x + 1) (M (x + 1))) (fk_kx1 hX)) i rfl (by omega) (by decide) (v := nI 12) (by rw [hb i hok.1, hk]) d_C_resultOf_5 ?_
      refine lv_tableIn (off := 168) (tgt := 174) S.1 S.2.1 d_C_resultOf_6 (by decide +kernel) (by decide +kernel) (by decide +kernel) rfl ?_
      refine lv_aload_n S.1 S.2.1 d_C_resultOf_174 rfl (lv_at hl 1 rfl) ?_
      refine fk_gn S E G x (by have := fk_Xlt hX; omega) (v := .ref (fk_a g (x + 1))) (congrArg (fk_ce g ov x (M x)) (fk_kx0 hX)) rfl 0 (by decide) rfl (List.mem_of_getElem? (i := 2) rfl) rfl d_C_resultOf_175 ?_
      refine lv_iload_n S.1 S.2.1 d_C_resultOf_178 rfl (lv_at hl 2 rfl) ?_
      refine fk_ia S E G (x + 1) (by have := fk_Xlt hX; omega) (congrArg (fk_ce g ov (x + 1) (M (x + 1))) (fk_kx1 hX)) i rfl (by omega) (by decide) (v := nI (bf i)) (hb i hok.1) d_C_resultOf_179 ?_
      refine lv_aload_n S.1 S.2.1 d_C_resultOf_180 rfl (lv_at hl 0 rfl) ?_
      refine lv_aload_n S.1 S.2.1 d_C_resultOf_181 rfl (lv_at hl 1 rfl) ?_
      refine lv_aload_n S.1 S.2.1 d_C_resultOf_182 rfl (lv_at hl 1 rfl) ?_
      refine lv_iload_n S.1 S.2.1 d_C_resultOf_183 rfl (lv_at hl 2 rfl) ?_
      refine fk_cni S E G x (by have := fk_Xlt hX; omega) (congrArg (fk_ce g ov x (M x)) (fk_kx0 hX)) rfl (rest := [.ref (fk_a g x), .ref (fk_a g 82), .int (nI (bf i))]) (c_E_firstPart l g ov M x hX i (bf i) (by omega) (by have := hok.2.1; omega) (hb i hok.1)) m_E_firstPart (List.mem_of_getElem? (i := 34) rfl) ⟨rfl, rfl⟩ ⟨by show 0 + 1 ≤ 2 * (r + 1) + 3; omega, by show 8 + (2 + 11) + 64 * (0) ≤ 64 * (2 * (r + 1) + 3); omega⟩ rfl rfl hl.1 (Nat.le_of_ble_eq_true rfl) d_C_resultOf_184 ⟨Nat.zero_le _, Nat.zero_le _⟩ (fun H locs G => ?_)
      refine fk_cvi S E G 82 (by decide) (congrArg (fk_ce g ov 82 (M 82)) kd_82) rfl (rest := [.int (nI (bf i))]) (ih _ _ t1) m_C_resultOf i_558 ⟨rfl, rfl⟩ ⟨by show 2 * r + 3 + 1 ≤ 2 * (r + 1) + 3; omega, by show 8 + (3 + 11) + 64 * (2 * r + 3) ≤ 64 * (2 * (r + 1) + 3); omega⟩ rfl rfl hl.1 (Nat.le_of_ble_eq_true rfl) d_C_resultOf_187 ⟨Nat.zero_le _, Nat.zero_le _⟩ (fun H locs G => ?_)
      refine lv_aload_n S.1 S.2.1 d_C_resultOf_190 rfl (lv_at hl 0 rfl) ?_
      refine lv_aload_n S.1 S.2.1 d_C_resultOf_191 rfl (lv_at hl 1 rfl) ?_
      refine lv_aload_n S.1 S.2.1 d_C_resultOf_192 rfl (lv_at hl 1 rfl) ?_
      refine lv_iload_n S.1 S.2.1 d_C_resultOf_193 rfl (lv_at hl 2 rfl) ?_
      refine fk_cni S E G x (by have := fk_Xlt hX; omega) (congrArg (fk_ce g ov x (M x)) (fk_kx0 hX)) rfl (rest := [.ref (fk_a g x), .ref (fk_a g 82), .int (fk_ev M x bf r (i + fk_hd (bf i))), .int (nI (bf i))]) (fk_T_E t1 ▸ c_E_secondPart l g ov M x hX i (bf i) (by omega) (by have := hok.2.1; omega) (hb i hok.1) (by omega)) m_E_secondPart (List.mem_of_getElem? (i := 35) rfl) ⟨rfl, rfl⟩ ⟨by show 1 + 1 ≤ 2 * (r + 1) + 3; omega, by show 8 + (2 + 11) + 64 * (1) ≤ 64 * (2 * (r + 1) + 3); omega⟩ rfl rfl hl.1 (Nat.le_of_ble_eq_true rfl) d_C_resultOf_194 ⟨Nat.zero_le _, Nat.zero_le _⟩ (fun H locs G => ?_)
      refine fk_cvi S E G 82 (by decide) (congrArg (fk_ce g ov 82 (M 82)) kd_82) rfl (rest := [.int (fk_ev M x bf r (i + fk_hd (bf i))), .int (nI (bf i))]) (ih _ _ t2) m_C_resultOf i_558 ⟨rfl, rfl⟩ ⟨by show 2 * r + 3 + 1 ≤ 2 * (r + 1) + 3; omega, by show 8 + (3 + 11) + 64 * (2 * r + 3) ≤ 64 * (2 * (r + 1) + 3); omega⟩ rfl rfl hl.1 (Nat.le_of_ble_eq_true rfl) d_C_resultOf_197 ⟨Nat.zero_le _, Nat.zero_le _⟩ (fun H locs G => ?_)
      refine fk_csi S E G (rest := []) (c_C_combine l g ov M (bf i) (by omega) (by omega) (fk_ev M x bf r (i + fk_hd (bf i))) (fk_ev M x bf r y1)) m_C_combine i_578 ⟨rfl, rfl⟩ ⟨by show 1 + 1 ≤ 2 * (r + 1) + 3; omega, by show 8 + (3 + 11) + 64 * (1) ≤ 64 * (2 * (r + 1) + 3); omega⟩ rfl rfl hl.1 (Nat.le_of_ble_eq_true rfl) d_C_resultOf_200 ⟨Nat.zero_le _, Nat.zero_le _⟩ (fun H locs G => ?_)
      exact fk_iret S hr hlk E G rfl (by show _ = fk_ek M x (bf i) (bf (i + 1)) i _ _ _; rw [n1, hk]; rfl) d_C_resultOf_203
    · have hts0 : fk_Ts (fk_T bf n cnt (M (x + 2)) r) 3 (i + fk_hd (bf i)) ee := by
        have h9 : fk_ar (bf i) = 3 := by rw [hk]; decide
        rw [h9] at hts
        exact hts
      obtain ⟨y1, t1, y2, t2, y3, t3, hz⟩ := hts0
      have l1 := fk_T_lt _ _ _ t1
      have n1 := fk_en_T hn40 t1
      have l2 := fk_T_lt _ _ _ t2
      have n2 := fk_en_T hn40 t2
      have l3 := fk_T_lt _ _ _ t3
      have n3 := fk_en_T hn40 t3
      refine lv_aload_n S.1 S.2.1 d_C_resultOf_0 rfl (lv_at hl 1 rfl) ?_
      refine fk_gn S E G x (by have := fk_Xlt hX; omega) (v := .ref (fk_a g (x + 1))) (congrArg (fk_ce g ov x (M x)) (fk_kx0 hX)) rfl 0 (by decide) rfl (List.mem_of_getElem? (i := 2) rfl) rfl d_C_resultOf_1 ?_
      refine lv_iload_n S.1 S.2.1 d_C_resultOf_4 rfl (lv_at hl 2 rfl) ?_
      refine fk_ia S E G (x + 1) (by have := fk_Xlt hX; omega) (congrArg (fk_ce g ov (x + 1) (M (x + 1))) (fk_kx1 hX)) i rfl (by omega) (by decide) (v := nI 13) (by rw [hb i hok.1, hk]) d_C_resultOf_5 ?_
      refine lv_tableIn (off := 131) (tgt := 137) S.1 S.2.1 d_C_resultOf_6 (by decide +kernel) (by decide +kernel) (by decide +kernel) rfl ?_
      refine lv_aload_n S.1 S.2.1 d_C_resultOf_137 rfl (lv_at hl 0 rfl) ?_
      refine lv_aload_n S.1 S.2.1 d_C_resultOf_138 rfl (lv_at hl 1 rfl) ?_
      refine lv_aload_n S.1 S.2.1 d_C_resultOf_139 rfl (lv_at hl 0 rfl) ?_
      refine lv_aload_n S.1 S.2.1 d_C_resultOf_140 rfl (lv_at hl 1 rfl) ?_
      refine lv_iload_n S.1 S.2.1 d_C_resultOf_141 rfl (lv_at hl 2 rfl) ?_
      have hcp := c_C_chosenPart l g ov M x hX bf n cnt hn40 h12 hb hck r i ee ht0 (by omega) ih
      refine fk_cvi S E G 82 (by decide) (congrArg (fk_ce g ov 82 (M 82)) kd_82) rfl (rest := [.ref (fk_a g x), .ref (fk_a g 82)]) hcp m_C_chosenPart i_563 ⟨rfl, rfl⟩ ⟨by show 2 * r + 4 + 1 ≤ 2 * (r + 1) + 3; omega, by show 8 + (6 + 11) + 64 * (2 * r + 4) ≤ 64 * (2 * (r + 1) + 3); omega⟩ rfl rfl hl.1 (Nat.le_of_ble_eq_true rfl) d_C_resultOf_142 ⟨Nat.zero_le _, Nat.zero_le _⟩ (fun H locs G => ?_)
      by_cases hif : fk_ev M x bf r (i + fk_hd (bf i)) = nI 1
      · have hcq : fk_cp M x bf r i = y1 := by
          show fk_cq M x (bf i) _ i _ _ _ _ = _
          rw [n1]
          rw [hk] at hif ⊢
          exact if_pos hif
        rw [hcq]
        refine fk_cvi S E G 82 (by decide) (congrArg (fk_ce g ov 82 (M 82)) kd_82) rfl (rest := []) (ih _ _ t2) m_C_resultOf i_558 ⟨rfl, rfl⟩ ⟨by show 2 * r + 3 + 1 ≤ 2 * (r + 1) + 3; omega, by show 8 + (3 + 11) + 64 * (2 * r + 3) ≤ 64 * (2 * (r + 1) + 3); omega⟩ rfl rfl hl.1 (Nat.le_of_ble_eq_true rfl) d_C_resultOf_145 ⟨Nat.zero_le _, Nat.zero_le _⟩ (fun H locs G => ?_)
        exact fk_iret S hr hlk E G rfl (by show _ = fk_ek M x (bf i) (bf (i + 1)) i _ _ _; rw [n1, hk]; rw [hk] at hif; show _ = (if _ then _ else _); rw [if_pos hif]) d_C_resultOf_148
      · have hcq : fk_cp M x bf r i = y2 := by
          show fk_cq M x (bf i) _ i _ _ _ _ = _
          rw [n1, n2]
          rw [hk] at hif ⊢
          exact if_neg hif
        rw [hcq]
        refine fk_cvi S E G 82 (by decide) (congrArg (fk_ce g ov 82 (M 82)) kd_82) rfl (rest := []) (ih _ _ t3) m_C_resultOf i_558 ⟨rfl, rfl⟩ ⟨by show 2 * r + 3 + 1 ≤ 2 * (r + 1) + 3; omega, by show 8 + (3 + 11) + 64 * (2 * r + 3) ≤ 64 * (2 * (r + 1) + 3); omega⟩ rfl rfl hl.1 (Nat.le_of_ble_eq_true rfl) d_C_resultOf_145 ⟨Nat.zero_le _, Nat.zero_le _⟩ (fun H locs G => ?_)
        exact fk_iret S hr hlk E G rfl (by show _ = fk_ek M x (bf i) (bf (i + 1)) i _ _ _; rw [n1, n2, hk]; rw [hk] at hif; show _ = (if _ then _ else _); rw [if_neg hif]) d_C_resultOf_148
    · have hts0 : fk_Ts (fk_T bf n cnt (M (x + 2)) r) 1 (i + fk_hd (bf i)) ee := by
        have h9 : fk_ar (bf i) = 1 := by rw [hk]; decide
        rw [h9] at hts
        exact hts
      obtain ⟨y1, t1, hz⟩ := hts0
      have l1 := fk_T_lt _ _ _ t1
      have n1 := fk_en_T hn40 t1
      refine lv_aload_n S.1 S.2.1 d_C_resultOf_0 rfl (lv_at hl 1 rfl) ?_
      refine fk_gn S E G x (by have := fk_Xlt hX; omega) (v := .ref (fk_a g (x + 1))) (congrArg (fk_ce g ov x (M x)) (fk_kx0 hX)) rfl 0 (by decide) rfl (List.mem_of_getElem? (i := 2) rfl) rfl d_C_resultOf_1 ?_
      refine lv_iload_n S.1 S.2.1 d_C_resultOf_4 rfl (lv_at hl 2 rfl) ?_
      refine fk_ia S E G (x + 1) (by have := fk_Xlt hX; omega) (congrArg (fk_ce g ov (x + 1) (M (x + 1))) (fk_kx1 hX)) i rfl (by omega) (by decide) (v := nI 14) (by rw [hb i hok.1, hk]) d_C_resultOf_5 ?_
      refine lv_tableIn (off := 124) (tgt := 130) S.1 S.2.1 d_C_resultOf_6 (by decide +kernel) (by decide +kernel) (by decide +kernel) rfl ?_
      refine lv_aload_n S.1 S.2.1 d_C_resultOf_130 rfl (lv_at hl 1 rfl) ?_
      refine fk_gn S E G x (by have := fk_Xlt hX; omega) (v := .ref (fk_a g (x + 4))) (congrArg (fk_ce g ov x (M x)) (fk_kx0 hX)) rfl 3 (by decide) rfl (List.mem_of_getElem? (i := 7) rfl) rfl d_C_resultOf_131 ?_
      refine lv_iload_n S.1 S.2.1 d_C_resultOf_134 rfl (lv_at hl 2 rfl) ?_
      refine fk_ia S E G (x + 4) (by have := fk_Xlt hX; omega) (congrArg (fk_ce g ov (x + 4) (M (x + 4))) (fk_kx4 hX)) i rfl (by omega) (by decide) (v := M (x + 4) i) rfl d_C_resultOf_135 ?_
      exact fk_iret S hr hlk E G rfl (by show _ = fk_ek M x (bf i) (bf (i + 1)) i _ _ _; rw [hk]; rfl) d_C_resultOf_136
    · have hts0 : fk_Ts (fk_T bf n cnt (M (x + 2)) r) 2 (i + fk_hd (bf i)) ee := by
        have h9 : fk_ar (bf i) = 2 := by rw [hk]; decide
        rw [h9] at hts
        exact hts
      obtain ⟨y1, t1, y2, t2, hz⟩ := hts0
      have l1 := fk_T_lt _ _ _ t1
      have n1 := fk_en_T hn40 t1
      have l2 := fk_T_lt _ _ _ t2
      have n2 := fk_en_T hn40 t2
      refine lv_aload_n S.1 S.2.1 d_C_resultOf_0 rfl (lv_at hl 1 rfl) ?_
      refine fk_gn S E G x (by have := fk_Xlt hX; omega) (v := .ref (fk_a g (x + 1))) (congrArg (fk_ce g ov x (M x)) (fk_kx0 hX)) rfl 0 (by decide) rfl (List.mem_of_getElem? (i := 2) rfl) rfl d_C_resultOf_1 ?_
      refine lv_iload_n S.1 S.2.1 d_C_resultOf_4 rfl (lv_at hl 2 rfl) ?_
      refine fk_ia S E G (x + 1) (by have := fk_Xlt hX; omega) (congrArg (fk_ce g ov (x + 1) (M (x + 1))) (fk_kx1 hX)) i rfl (by omega) (by decide) (v := nI 15) (by rw [hb i hok.1, hk]) d_C_resultOf_5 ?_
      refine lv_tableIn (off := 131) (tgt := 137) S.1 S.2.1 d_C_resultOf_6 (by decide +kernel) (by decide +kernel) (by decide +kernel) rfl ?_
      refine lv_aload_n S.1 S.2.1 d_C_resultOf_137 rfl (lv_at hl 0 rfl) ?_
      refine lv_aload_n S.1 S.2.1 d_C_resultOf_138 rfl (lv_at hl 1 rfl) ?_
      refine lv_aload_n S.1 S.2.1 d_C_resultOf_139 rfl (lv_at hl 0 rfl) ?_
      refine lv_aload_n S.1 S.2.1 d_C_resultOf_140 rfl (lv_at hl 1 rfl) ?_
      refine lv_iload_n S.1 S.2.1 d_C_resultOf_141 rfl (lv_at hl 2 rfl) ?_
      have hcp := c_C_chosenPart l g ov M x hX bf n cnt hn40 h12 hb hck r i ee ht0 (by omega) ih
      refine fk_cvi S E G 82 (by decide) (congrArg (fk_ce g ov 82 (M 82)) kd_82) rfl (rest := [.ref (fk_a g x), .ref (fk_a g 82)]) hcp m_C_chosenPart i_563 ⟨rfl, rfl⟩ ⟨by show 2 * r + 4 + 1 ≤ 2 * (r + 1) + 3; omega, by show 8 + (6 + 11) + 64 * (2 * r + 4) ≤ 64 * (2 * (r + 1) + 3); omega⟩ rfl rfl hl.1 (Nat.le_of_ble_eq_true rfl) d_C_resultOf_142 ⟨Nat.zero_le _, Nat.zero_le _⟩ (fun H locs G => ?_)
      by_cases hif : M 83 (M (x + 3) i).toNatClampNeg = 0
      · have hcq : fk_cp M x bf r i = i + fk_hd (bf i) := by
          show fk_cq M x (bf i) _ i _ _ _ _ = _
          rw [hk]
          exact if_pos hif
        rw [hcq]
        refine fk_cvi S E G 82 (by decide) (congrArg (fk_ce g ov 82 (M 82)) kd_82) rfl (rest := []) (ih _ _ t1) m_C_resultOf i_558 ⟨rfl, rfl⟩ ⟨by show 2 * r + 3 + 1 ≤ 2 * (r + 1) + 3; omega, by show 8 + (3 + 11) + 64 * (2 * r + 3) ≤ 64 * (2 * (r + 1) + 3); omega⟩ rfl rfl hl.1 (Nat.le_of_ble_eq_true rfl) d_C_resultOf_145 ⟨Nat.zero_le _, Nat.zero_le _⟩ (fun H locs G => ?_)
        exact fk_iret S hr hlk E G rfl (by show _ = fk_ek M x (bf i) (bf (i + 1)) i _ _ _; rw [hk]; show _ = (if M 83 (M (x + 3) i).toNatClampNeg = 0 then _ else _); rw [if_pos hif]) d_C_resultOf_148
      · have hcq : fk_cp M x bf r i = y1 := by
          show fk_cq M x (bf i) _ i _ _ _ _ = _
          rw [n1, hk]
          exact if_neg hif
        rw [hcq]
        refine fk_cvi S E G 82 (by decide) (congrArg (fk_ce g ov 82 (M 82)) kd_82) rfl (rest := []) (ih _ _ t2) m_C_resultOf i_558 ⟨rfl, rfl⟩ ⟨by show 2 * r + 3 + 1 ≤ 2 * (r + 1) + 3; omega, by show 8 + (3 + 11) + 64 * (2 * r + 3) ≤ 64 * (2 * (r + 1) + 3); omega⟩ rfl rfl hl.1 (Nat.le_of_ble_eq_true rfl) d_C_resultOf_145 ⟨Nat.zero_le _, Nat.zero_le _⟩ (fun H locs G => ?_)
        exact fk_iret S hr hlk E G rfl (by show _ = fk_ek M x (bf i) (bf (i + 1)) i _ _ _; rw [n1, hk]; show _ = (if M 83 (M (x + 3) i).toNatClampNeg = 0 then _ else _); rw [if_neg hif]) d_C_resultOf_148
    · have hts0 : fk_Ts (fk_T bf n cnt (M (x + 2)) r) 1 (i + fk_hd (bf i)) ee := by
        have h9 : fk_ar (bf i) = 1 := by rw [hk]; decide
        rw [h9] at hts
        exact hts
      obtain ⟨y1, t1, hz⟩ := hts0
      have l1 := fk_T_lt _ _ _ t1
      have n1 := fk_en_T hn40 t1
      refine lv_aload_n S.1 S.2.1 d_C_resultOf_0 rfl (lv_at hl 1 rfl) ?_
      refine fk_gn S E G x (by have := fk_Xlt hX; omega) (v := .ref (fk_a g (x + 1))) (congrArg (fk_ce g ov x (M x)) (fk_kx0 hX)) rfl 0 (by decide) rfl (List.mem_of_getElem? (i := 2) rfl) rfl d_C_resultOf_1 ?_
      refine lv_iload_n S.1 S.2.1 d_C_resultOf_4 rfl (lv_at hl 2 rfl) ?_
      refine fk_ia S E G (x + 1) (by have := fk_Xlt hX; omega) (congrArg (fk_ce g ov (x + 1) (M (x + 1))) (fk_kx1 hX)) i rfl (by omega) (by decide) (v := nI 16) (by rw [hb i hok.1, hk]) d_C_resultOf_5 ?_
      refine lv_tableIn (off := 131) (tgt := 137) S.1 S.2.1 d_C_resultOf_6 (by decide +kernel) (by decide +kernel) (by decide +kernel) rfl ?_
      refine lv_aload_n S.1 S.2.1 d_C_resultOf_137 rfl (lv_at hl 0 rfl) ?_
      refine lv_aload_n S.1 S.2.1 d_C_resultOf_138 rfl (lv_at hl 1 rfl) ?_
      refine lv_aload_n S.1 S.2.1 d_C_resultOf_139 rfl (lv_at hl 0 rfl) ?_
      refine lv_aload_n S.1 S.2.1 d_C_resultOf_140 rfl (lv_at hl 1 rfl) ?_
      refine lv_iload_n S.1 S.2.1 d_C_resultOf_141 rfl (lv_at hl 2 rfl) ?_
      have hcp := c_C_chosenPart l g ov M x hX bf n cnt hn40 h12 hb hck r i ee ht0 (by omega) ih
      refine fk_cvi S E G 82 (by decide) (congrArg (fk_ce g ov 82 (M 82)) kd_82) rfl (rest := [.ref (fk_a g x), .ref (fk_a g 82)]) hcp m_C_chosenPart i_563 ⟨rfl, rfl⟩ ⟨by show 2 * r + 4 + 1 ≤ 2 * (r + 1) + 3; omega, by show 8 + (6 + 11) + 64 * (2 * r + 4) ≤ 64 * (2 * (r + 1) + 3); omega⟩ rfl rfl hl.1 (Nat.le_of_ble_eq_true rfl) d_C_resultOf_142 ⟨Nat.zero_le _, Nat.zero_le _⟩ (fun H locs G => ?_)
      have hcq : fk_cp M x bf r i = i + fk_hd (bf i) := by
        show fk_cq M x (bf i) _ i _ _ _ _ = _
        rw [hk]
        rfl
      rw [hcq]
      refine fk_cvi S E G 82 (by decide) (congrArg (fk_ce g ov 82 (M 82)) kd_82) rfl (rest := []) (ih _ _ t1) m_C_resultOf i_558 ⟨rfl, rfl⟩ ⟨by show 2 * r + 3 + 1 ≤ 2 * (r + 1) + 3; omega, by show 8 + (3 + 11) + 64 * (2 * r + 3) ≤ 64 * (2 * (r + 1) + 3); omega⟩ rfl rfl hl.1 (Nat.le_of_ble_eq_true rfl) d_C_resultOf_145 ⟨Nat.zero_le _, Nat.zero_le _⟩ (fun H locs G => ?_)
      exact fk_iret S hr hlk E G rfl (by show _ = fk_ek M x (bf i) (bf (i + 1)) i _ _ _; rw [hk]; rfl) d_C_resultOf_148
    · have hts0 : fk_Ts (fk_T bf n cnt (M (x + 2)) r) 1 (i + fk_hd (bf i)) ee := by
        have h9 : fk_ar (bf i) = 1 := by rw [hk]; decide
        rw [h9] at hts
        exact hts
      obtain ⟨y1, t1, hz⟩ := hts0
      have l1 := fk_T_lt _ _ _ t1
      have n1 := fk_en_T hn40 t1
      refine lv_aload_n S.1 S.2.1 d_C_resultOf_0 rfl (lv_at hl 1 rfl) ?_
      refine fk_gn S E G x (by have := fk_Xlt hX; omega) (v := .ref (fk_a g (x + 1))) (congrArg (fk_ce g ov x (M x)) (fk_kx0 hX)) rfl 0 (by decide) rfl (List.mem_of_getElem? (i := 2) rfl) rfl d_C_resultOf_1 ?_
      refine lv_iload_n S.1 S.2.1 d_C_resultOf_4 rfl (lv_at hl 2 rfl) ?_
      refine fk_ia S E G (x + 1) (by have := fk_Xlt hX; omega) (congrArg (fk_ce g ov (x + 1) (M (x + 1))) (fk_kx1 hX)) i rfl (by omega) (by decide) (v := nI 17) (by rw [hb i hok.1, hk]) d_C_resultOf_5 ?_
      refine lv_tableIn (off := 131) (tgt := 137) S.1 S.2.1 d_C_resultOf_6 (by decide +kernel) (by decide +kernel) (by decide +kernel) rfl ?_
      refine lv_aload_n S.1 S.2.1 d_C_resultOf_137 rfl (lv_at hl 0 rfl) ?_
      refine lv_aload_n S.1 S.2.1 d_C_resultOf_138 rfl (lv_at hl 1 rfl) ?_
      refine lv_aload_n S.1 S.2.1 d_C_resultOf_139 rfl (lv_at hl 0 rfl) ?_
      refine lv_aload_n S.1 S.2.1 d_C_resultOf_140 rfl (lv_at hl 1 rfl) ?_
      refine lv_iload_n S.1 S.2.1 d_C_resultOf_141 rfl (lv_at hl 2 rfl) ?_
      have hcp := c_C_chosenPart l g ov M x hX bf n cnt hn40 h12 hb hck r i ee ht0 (by omega) ih
      refine fk_cvi S E G 82 (by decide) (congrArg (fk_ce g ov 82 (M 82)) kd_82) rfl (rest := [.ref (fk_a g x), .ref (fk_a g 82)]) hcp m_C_chosenPart i_563 ⟨rfl, rfl⟩ ⟨by show 2 * r + 4 + 1 ≤ 2 * (r + 1) + 3; omega, by show 8 + (6 + 11) + 64 * (2 * r + 4) ≤ 64 * (2 * (r + 1) + 3); omega⟩ rfl rfl hl.1 (Nat.le_of_ble_eq_true rfl) d_C_resultOf_142 ⟨Nat.zero_le _, Nat.zero_le _⟩ (fun H locs G => ?_)
      have hcq : fk_cp M x bf r i = i + fk_hd (bf i) := by
        show fk_cq M x (bf i) _ i _ _ _ _ = _
        rw [hk]
        rfl
      rw [hcq]
      refine fk_cvi S E G 82 (by decide) (congrArg (fk_ce g ov 82 (M 82)) kd_82) rfl (rest := []) (ih _ _ t1) m_C_resultOf i_558 ⟨rfl, rfl⟩ ⟨by show 2 * r + 3 + 1 ≤ 2 * (r + 1) + 3; omega, by show 8 + (3 + 11) + 64 * (2 * r + 3) ≤ 64 * (2 * (r + 1) + 3); omega⟩ rfl rfl hl.1 (Nat.le_of_ble_eq_true rfl) d_C_resultOf_145 ⟨Nat.zero_le _, Nat.zero_le _⟩ (fun H locs G => ?_)
      exact fk_iret S hr hlk E G rfl (by show _ = fk_ek M x (bf i) (bf (i + 1)) i _ _ _; rw [hk]; rfl) d_C_resultOf_148
    · have hts0 : fk_Ts (fk_T bf n cnt (M (x + 2)) r) 2 (i + fk_hd (bf i)) ee := by
        have h9 : fk_ar (bf i) = 2 := by rw [hk]; decide
        rw [h9] at hts
        exact hts
      obtain ⟨y1, t1, y2, t2, hz⟩ := hts0
      have l1 := fk_T_lt _ _ _ t1
      have n1 := fk_en_T hn40 t1
      have l2 := fk_T_lt _ _ _ t2
      have n2 := fk_en_T hn40 t2
      refine lv_aload_n S.1 S.2.1 d_C_resultOf_0 rfl (lv_at hl 1 rfl) ?_
      refine fk_gn S E G x (by have := fk_Xlt hX; omega) (v := .ref (fk_a g (x + 1))) (congrArg (fk_ce g ov x (M x)) (fk_kx0 hX)) rfl 0 (by decide) rfl (List.mem_of_getElem? (i := 2) rfl) rfl d_C_resultOf_1 ?_
      refine lv_iload_n S.1 S.2.1 d_C_resultOf_4 rfl (lv_at hl 2 rfl) ?_
      refine fk_ia S E G (x + 1) (by have := fk_Xlt hX; omega) (congrArg (fk_ce g ov (x + 1) (M (x + 1))) (fk_kx1 hX)) i rfl (by omega) (by decide) (v := nI 18) (by rw [hb i hok.1, hk]) d_C_resultOf_5 ?_
      refine lv_tableIn (off := 131) (tgt := 137) S.1 S.2.1 d_C_resultOf_6 (by decide +kernel) (by decide +kernel) (by decide +kernel) rfl ?_
      refine lv_aload_n S.1 S.2.1 d_C_resultOf_137 rfl (lv_at hl 0 rfl) ?_
      refine lv_aload_n S.1 S.2.1 d_C_resultOf_138 rfl (lv_at hl 1 rfl) ?_
      refine lv_aload_n S.1 S.2.1 d_C_resultOf_139 rfl (lv_at hl 0 rfl) ?_
      refine lv_aload_n S.1 S.2.1 d_C_resultOf_140 rfl (lv_at hl 1 rfl) ?_
      refine lv_iload_n S.1 S.2.1 d_C_resultOf_141 rfl (lv_at hl 2 rfl) ?_
      have hcp := c_C_chosenPart l g ov M x hX bf n cnt hn40 h12 hb hck r i ee ht0 (by omega) ih
      refine fk_cvi S E G 82 (by decide) (congrArg (fk_ce g ov 82 (M 82)) kd_82) rfl (rest := [.ref (fk_a g x), .ref (fk_a g 82)]) hcp m_C_chosenPart i_563 ⟨rfl, rfl⟩ ⟨by show 2 * r + 4 + 1 ≤ 2 * (r + 1) + 3; omega, by show 8 + (6 + 11) + 64 * (2 * r + 4) ≤ 64 * (2 * (r + 1) + 3); omega⟩ rfl rfl hl.1 (Nat.le_of_ble_eq_true rfl) d_C_resultOf_142 ⟨Nat.zero_le _, Nat.zero_le _⟩ (fun H locs G => ?_)
      by_cases hif : M (3 + 6 * bf (i + 1)) 6 = nI 1
      · have hcq : fk_cp M x bf r i = i + fk_hd (bf i) := by
          show fk_cq M x (bf i) _ i _ _ _ _ = _
          rw [hk]
          exact if_pos hif
        rw [hcq]
        refine fk_cvi S E G 82 (by decide) (congrArg (fk_ce g ov 82 (M 82)) kd_82) rfl (rest := []) (ih _ _ t1) m_C_resultOf i_558 ⟨rfl, rfl⟩ ⟨by show 2 * r + 3 + 1 ≤ 2 * (r + 1) + 3; omega, by show 8 + (3 + 11) + 64 * (2 * r + 3) ≤ 64 * (2 * (r + 1) + 3); omega⟩ rfl rfl hl.1 (Nat.le_of_ble_eq_true rfl) d_C_resultOf_145 ⟨Nat.zero_le _, Nat.zero_le _⟩ (fun H locs G => ?_)
        exact fk_iret S hr hlk E G rfl (by show _ = fk_ek M x (bf i) (bf (i + 1)) i _ _ _; rw [hk]; show _ = (if _ then _ else _); rw [if_pos hif]) d_C_resultOf_148
      · have hcq : fk_cp M x bf r i = y1 := by
          show fk_cq M x (bf i) _ i _ _ _ _ = _
          rw [n1, hk]
          exact if_neg hif
        rw [hcq]
        refine fk_cvi S E G 82 (by decide) (congrArg (fk_ce g ov 82 (M 82)) kd_82) rfl (rest := []) (ih _ _ t2) m_C_resultOf i_558 ⟨rfl, rfl⟩ ⟨by show 2 * r + 3 + 1 ≤ 2 * (r + 1) + 3; omega, by show 8 + (3 + 11) + 64 * (2 * r + 3) ≤ 64 * (2 * (r + 1) + 3); omega⟩ rfl rfl hl.1 (Nat.le_of_ble_eq_true rfl) d_C_resultOf_145 ⟨Nat.zero_le _, Nat.zero_le _⟩ (fun H locs G => ?_)
        exact fk_iret S hr hlk E G rfl (by show _ = fk_ek M x (bf i) (bf (i + 1)) i _ _ _; rw [n1, hk]; show _ = (if _ then _ else _); rw [if_neg hif]) d_C_resultOf_148
