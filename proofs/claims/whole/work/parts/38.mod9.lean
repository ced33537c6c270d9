/-! The reference: reckon, keep, reckonAll. Written by wip/gen/s_mod9.py. -/
def fk_rk (k : Nat) (x y z : Int32) : Int32 := match k with
  | 4 => nI 1 - x
  | 5 => -x
  | 6 => x + y
  | 7 => x - y
  | 8 => x * y
  | 9 => nI (decide (x < y)).toNat
  | 10 => nI (decide (x = y)).toNat
  | 11 => x * y
  | 12 => nI (decide (¬ x + y ≤ 0)).toNat
  | _ => if x = nI 1 then y else z
/-- what the pops of a kept part leave -/
def fk_kp (M : fk_M) (b sp on : Nat → Nat) (f : Nat) : Nat → Nat → (Nat → Int32) → (Nat → Int32) → (Nat → Int32) × (Nat → Int32)
  | 0, _, A, B => (A, B)
  | d + 1, p, A, B => if (b (sp p) = 14 ∨ b (sp p) = 15) ∧ fk_hm M (on p) = true then fk_kp M b sp on f d (p + 1) (upd A (40 * f + sp p) (M 104 (40 * f + sp p))) (upd B (40 * f + sp p) (nI 1)) else fk_kp M b sp on f d (p + 1) A B
theorem fk_kp_S (M : fk_M) (b sp on : Nat → Nat) (f d p : Nat) (A B : Nat → Int32) : fk_kp M b sp on f (d + 1) p A B = if (b (sp p) = 14 ∨ b (sp p) = 15) ∧ fk_hm M (on p) = true then fk_kp M b sp on f d (p + 1) (upd A (40 * f + sp p) (M 104 (40 * f + sp p))) (upd B (40 * f + sp p) (nI 1)) else fk_kp M b sp on f d (p + 1) A B := rfl
def fk_px (S : Nat → Int32) (t a j : Nat) : Int32 := if j < a then S (t - 1 - j) else nI 0
def fk_rvl (vl kp st : Nat → Int32) (k a w : Nat) (x y z : Int32) : Int32 := if k = 0 then nI w - nI 128 else if k < 3 then nI (2 - k) else if k = 3 then vl w else if k < 14 then fk_rk k x y z else if k = 14 then kp a else if k = 15 then (if st a = 0 then x else y) else if k = 18 ∧ vl w = 0 then y else x
/-- the reference's reckoning, the parts below p still to come -/
def fk_ra (b sp sl : Nat → Nat) (f : Nat) (vl kp st : Nat → Int32) : Nat → (Nat → Int32) → (Nat → Int32) → (Nat → Int32) × (Nat → Int32)
  | 0, S, X => (S, X)
  | p + 1, S, X => fk_ra b sp sl f vl kp st p (upd S (sl p - 1) (fk_rvl vl kp st (b (sp p)) (40 * f + sp p) (b (sp p + 1)) (fk_px S (sl (p + 1)) (fk_ar (b (sp p))) 0) (fk_px S (sl (p + 1)) (fk_ar (b (sp p))) 1) (fk_px S (sl (p + 1)) (fk_ar (b (sp p))) 2))) (if b (sp p) = 14 then upd X (40 * f + sp p) (fk_px S (sl (p + 1)) (fk_ar (b (sp p))) 0) else X)
theorem fk_ra_S (b sp sl : Nat → Nat) (f : Nat) (vl kp st : Nat → Int32) (p : Nat) (S X : Nat → Int32) : fk_ra b sp sl f vl kp st (p + 1) S X = fk_ra b sp sl f vl kp st p (upd S (sl p - 1) (fk_rvl vl kp st (b (sp p)) (40 * f + sp p) (b (sp p + 1)) (fk_px S (sl (p + 1)) (fk_ar (b (sp p))) 0) (fk_px S (sl (p + 1)) (fk_ar (b (sp p))) 1) (fk_px S (sl (p + 1)) (fk_ar (b (sp p))) 2))) (if b (sp p) = 14 then upd X (40 * f + sp p) (fk_px S (sl (p + 1)) (fk_ar (b (sp p))) 0) else X) := rfl
theorem d_M_reckon_0 : decode b_M_reckon 0 = .ok (.iload_n 0, 1) := by decide +kernel
theorem d_M_reckon_1 : decode b_M_reckon 1 = .ok (.tableswitch 108 4 12 #[51, 55, 58, 62, 66, 70, 81, 92, 96], 51) := by decide +kernel
theorem d_M_reckon_52 : decode b_M_reckon 52 = .ok (.iconst 1, 1) := by decide +kernel
theorem d_M_reckon_53 : decode b_M_reckon 53 = .ok (.iload_n 1, 1) := by decide +kernel
theorem d_M_reckon_54 : decode b_M_reckon 54 = .ok (.isub, 1) := by decide +kernel
theorem d_M_reckon_55 : decode b_M_reckon 55 = .ok (.ireturn, 1) := by decide +kernel
theorem d_M_reckon_56 : decode b_M_reckon 56 = .ok (.iload_n 1, 1) := by decide +kernel
theorem d_M_reckon_57 : decode b_M_reckon 57 = .ok (.ineg, 1) := by decide +kernel
theorem d_M_reckon_58 : decode b_M_reckon 58 = .ok (.ireturn, 1) := by decide +kernel
theorem d_M_reckon_59 : decode b_M_reckon 59 = .ok (.iload_n 1, 1) := by decide +kernel
theorem d_M_reckon_60 : decode b_M_reckon 60 = .ok (.iload_n 2, 1) := by decide +kernel
theorem d_M_reckon_61 : decode b_M_reckon 61 = .ok (.iadd, 1) := by decide +kernel
theorem d_M_reckon_62 : decode b_M_reckon 62 = .ok (.ireturn, 1) := by decide +kernel
theorem d_M_reckon_63 : decode b_M_reckon 63 = .ok (.iload_n 1, 1) := by decide +kernel
theorem d_M_reckon_64 : decode b_M_reckon 64 = .ok (.iload_n 2, 1) := by decide +kernel
theorem d_M_reckon_65 : decode b_M_reckon 65 = .ok (.isub, 1) := by decide +kernel
theorem d_M_reckon_66 : decode b_M_reckon 66 = .ok (.ireturn, 1) := by decide +kernel
theorem d_M_reckon_67 : decode b_M_reckon 67 = .ok (.iload_n 1, 1) := by decide +kernel
theorem d_M_reckon_68 : decode b_M_reckon 68 = .ok (.iload_n 2, 1) := by decide +kernel
theorem d_M_reckon_69 : decode b_M_reckon 69 = .ok (.imul, 1) := by decide +kernel
theorem d_M_reckon_70 : decode b_M_reckon 70 = .ok (.ireturn, 1) := by decide +kernel
theorem d_M_reckon_71 : decode b_M_reckon 71 = .ok (.iload_n 1, 1) := by decide +kernel
theorem d_M_reckon_72 : decode b_M_reckon 72 = .ok (.iload_n 2, 1) := by decide +kernel
theorem d_M_reckon_73 : decode b_M_reckon 73 = .ok (.if_icmp .ge 7, 3) := by decide +kernel
theorem d_M_reckon_76 : decode b_M_reckon 76 = .ok (.iconst 1, 1) := by decide +kernel
theorem d_M_reckon_77 : decode b_M_reckon 77 = .ok (.goto 4, 3) := by decide +kernel
theorem d_M_reckon_80 : decode b_M_reckon 80 = .ok (.iconst 0, 1) := by decide +kernel
theorem d_M_reckon_81 : decode b_M_reckon 81 = .ok (.ireturn, 1) := by decide +kernel
theorem d_M_reckon_82 : decode b_M_reckon 82 = .ok (.iload_n 1, 1) := by decide +kernel
theorem d_M_reckon_83 : decode b_M_reckon 83 = .ok (.iload_n 2, 1) := by decide +kernel
theorem d_M_reckon_84 : decode b_M_reckon 84 = .ok (.if_icmp .ne 7, 3) := by decide +kernel
theorem d_M_reckon_87 : decode b_M_reckon 87 = .ok (.iconst 1, 1) := by decide +kernel
theorem d_M_reckon_88 : decode b_M_reckon 88 = .ok (.goto 4, 3) := by decide +kernel
theorem d_M_reckon_91 : decode b_M_reckon 91 = .ok (.iconst 0, 1) := by decide +kernel
theorem d_M_reckon_92 : decode b_M_reckon 92 = .ok (.ireturn, 1) := by decide +kernel
theorem d_M_reckon_93 : decode b_M_reckon 93 = .ok (.iload_n 1, 1) := by decide +kernel
theorem d_M_reckon_94 : decode b_M_reckon 94 = .ok (.iload_n 2, 1) := by decide +kernel
theorem d_M_reckon_95 : decode b_M_reckon 95 = .ok (.imul, 1) := by decide +kernel
theorem d_M_reckon_96 : decode b_M_reckon 96 = .ok (.ireturn, 1) := by decide +kernel
theorem d_M_reckon_97 : decode b_M_reckon 97 = .ok (.iload_n 1, 1) := by decide +kernel
theorem d_M_reckon_98 : decode b_M_reckon 98 = .ok (.iload_n 2, 1) := by decide +kernel
theorem d_M_reckon_99 : decode b_M_reckon 99 = .ok (.iadd, 1) := by decide +kernel
theorem d_M_reckon_100 : decode b_M_reckon 100 = .ok (.ifCond .le 7, 3) := by decide +kernel
theorem d_M_reckon_103 : decode b_M_reckon 103 = .ok (.iconst 1, 1) := by decide +kernel
theorem d_M_reckon_104 : decode b_M_reckon 104 = .ok (.goto 4, 3) := by decide +kernel
theorem d_M_reckon_107 : decode b_M_reckon 107 = .ok (.iconst 0, 1) := by decide +kernel
theorem d_M_reckon_108 : decode b_M_reckon 108 = .ok (.ireturn, 1) := by decide +kernel
theorem d_M_reckon_109 : decode b_M_reckon 109 = .ok (.iload_n 1, 1) := by decide +kernel
theorem d_M_reckon_110 : decode b_M_reckon 110 = .ok (.iconst 1, 1) := by decide +kernel
theorem d_M_reckon_111 : decode b_M_reckon 111 = .ok (.if_icmp .ne 7, 3) := by decide +kernel
theorem d_M_reckon_114 : decode b_M_reckon 114 = .ok (.iload_n 2, 1) := by decide +kernel
theorem d_M_reckon_115 : decode b_M_reckon 115 = .ok (.goto 4, 3) := by decide +kernel
theorem d_M_reckon_118 : decode b_M_reckon 118 = .ok (.iload_n 3, 1) := by decide +kernel
theorem d_M_reckon_119 : decode b_M_reckon 119 = .ok (.ireturn, 1) := by decide +kernel
theorem m_M_reckon : fk_MS y_M_reckon b_M_reckon 4 (some .int) 4 := ⟨i_833, i_832, i_8, by decide +kernel⟩
set_option maxHeartbeats 4000000 in
set_option maxRecDepth 100000 in
theorem c_M_reckon (l : Launch) (g : fk_G) (ov : Int64) (M : fk_M) (k : Nat) (h4 : 4 ≤ k) (hk : k ≤ 13) (va vb vc : Int32) : fk_CI l y_M_reckon b_M_reckon 4 (some .int) (fk_rm 0) g ov M M [.int (nI k), .int va, .int vb, .int vc] (fk_rk k va vb vc) := by
  refine fk_ofI rfl (Nat.le_of_ble_eq_true rfl) ?_
  intro p e s m args below meth c ls S hr hlk E G hl
  have hl : lv_has ls 4 [(0, .int (nI k)), (1, .int va), (2, .int vb), (3, .int vc)] := hl
  rcases (show k = 4 ∨ k = 5 ∨ k = 6 ∨ k = 7 ∨ k = 8 ∨ k = 9 ∨ k = 10 ∨ k = 11 ∨ k = 12 ∨ k = 13 by omega) with rfl | rfl | rfl | rfl | rfl | rfl | rfl | rfl | rfl | rfl
  · refine lv_iload_n S.1 S.2.1 d_M_reckon_0 rfl (lv_at hl 0 rfl) ?_
    refine lv_tableIn (off := 51) (tgt := 52) S.1 S.2.1 d_M_reckon_1 (by decide +kernel) (by decide +kernel) (by decide +kernel) rfl ?_
    refine lv_iconst (v := nI 1) S.1 S.2.1 d_M_reckon_52 (by decide +kernel) ?_
    refine lv_iload_n S.1 S.2.1 d_M_reckon_53 rfl (lv_at hl 1 rfl) ?_
    refine lv_isub S.1 S.2.1 d_M_reckon_54 ?_
    exact fk_iret S hr hlk E G rfl rfl d_M_reckon_55
  · refine lv_iload_n S.1 S.2.1 d_M_reckon_0 rfl (lv_at hl 0 rfl) ?_
    refine lv_tableIn (off := 55) (tgt := 56) S.1 S.2.1 d_M_reckon_1 (by decide +kernel) (by decide +kernel) (by decide +kernel) rfl ?_
    refine lv_iload_n S.1 S.2.1 d_M_reckon_56 rfl (lv_at hl 1 rfl) ?_
    refine lv_ineg S.1 S.2.1 d_M_reckon_57 ?_
    exact fk_iret S hr hlk E G rfl rfl d_M_reckon_58
  · refine lv_iload_n S.1 S.2.1 d_M_reckon_0 rfl (lv_at hl 0 rfl) ?_
    refine lv_tableIn (off := 58) (tgt := 59) S.1 S.2.1 d_M_reckon_1 (by decide +kernel) (by decide +kernel) (by decide +kernel) rfl ?_
    refine lv_iload_n S.1 S.2.1 d_M_reckon_59 rfl (lv_at hl 1 rfl) ?_
    refine lv_iload_n S.1 S.2.1 d_M_reckon_60 rfl (lv_at hl 2 rfl) ?_
    refine lv_iadd S.1 S.2.1 d_M_reckon_61 ?_
    exact fk_iret S hr hlk E G rfl rfl d_M_reckon_62
  · refine lv_iload_n S.1 S.2.1 d_M_reckon_0 rfl (lv_at hl 0 rfl) ?_
    refine lv_tableIn (off := 62) (tgt := 63) S.1 S.2.1 d_M_reckon_1 (by decide +kernel) (by decide +kernel) (by decide +kernel) rfl ?_
    refine lv_iload_n S.1 S.2.1 d_M_reckon_63 rfl (lv_at hl 1 rfl) ?_
    refine lv_iload_n S.1 S.2.1 d_M_reckon_64 rfl (lv_at hl 2 rfl) ?_
    refine lv_isub S.1 S.2.1 d_M_reckon_65 ?_
    exact fk_iret S hr hlk E G rfl rfl d_M_reckon_66
  · refine lv_iload_n S.1 S.2.1 d_M_reckon_0 rfl (lv_at hl 0 rfl) ?_
    refine lv_tableIn (off := 66) (tgt := 67) S.1 S.2.1 d_M_reckon_1 (by decide +kernel) (by decide +kernel) (by decide +kernel) rfl ?_
    refine lv_iload_n S.1 S.2.1 d_M_reckon_67 rfl (lv_at hl 1 rfl) ?_
    refine lv_iload_n S.1 S.2.1 d_M_reckon_68 rfl (lv_at hl 2 rfl) ?_
    refine lv_imul S.1 S.2.1 d_M_reckon_69 ?_
    exact fk_iret S hr hlk E G rfl rfl d_M_reckon_70
  · refine lv_iload_n S.1 S.2.1 d_M_reckon_0 rfl (lv_at hl 0 rfl) ?_
    refine lv_tableIn (off := 70) (tgt := 71) S.1 S.2.1 d_M_reckon_1 (by decide +kernel) (by decide +kernel) (by decide +kernel) rfl ?_
    refine lv_iload_n S.1 S.2.1 d_M_reckon_71 rfl (lv_at hl 1 rfl) ?_
    refine lv_iload_n S.1 S.2.1 d_M_reckon_72 rfl (lv_at hl 2 rfl) ?_
    refine lv_icmp_ge (tgt := 80) S.1 S.2.1 d_M_reckon_73 rfl (fun hc1 => ?_) (fun hc1 => ?_)
    · refine lv_iconst (v := nI 0) S.1 S.2.1 d_M_reckon_80 (by decide +kernel) ?_
      exact fk_iret S hr hlk E G rfl (fk_b0 (decide_eq_false (Int32.not_lt.mpr hc1))) d_M_reckon_81
    · refine lv_iconst (v := nI 1) S.1 S.2.1 d_M_reckon_76 (by decide +kernel) ?_
      refine lv_goto (tgt := 81) S.1 S.2.1 d_M_reckon_77 rfl ?_
      exact fk_iret S hr hlk E G rfl (fk_b1 (decide_eq_true (Int32.not_le.mp hc1))) d_M_reckon_81
  · refine lv_iload_n S.1 S.2.1 d_M_reckon_0 rfl (lv_at hl 0 rfl) ?_
    refine lv_tableIn (off := 81) (tgt := 82) S.1 S.2.1 d_M_reckon_1 (by decide +kernel) (by decide +kernel) (by decide +kernel) rfl ?_
    refine lv_iload_n S.1 S.2.1 d_M_reckon_82 rfl (lv_at hl 1 rfl) ?_
    refine lv_iload_n S.1 S.2.1 d_M_reckon_83 rfl (lv_at hl 2 rfl) ?_
    refine lv_icmp_ne (tgt := 91) S.1 S.2.1 d_M_reckon_84 rfl (fun hc2 => ?_) (fun hc2 => ?_)
    · refine lv_iconst (v := nI 0) S.1 S.2.1 d_M_reckon_91 (by decide +kernel) ?_
      exact fk_iret S hr hlk E G rfl (fk_b0 (decide_eq_false hc2)) d_M_reckon_92
    · refine lv_iconst (v := nI 1) S.1 S.2.1 d_M_reckon_87 (by decide +kernel) ?_
      refine lv_goto (tgt := 92) S.1 S.2.1 d_M_reckon_88 rfl ?_
      exact fk_iret S hr hlk E G rfl (fk_b1 (decide_eq_true hc2)) d_M_reckon_92
  · refine lv_iload_n S.1 S.2.1 d_M_reckon_0 rfl (lv_at hl 0 rfl) ?_
    refine lv_tableIn (off := 92) (tgt := 93) S.1 S.2.1 d_M_reckon_1 (by decide +kernel) (by decide +kernel) (by decide +kernel) rfl ?_
    refine lv_iload_n S.1 S.2.1 d_M_reckon_93 rfl (lv_at hl 1 rfl) ?_
    refine lv_iload_n S.1 S.2.1 d_M_reckon_94 rfl (lv_at hl 2 rfl) ?_
    refine lv_imul S.1 S.2.1 d_M_reckon_95 ?_
    exact fk_iret S hr hlk E G rfl rfl d_M_reckon_96
  · refine lv_iload_n S.1 S.2.1 d_M_reckon_0 rfl (lv_at hl 0 rfl) ?_
    refine lv_tableIn (off := 96) (tgt := 97) S.1 S.2.1 d_M_reckon_1 (by decide +kernel) (by decide +kernel) (by decide +kernel) rfl ?_
    refine lv_iload_n S.1 S.2.1 d_M_reckon_97 rfl (lv_at hl 1 rfl) ?_
    refine lv_iload_n S.1 S.2.1 d_M_reckon_98 rfl (lv_at hl 2 rfl) ?_
    refine lv_iadd S.1 S.2.1 d_M_reckon_99 ?_
    refine lv_if_le (tgt := 107) S.1 S.2.1 d_M_reckon_100 rfl (fun hc3 => ?_) (fun hc3 => ?_)
    · refine lv_iconst (v := nI 0) S.1 S.2.1 d_M_reckon_107 (by decide +kernel) ?_
      exact fk_iret S hr hlk E G rfl (fk_b0 (decide_eq_false (fun q => q hc3))) d_M_reckon_108
    · refine lv_iconst (v := nI 1) S.1 S.2.1 d_M_reckon_103 (by decide +kernel) ?_
      refine lv_goto (tgt := 108) S.1 S.2.1 d_M_reckon_104 rfl ?_
      exact fk_iret S hr hlk E G rfl (fk_b1 (decide_eq_true hc3)) d_M_reckon_108
  · refine lv_iload_n S.1 S.2.1 d_M_reckon_0 rfl (lv_at hl 0 rfl) ?_
    refine lv_tableOut (tgt := 109) S.1 S.2.1 d_M_reckon_1 (by decide +kernel) rfl ?_
    refine lv_iload_n S.1 S.2.1 d_M_reckon_109 rfl (lv_at hl 1 rfl) ?_
    refine lv_iconst (v := nI 1) S.1 S.2.1 d_M_reckon_110 (by decide +kernel) ?_
    refine lv_icmp_ne (tgt := 118) S.1 S.2.1 d_M_reckon_111 rfl (fun hc4 => ?_) (fun hc4 => ?_)
    · refine lv_iload_n S.1 S.2.1 d_M_reckon_118 rfl (lv_at hl 3 rfl) ?_
      exact fk_iret S hr hlk E G rfl (show _ = (if va = nI 1 then vb else vc) by rw [if_neg hc4]) d_M_reckon_119
    · refine lv_iload_n S.1 S.2.1 d_M_reckon_114 rfl (lv_at hl 2 rfl) ?_
      refine lv_goto (tgt := 119) S.1 S.2.1 d_M_reckon_115 rfl ?_
      exact fk_iret S hr hlk E G rfl (show _ = (if va = nI 1 then vb else vc) by rw [if_pos hc4]) d_M_reckon_119
theorem d_M_keep_0 : decode b_M_keep 0 = .ok (.iconst 0, 1) := by decide +kernel
theorem d_M_keep_1 : decode b_M_keep 1 = .ok (.istore_n 2, 1) := by decide +kernel
theorem d_M_keep_2 : decode b_M_keep 2 = .ok (.iload_n 2, 1) := by decide +kernel
theorem d_M_keep_3 : decode b_M_keep 3 = .ok (.aload_n 0, 1) := by decide +kernel
theorem d_M_keep_4 : decode b_M_keep 4 = .ok (.getfield 38, 3) := by decide +kernel
theorem d_M_keep_7 : decode b_M_keep 7 = .ok (.iload_n 1, 1) := by decide +kernel
theorem d_M_keep_8 : decode b_M_keep 8 = .ok (.iaload, 1) := by decide +kernel
theorem d_M_keep_9 : decode b_M_keep 9 = .ok (.if_icmp .ge 83, 3) := by decide +kernel
theorem d_M_keep_12 : decode b_M_keep 12 = .ok (.bipush 40, 2) := by decide +kernel
theorem d_M_keep_14 : decode b_M_keep 14 = .ok (.iload_n 1, 1) := by decide +kernel
theorem d_M_keep_15 : decode b_M_keep 15 = .ok (.imul, 1) := by decide +kernel
theorem d_M_keep_16 : decode b_M_keep 16 = .ok (.aload_n 0, 1) := by decide +kernel
theorem d_M_keep_17 : decode b_M_keep 17 = .ok (.getfield 44, 3) := by decide +kernel
theorem d_M_keep_20 : decode b_M_keep 20 = .ok (.bipush 40, 2) := by decide +kernel
theorem d_M_keep_22 : decode b_M_keep 22 = .ok (.iload_n 1, 1) := by decide +kernel
theorem d_M_keep_23 : decode b_M_keep 23 = .ok (.imul, 1) := by decide +kernel
theorem d_M_keep_24 : decode b_M_keep 24 = .ok (.iload_n 2, 1) := by decide +kernel
theorem d_M_keep_25 : decode b_M_keep 25 = .ok (.iadd, 1) := by decide +kernel
theorem d_M_keep_26 : decode b_M_keep 26 = .ok (.iaload, 1) := by decide +kernel
theorem d_M_keep_27 : decode b_M_keep 27 = .ok (.iadd, 1) := by decide +kernel
theorem d_M_keep_28 : decode b_M_keep 28 = .ok (.istore_n 3, 1) := by decide +kernel
theorem d_M_keep_29 : decode b_M_keep 29 = .ok (.aload_n 0, 1) := by decide +kernel
theorem d_M_keep_30 : decode b_M_keep 30 = .ok (.getfield 41, 3) := by decide +kernel
theorem d_M_keep_33 : decode b_M_keep 33 = .ok (.iload_n 3, 1) := by decide +kernel
theorem d_M_keep_34 : decode b_M_keep 34 = .ok (.iaload, 1) := by decide +kernel
theorem d_M_keep_35 : decode b_M_keep 35 = .ok (.bipush 14, 2) := by decide +kernel
theorem d_M_keep_37 : decode b_M_keep 37 = .ok (.if_icmp .eq 14, 3) := by decide +kernel
theorem d_M_keep_40 : decode b_M_keep 40 = .ok (.aload_n 0, 1) := by decide +kernel
theorem d_M_keep_41 : decode b_M_keep 41 = .ok (.getfield 41, 3) := by decide +kernel
theorem d_M_keep_44 : decode b_M_keep 44 = .ok (.iload_n 3, 1) := by decide +kernel
theorem d_M_keep_45 : decode b_M_keep 45 = .ok (.iaload, 1) := by decide +kernel
theorem d_M_keep_46 : decode b_M_keep 46 = .ok (.bipush 15, 2) := by decide +kernel
theorem d_M_keep_48 : decode b_M_keep 48 = .ok (.if_icmp .ne 38, 3) := by decide +kernel
theorem d_M_keep_51 : decode b_M_keep 51 = .ok (.aload_n 0, 1) := by decide +kernel
theorem d_M_keep_52 : decode b_M_keep 52 = .ok (.aload_n 0, 1) := by decide +kernel
theorem d_M_keep_53 : decode b_M_keep 53 = .ok (.getfield 47, 3) := by decide +kernel
theorem d_M_keep_56 : decode b_M_keep 56 = .ok (.iload_n 3, 1) := by decide +kernel
theorem d_M_keep_57 : decode b_M_keep 57 = .ok (.iaload, 1) := by decide +kernel
theorem d_M_keep_58 : decode b_M_keep 58 = .ok (.invokevirtual 170, 3) := by decide +kernel
theorem d_M_keep_61 : decode b_M_keep 61 = .ok (.ifCond .ne 6, 3) := by decide +kernel
theorem d_M_keep_64 : decode b_M_keep 64 = .ok (.goto 22, 3) := by decide +kernel
theorem d_M_keep_67 : decode b_M_keep 67 = .ok (.aload_n 0, 1) := by decide +kernel
theorem d_M_keep_68 : decode b_M_keep 68 = .ok (.getfield 50, 3) := by decide +kernel
theorem d_M_keep_71 : decode b_M_keep 71 = .ok (.iload_n 3, 1) := by decide +kernel
theorem d_M_keep_72 : decode b_M_keep 72 = .ok (.aload_n 0, 1) := by decide +kernel
theorem d_M_keep_73 : decode b_M_keep 73 = .ok (.getfield 53, 3) := by decide +kernel
theorem d_M_keep_76 : decode b_M_keep 76 = .ok (.iload_n 3, 1) := by decide +kernel
theorem d_M_keep_77 : decode b_M_keep 77 = .ok (.iaload, 1) := by decide +kernel
theorem d_M_keep_78 : decode b_M_keep 78 = .ok (.iastore, 1) := by decide +kernel
theorem d_M_keep_79 : decode b_M_keep 79 = .ok (.aload_n 0, 1) := by decide +kernel
theorem d_M_keep_80 : decode b_M_keep 80 = .ok (.getfield 56, 3) := by decide +kernel
theorem d_M_keep_83 : decode b_M_keep 83 = .ok (.iload_n 3, 1) := by decide +kernel
theorem d_M_keep_84 : decode b_M_keep 84 = .ok (.iconst 1, 1) := by decide +kernel
theorem d_M_keep_85 : decode b_M_keep 85 = .ok (.bastore, 1) := by decide +kernel
theorem d_M_keep_86 : decode b_M_keep 86 = .ok (.iinc 2 1, 3) := by decide +kernel
theorem d_M_keep_89 : decode b_M_keep 89 = .ok (.goto (-87), 3) := by decide +kernel
theorem d_M_keep_92 : decode b_M_keep 92 = .ok (.return_, 1) := by decide +kernel
theorem m_M_keep : fk_MI y_M_keep b_M_keep 4 none 1 := ⟨i_837, i_836, fk_mp (q := (y_M_keep, 31)) (by decide +kernel), i_8, by decide +kernel⟩
set_option maxHeartbeats 4000000 in
set_option maxRecDepth 100000 in
theorem c_M_keep (l : Launch) (g : fk_G) (ov : Int64) (M : fk_M) (f : Nat) (hf : f < 12) (bf : Nat → Nat) (n cnt : Nat) (sp sl : Nat → Nat) (P : Nat) (hn40 : n ≤ 40) (h12 : cnt ≤ 12) (hP : P ≤ 40) (hsl0 : sl 0 = 1) (hRF : fk_RF bf n cnt sp sl P) (hpt : M 99 f = nI P) (hbg : ∀ q, q < P → M 101 (40 * f + q) = nI (sp q)) (hby : ∀ j, j < n → M 100 (40 * f + j) = nI (bf j)) (on9 : Nat → Nat) (hon : ∀ q, q < P → M 102 (40 * f + sp q) = nI (on9 q)) (hon2 : ∀ q, q < P → on9 q < 25) : fk_CV l y_M_keep b_M_keep 4 (fk_rm 1) g ov M (va_up (va_up M 103 (fk_kp M bf sp on9 f P 0 (M 103) (M 105)).1) 105 (fk_kp M bf sp on9 f P 0 (M 103) (M 105)).2) [.ref (fk_a g 89), .int (nI f)] := by
  refine fk_ofV rfl (Nat.le_of_ble_eq_true rfl) ?_
  intro p e s m args below meth c ls S hr hlk E G hl
  have hl : lv_has ls 4 [(0, .ref (fk_a g 89)), (1, .int (nI f))] := hl
  have loop : ∀ (d : Nat) (pp : Nat) (A9 B9 : Nat → Int32) (H : Heap) (locs : List Loc) (ls : Array Slot), pp + d = P → fk_kp M bf sp on9 f d pp A9 B9 = fk_kp M bf sp on9 f P 0 (M 103) (M 105) → fk_H g ov (va_up (va_up M 103 A9) 105 B9) s H locs → lv_has ls 4 [(2, .int (nI pp)), (0, .ref (fk_a g 89)), (1, .int (nI f))] → W p l e (fk_rm (1)) s m args below meth c H locs 0 0 (MQ below (va_Qv (fun (_ : Unit) => True) (fun _ t9 => fk_Wd g ov (va_up (va_up M 103 (fk_kp M bf sp on9 f P 0 (M 103) (M 105)).1) 105 (fk_kp M bf sp on9 f P 0 (M 103) (M 105)).2) t9) (fk_A g)) args s 0 0 (fk_A g)) (F0 m 2 ls []) := by
    intro d
    induction d with
    | zero =>
      intro pp A9 B9 H locs ls hv0 hv1 G hl
      obtain ⟨Mi, hMi⟩ : ∃ z : fk_M, z = va_up (va_up M 103 A9) 105 B9 := ⟨_, rfl⟩
      rw [← hMi] at G
      have eK : ∀ k, k ≠ 103 → k ≠ 105 → Mi k = M k := fun k k1 k2 => by rw [hMi, va_up_ne _ _ k2, va_up_ne _ _ k1]
      have e3 : Mi 103 = A9 := by rw [hMi, va_up_ne _ _ (by decide), va_up_self]
      have e5 : Mi 105 = B9 := by rw [hMi, va_up_self]
      refine lv_iload_n S.1 S.2.1 d_M_keep_2 rfl (lv_at hl 0 rfl) ?_
      refine lv_aload_n S.1 S.2.1 d_M_keep_3 rfl (lv_at hl 1 rfl) ?_
      refine fk_gf S E G 89 (by decide) (v := .ref (fk_a g 99)) (congrArg (fk_ce g ov 89 (Mi 89)) kd_89) rfl 11 (by decide) rfl i_633 rfl d_M_keep_4 ?_
      refine lv_iload_n S.1 S.2.1 d_M_keep_7 rfl (lv_at hl 2 rfl) ?_
      refine fk_ia S E G 99 (by decide) (congrArg (fk_ce g ov 99 (Mi 99)) kd_99) f rfl (by omega) (by decide) (v := nI P) (by rw [eK 99 (by decide) (by decide)]; exact hpt) d_M_keep_8 ?_
      refine fk_cge (tgt := 92) S.1 S.2.1 (by omega) (by omega) d_M_keep_9 rfl (fun hc1 => ?_) (fun hc1 => ?_)
      · exact fk_vret S hr hlk E G (by rw [← hv1]; exact hMi) d_M_keep_92
      · exact absurd hv0 (by omega)
    | succ d ih =>
      intro pp A9 B9 H locs ls hv0 hv1 G hl
      obtain ⟨Mi, hMi⟩ : ∃ z : fk_M, z = va_up (va_up M 103 A9) 105 B9 := ⟨_, rfl⟩
      rw [← hMi] at G
      have eK : ∀ k, k ≠ 103 → k ≠ 105 → Mi k = M k := fun k k1 k2 => by rw [hMi, va_up_ne _ _ k2, va_up_ne _ _ k1]
      have e3 : Mi 103 = A9 := by rw [hMi, va_up_ne _ _ (by decide), va_up_self]
      have e5 : Mi 105 = B9 := by rw [hMi, va_up_self]
      refine lv_iload_n S.1 S.2.1 d_M_keep_2 rfl (lv_at hl 0 rfl) ?_
      refine lv_aload_n S.1 S.2.1 d_M_keep_3 rfl (lv_at hl 1 rfl) ?_
      refine fk_gf S E G 89 (by decide) (v := .ref (fk_a g 99)) (congrArg (fk_ce g ov 89 (Mi 89)) kd_89) rfl 11 (by decide) rfl i_633 rfl d_M_keep_4 ?_
      refine lv_iload_n S.1 S.2.1 d_M_keep_7 rfl (lv_at hl 2 rfl) ?_
      refine fk_ia S E G 99 (by decide) (congrArg (fk_ce g ov 99 (Mi 99)) kd_99) f rfl (by omega) (by decide) (v := nI P) (by rw [eK 99 (by decide) (by decide)]; exact hpt) d_M_keep_8 ?_
      refine fk_cge (tgt := 92) S.1 S.2.1 (by omega) (by omega) d_M_keep_9 rfl (fun hc2 => ?_) (fun hc2 => ?_)
      · exact absurd hv0 (by omega)
      · obtain ⟨hok, hs1, hs2, hs3⟩ := hRF pp (by omega)
        have hin := hok.1
        have hk18 := hok.2.1
        have hon3 := hon2 pp (by omega)
        rw [fk_kp_S] at hv1
        refine lv_bipush (v := nI 40) S.1 S.2.1 d_M_keep_12 (by decide +kernel) ?_
        refine lv_iload_n S.1 S.2.1 d_M_keep_14 rfl (lv_at hl 2 rfl) ?_
        refine fk_imul S.1 S.2.1 d_M_keep_15 ?_
        refine lv_aload_n S.1 S.2.1 d_M_keep_16 rfl (lv_at hl 1 rfl) ?_
        refine fk_gf S E G 89 (by decide) (v := .ref (fk_a g 101)) (congrArg (fk_ce g ov 89 (Mi 89)) kd_89) rfl 13 (by decide) rfl i_635 rfl d_M_keep_17 ?_
        refine lv_bipush (v := nI 40) S.1 S.2.1 d_M_keep_20 (by decide +kernel) ?_
        refine lv_iload_n S.1 S.2.1 d_M_keep_22 rfl (lv_at hl 2 rfl) ?_
        refine fk_imul S.1 S.2.1 d_M_keep_23 ?_
        refine lv_iload_n S.1 S.2.1 d_M_keep_24 rfl (lv_at hl 0 rfl) ?_
        refine fk_iadd S.1 S.2.1 d_M_keep_25 ?_
        refine fk_ia S E G 101 (by decide) (congrArg (fk_ce g ov 101 (Mi 101)) kd_101) ((40 * f) + pp) rfl (by omega) (by decide) (v := nI (sp pp)) (by rw [eK 101 (by decide) (by decide), hbg pp (by omega)]) d_M_keep_26 ?_
        refine fk_iadd S.1 S.2.1 d_M_keep_27 ?_
        refine lv_istore_n (lv' := [(3, .int (nI ((40 * f) + (sp pp)))), (2, .int (nI pp)), (0, .ref (fk_a g 89)), (1, .int (nI f))]) S.1 S.2.1 d_M_keep_28 rfl hl (by decide) rfl (fun ls hl => ?_)
        refine lv_aload_n S.1 S.2.1 d_M_keep_29 rfl (lv_at hl 2 rfl) ?_
        refine fk_gf S E G 89 (by decide) (v := .ref (fk_a g 100)) (congrArg (fk_ce g ov 89 (Mi 89)) kd_89) rfl 12 (by decide) rfl i_634 rfl d_M_keep_30 ?_
        refine lv_iload_n S.1 S.2.1 d_M_keep_33 rfl (lv_at hl 0 rfl) ?_
        refine fk_ia S E G 100 (by decide) (congrArg (fk_ce g ov 100 (Mi 100)) kd_100) ((40 * f) + (sp pp)) rfl (by omega) (by decide) (v := nI (bf (sp pp))) (by rw [eK 100 (by decide) (by decide)]; exact hby _ (by omega)) d_M_keep_34 ?_
        refine lv_bipush (v := nI 14) S.1 S.2.1 d_M_keep_35 (by decide +kernel) ?_
        refine fk_ceq (tgt := 51) S.1 S.2.1 (by omega) (by omega) d_M_keep_37 rfl (fun hc3 => ?_) (fun hc3 => ?_)
        · refine lv_aload_n S.1 S.2.1 d_M_keep_51 rfl (lv_at hl 2 rfl) ?_
          refine lv_aload_n S.1 S.2.1 d_M_keep_52 rfl (lv_at hl 2 rfl) ?_
          refine fk_gf S E G 89 (by decide) (v := .ref (fk_a g 102)) (congrArg (fk_ce g ov 89 (Mi 89)) kd_89) rfl 14 (by decide) rfl i_636 rfl d_M_keep_53 ?_
          refine lv_iload_n S.1 S.2.1 d_M_keep_56 rfl (lv_at hl 0 rfl) ?_
          refine fk_ia S E G 102 (by decide) (congrArg (fk_ce g ov 102 (Mi 102)) kd_102) ((40 * f) + (sp pp)) rfl (by omega) (by decide) (v := nI (on9 pp)) (by rw [eK 102 (by decide) (by decide)]; exact hon pp (by omega)) d_M_keep_57 ?_
          have hhm : fk_hm Mi (on9 pp) = fk_hm M (on9 pp) := by
            unfold fk_hm
            rw [eK 94 (by decide) (by decide), eK 96 (by decide) (by decide)]
          refine fk_cvi S E G 89 (by decide) (congrArg (fk_ce g ov 89 (Mi 89)) kd_89) rfl (rest := []) (hhm ▸ c_M_has l g ov Mi (on9 pp) hon3) m_M_has i_823 ⟨rfl, rfl⟩ ⟨by decide, by decide⟩ rfl rfl hl.1 (Nat.le_of_ble_eq_true rfl) d_M_keep_58 ⟨Nat.zero_le _, Nat.zero_le _⟩ (fun H locs G => ?_)
          refine fk_zne (tgt := 67) S.1 S.2.1 (fk_bl _) d_M_keep_61 rfl (fun hc4 => ?_) (fun hc4 => ?_)
          · have hq := fk_bt hc4
            refine lv_aload_n S.1 S.2.1 d_M_keep_67 rfl (lv_at hl 2 rfl) ?_
            refine fk_gf S E G 89 (by decide) (v := .ref (fk_a g 103)) (congrArg (fk_ce g ov 89 (Mi 89)) kd_89) rfl 15 (by decide) rfl i_637 rfl d_M_keep_68 ?_
            refine lv_iload_n S.1 S.2.1 d_M_keep_71 rfl (lv_at hl 0 rfl) ?_
            refine lv_aload_n S.1 S.2.1 d_M_keep_72 rfl (lv_at hl 2 rfl) ?_
            refine fk_gf S E G 89 (by decide) (v := .ref (fk_a g 104)) (congrArg (fk_ce g ov 89 (Mi 89)) kd_89) rfl 16 (by decide) rfl i_638 rfl d_M_keep_73 ?_
            refine lv_iload_n S.1 S.2.1 d_M_keep_76 rfl (lv_at hl 0 rfl) ?_
            refine fk_ia S E G 104 (by decide) (congrArg (fk_ce g ov 104 (Mi 104)) kd_104) ((40 * f) + (sp pp)) rfl (by omega) (by decide) (v := M 104 (40 * f + sp pp)) (by rw [eK 104 (by decide) (by decide)]) d_M_keep_77 ?_
            refine fk_is S E G 103 (by decide) (fun r => congrArg (fk_ce g ov 103 r) kd_103) ((40 * f) + (sp pp)) rfl (by omega) (by decide) d_M_keep_78 (fun H locs G => ?_)
            obtain ⟨M5, hM5⟩ : ∃ z : fk_M, z = va_up Mi 103 (upd (Mi 103) ((40 * f) + (sp pp)) (M 104 (40 * f + sp pp))) := ⟨_, rfl⟩
            rw [← hM5] at G
            refine lv_aload_n S.1 S.2.1 d_M_keep_79 rfl (lv_at hl 2 rfl) ?_
            refine fk_gf S E G 89 (by decide) (v := .ref (fk_a g 105)) (congrArg (fk_ce g ov 89 (M5 89)) kd_89) rfl 17 (by decide) rfl i_639 rfl d_M_keep_80 ?_
            refine lv_iload_n S.1 S.2.1 d_M_keep_83 rfl (lv_at hl 0 rfl) ?_
            refine lv_iconst (v := nI 1) S.1 S.2.1 d_M_keep_84 (by decide +kernel) ?_
            refine fk_zs S E G 105 (by decide) (fun r => congrArg (fk_ce g ov 105 r) kd_105) ((40 * f) + (sp pp)) rfl (by omega) (by decide) (Or.inr (by decide +kernel)) d_M_keep_85 (fun H locs G => ?_)
            obtain ⟨M6, hM6⟩ : ∃ z : fk_M, z = va_up M5 105 (upd (M5 105) ((40 * f) + (sp pp)) (nI 1)) := ⟨_, rfl⟩
            rw [← hM6] at G
            refine lv_iinc (k := 1) (v := nI (pp + 1)) (lv' := [(2, .int (nI (pp + 1))), (3, .int (nI ((40 * f) + (sp pp)))), (0, .ref (fk_a g 89)), (1, .int (nI f))]) S.1 S.2.1 d_M_keep_86 hl rfl (nI_1 pp) (by decide) rfl (fun ls hl => ?_)
            refine lv_goto (tgt := 2) S.1 S.2.1 d_M_keep_89 rfl ?_
            rw [if_pos ⟨Or.inl hc3, hq⟩] at hv1
            rw [hM6, hM5, va_up_ne _ _ (show (105 : Nat) ≠ 103 by decide), e3, e5, hMi] at G
            rw [fk_sw _ (show (105 : Nat) ≠ 103 by decide), bx_uu, bx_uu] at G
            exact ih (pp + 1) _ _ H locs ls (by omega) hv1 G (lv_sub hl [0, 2, 3] rfl)
          · have hq := fk_bf hc4
            refine lv_goto (tgt := 86) S.1 S.2.1 d_M_keep_64 rfl ?_
            refine lv_iinc (k := 1) (v := nI (pp + 1)) (lv' := [(2, .int (nI (pp + 1))), (3, .int (nI ((40 * f) + (sp pp)))), (0, .ref (fk_a g 89)), (1, .int (nI f))]) S.1 S.2.1 d_M_keep_86 hl rfl (nI_1 pp) (by decide) rfl (fun ls hl => ?_)
            refine lv_goto (tgt := 2) S.1 S.2.1 d_M_keep_89 rfl ?_
            rw [if_neg (fun q => by rw [hq] at q; exact absurd q.2 (by decide))] at hv1
            rw [hMi] at G
            exact ih (pp + 1) A9 B9 H locs ls (by omega) hv1 G (lv_sub hl [0, 2, 3] rfl)
        · refine lv_aload_n S.1 S.2.1 d_M_keep_40 rfl (lv_at hl 2 rfl) ?_
          refine fk_gf S E G 89 (by decide) (v := .ref (fk_a g 100)) (congrArg (fk_ce g ov 89 (Mi 89)) kd_89) rfl 12 (by decide) rfl i_634 rfl d_M_keep_41 ?_
          refine lv_iload_n S.1 S.2.1 d_M_keep_44 rfl (lv_at hl 0 rfl) ?_
          refine fk_ia S E G 100 (by decide) (congrArg (fk_ce g ov 100 (Mi 100)) kd_100) ((40 * f) + (sp pp)) rfl (by omega) (by decide) (v := nI (bf (sp pp))) (by rw [eK 100 (by decide) (by decide)]; exact hby _ (by omega)) d_M_keep_45 ?_
          refine lv_bipush (v := nI 15) S.1 S.2.1 d_M_keep_46 (by decide +kernel) ?_
          refine fk_cne (tgt := 86) S.1 S.2.1 (by omega) (by omega) d_M_keep_48 rfl (fun hc7 => ?_) (fun hc7 => ?_)
          · refine lv_iinc (k := 1) (v := nI (pp + 1)) (lv' := [(2, .int (nI (pp + 1))), (3, .int (nI ((40 * f) + (sp pp)))), (0, .ref (fk_a g 89)), (1, .int (nI f))]) S.1 S.2.1 d_M_keep_86 hl rfl (nI_1 pp) (by decide) rfl (fun ls hl => ?_)
            refine lv_goto (tgt := 2) S.1 S.2.1 d_M_keep_89 rfl ?_
            rw [if_neg (fun q => q.1.elim hc3 hc7)] at hv1
            rw [hMi] at G
            exact ih (pp + 1) A9 B9 H locs ls (by omega) hv1 G (lv_sub hl [0, 2, 3] rfl)
          · refine lv_aload_n S.1 S.2.1 d_M_keep_51 rfl (lv_at hl 2 rfl) ?_
            refine lv_aload_n S.1 S.2.1 d_M_keep_52 rfl (lv_at hl 2 rfl) ?_
            refine fk_gf S E G 89 (by decide) (v := .ref (fk_a g 102)) (congrArg (fk_ce g ov 89 (Mi 89)) kd_89) rfl 14 (by decide) rfl i_636 rfl d_M_keep_53 ?_
            refine lv_iload_n S.1 S.2.1 d_M_keep_56 rfl (lv_at hl 0 rfl) ?_
            refine fk_ia S E G 102 (by decide) (congrArg (fk_ce g ov 102 (Mi 102)) kd_102) ((40 * f) + (sp pp)) rfl (by omega) (by decide) (v := nI (on9 pp)) (by rw [eK 102 (by decide) (by decide)]; exact hon pp (by omega)) d_M_keep_57 ?_
            have hhm : fk_hm Mi (on9 pp) = fk_hm M (on9 pp) := by
              unfold fk_hm
              rw [eK 94 (by decide) (by decide), eK 96 (by decide) (by decide)]
            refine fk_cvi S E G 89 (by decide) (congrArg (fk_ce g ov 89 (Mi 89)) kd_89) rfl (rest := []) (hhm ▸ c_M_has l g ov Mi (on9 pp) hon3) m_M_has i_823 ⟨rfl, rfl⟩ ⟨by decide, by decide⟩ rfl rfl hl.1 (Nat.le_of_ble_eq_true rfl) d_M_keep_58 ⟨Nat.zero_le _, Nat.zero_le _⟩ (fun H locs G => ?_)
            refine fk_zne (tgt := 67) S.1 S.2.1 (fk_bl _) d_M_keep_61 rfl (fun hc8 => ?_) (fun hc8 => ?_)
            · have hq := fk_bt hc8
              refine lv_aload_n S.1 S.2.1 d_M_keep_67 rfl (lv_at hl 2 rfl) ?_
              refine fk_gf S E G 89 (by decide) (v := .ref (fk_a g 103)) (congrArg (fk_ce g ov 89 (Mi 89)) kd_89) rfl 15 (by decide) rfl i_637 rfl d_M_keep_68 ?_
              refine lv_iload_n S.1 S.2.1 d_M_keep_71 rfl (lv_at hl 0 rfl) ?_
              refine lv_aload_n S.1 S.2.1 d_M_keep_72 rfl (lv_at hl 2 rfl) ?_
              refine fk_gf S E G 89 (by decide) (v := .ref (fk_a g 104)) (congrArg (fk_ce g ov 89 (Mi 89)) kd_89) rfl 16 (by decide) rfl i_638 rfl d_M_keep_73 ?_
              refine lv_iload_n S.1 S.2.1 d_M_keep_76 rfl (lv_at hl 0 rfl) ?_
              refine fk_ia S E G 104 (by decide) (congrArg (fk_ce g ov 104 (Mi 104)) kd_104) ((40 * f) + (sp pp)) rfl (by omega) (by decide) (v := M 104 (40 * f + sp pp)) (by rw [eK 104 (by decide) (by decide)]) d_M_keep_77 ?_
              refine fk_is S E G 103 (by decide) (fun r => congrArg (fk_ce g ov 103 r) kd_103) ((40 * f) + (sp pp)) rfl (by omega) (by decide) d_M_keep_78 (fun H locs G => ?_)
              obtain ⟨M9, hM9⟩ : ∃ z : fk_M, z = va_up Mi 103 (upd (Mi 103) ((40 * f) + (sp pp)) (M 104 (40 * f + sp pp))) := ⟨_, rfl⟩
              rw [← hM9] at G
              refine lv_aload_n S.1 S.2.1 d_M_keep_79 rfl (lv_at hl 2 rfl) ?_
              refine fk_gf S E G 89 (by decide) (v := .ref (fk_a g 105)) (congrArg (fk_ce g ov 89 (M9 89)) kd_89) rfl 17 (by decide) rfl i_639 rfl d_M_keep_80 ?_
              refine lv_iload_n S.1 S.2.1 d_M_keep_83 rfl (lv_at hl 0 rfl) ?_
              refine lv_iconst (v := nI 1) S.1 S.2.1 d_M_keep_84 (by decide +kernel) ?_
              refine fk_zs S E G 105 (by decide) (fun r => congrArg (fk_ce g ov 105 r) kd_105) ((40 * f) + (sp pp)) rfl (by omega) (by decide) (Or.inr (by decide +kernel)) d_M_keep_85 (fun H locs G => ?_)
              obtain ⟨M10, hM10⟩ : ∃ z : fk_M, z = va_up M9 105 (upd (M9 105) ((40 * f) + (sp pp)) (nI 1)) := ⟨_, rfl⟩
              rw [← hM10] at G
              refine lv_iinc (k := 1) (v := nI (pp + 1)) (lv' := [(2, .int (nI (pp + 1))), (3, .int (nI ((40 * f) + (sp pp)))), (0, .ref (fk_a g 89)), (1, .int (nI f))]) S.1 S.2.1 d_M_keep_86 hl rfl (nI_1 pp) (by decide) rfl (fun ls hl => ?_)
              refine lv_goto (tgt := 2) S.1 S.2.1 d_M_keep_89 rfl ?_
              rw [if_pos ⟨Or.inr hc7, hq⟩] at hv1
              rw [hM10, hM9, va_up_ne _ _ (show (105 : Nat) ≠ 103 by decide), e3, e5, hMi] at G
              rw [fk_sw _ (show (105 : Nat) ≠ 103 by decide), bx_uu, bx_uu] at G
              exact ih (pp + 1) _ _ H locs ls (by omega) hv1 G (lv_sub hl [0, 2, 3] rfl)
            · have hq := fk_bf hc8
              refine lv_goto (tgt := 86) S.1 S.2.1 d_M_keep_64 rfl ?_
              refine lv_iinc (k := 1) (v := nI (pp + 1)) (lv' := [(2, .int (nI (pp + 1))), (3, .int (nI ((40 * f) + (sp pp)))), (0, .ref (fk_a g 89)), (1, .int (nI f))]) S.1 S.2.1 d_M_keep_86 hl rfl (nI_1 pp) (by decide) rfl (fun ls hl => ?_)
              refine lv_goto (tgt := 2) S.1 S.2.1 d_M_keep_89 rfl ?_
              rw [if_neg (fun q => by rw [hq] at q; exact absurd q.2 (by decide))] at hv1
              rw [hMi] at G
              exact ih (pp + 1) A9 B9 H locs ls (by omega) hv1 G (lv_sub hl [0, 2, 3] rfl)
  refine lv_iconst (v := nI 0) S.1 S.2.1 d_M_keep_0 (by decide +kernel) ?_
  refine lv_istore_n (lv' := [(2, .int (nI 0)), (0, .ref (fk_a g 89)), (1, .int (nI f))]) S.1 S.2.1 d_M_keep_1 rfl hl (by decide) rfl (fun ls hl => ?_)
  exact loop P 0 (M 103) (M 105) s.heap [] ls (by omega) rfl (by rw [fk_upid, fk_upid]; exact G) hl
theorem d_M_reckonAll_0 : decode b_M_reckonAll 0 = .ok (.aload_n 0, 1) := by decide +kernel
theorem d_M_reckonAll_1 : decode b_M_reckonAll 1 = .ok (.iconst 0, 1) := by decide +kernel
theorem d_M_reckonAll_2 : decode b_M_reckonAll 2 = .ok (.putfield 81, 3) := by decide +kernel
theorem d_M_reckonAll_5 : decode b_M_reckonAll 5 = .ok (.aload_n 0, 1) := by decide +kernel
theorem d_M_reckonAll_6 : decode b_M_reckonAll 6 = .ok (.getfield 38, 3) := by decide +kernel
theorem d_M_reckonAll_9 : decode b_M_reckonAll 9 = .ok (.iload_n 1, 1) := by decide +kernel
theorem d_M_reckonAll_10 : decode b_M_reckonAll 10 = .ok (.iaload, 1) := by decide +kernel
theorem d_M_reckonAll_11 : decode b_M_reckonAll 11 = .ok (.iconst 1, 1) := by decide +kernel
theorem d_M_reckonAll_12 : decode b_M_reckonAll 12 = .ok (.isub, 1) := by decide +kernel
theorem d_M_reckonAll_13 : decode b_M_reckonAll 13 = .ok (.istore_n 2, 1) := by decide +kernel
theorem d_M_reckonAll_14 : decode b_M_reckonAll 14 = .ok (.iload_n 2, 1) := by decide +kernel
theorem d_M_reckonAll_15 : decode b_M_reckonAll 15 = .ok (.ifCond .lt 289, 3) := by decide +kernel
theorem d_M_reckonAll_18 : decode b_M_reckonAll 18 = .ok (.bipush 40, 2) := by decide +kernel
theorem d_M_reckonAll_20 : decode b_M_reckonAll 20 = .ok (.iload_n 1, 1) := by decide +kernel
theorem d_M_reckonAll_21 : decode b_M_reckonAll 21 = .ok (.imul, 1) := by decide +kernel
theorem d_M_reckonAll_22 : decode b_M_reckonAll 22 = .ok (.aload_n 0, 1) := by decide +kernel
theorem d_M_reckonAll_23 : decode b_M_reckonAll 23 = .ok (.getfield 44, 3) := by decide +kernel
theorem d_M_reckonAll_26 : decode b_M_reckonAll 26 = .ok (.bipush 40, 2) := by decide +kernel
theorem d_M_reckonAll_28 : decode b_M_reckonAll 28 = .ok (.iload_n 1, 1) := by decide +kernel
theorem d_M_reckonAll_29 : decode b_M_reckonAll 29 = .ok (.imul, 1) := by decide +kernel
theorem d_M_reckonAll_30 : decode b_M_reckonAll 30 = .ok (.iload_n 2, 1) := by decide +kernel
theorem d_M_reckonAll_31 : decode b_M_reckonAll 31 = .ok (.iadd, 1) := by decide +kernel
theorem d_M_reckonAll_32 : decode b_M_reckonAll 32 = .ok (.iaload, 1) := by decide +kernel
theorem d_M_reckonAll_33 : decode b_M_reckonAll 33 = .ok (.iadd, 1) := by decide +kernel
theorem d_M_reckonAll_34 : decode b_M_reckonAll 34 = .ok (.istore_n 3, 1) := by decide +kernel
theorem d_M_reckonAll_35 : decode b_M_reckonAll 35 = .ok (.aload_n 0, 1) := by decide +kernel
theorem d_M_reckonAll_36 : decode b_M_reckonAll 36 = .ok (.getfield 41, 3) := by decide +kernel
theorem d_M_reckonAll_39 : decode b_M_reckonAll 39 = .ok (.iload_n 3, 1) := by decide +kernel
theorem d_M_reckonAll_40 : decode b_M_reckonAll 40 = .ok (.iaload, 1) := by decide +kernel
theorem d_M_reckonAll_41 : decode b_M_reckonAll 41 = .ok (.istore 4, 2) := by decide +kernel
theorem d_M_reckonAll_43 : decode b_M_reckonAll 43 = .ok (.iload 4, 2) := by decide +kernel
theorem d_M_reckonAll_45 : decode b_M_reckonAll 45 = .ok (.invokestatic 120, 3) := by decide +kernel
theorem d_M_reckonAll_48 : decode b_M_reckonAll 48 = .ok (.istore 5, 2) := by decide +kernel
theorem d_M_reckonAll_50 : decode b_M_reckonAll 50 = .ok (.iload 5, 2) := by decide +kernel
theorem d_M_reckonAll_52 : decode b_M_reckonAll 52 = .ok (.ifCond .le 10, 3) := by decide +kernel
theorem d_M_reckonAll_55 : decode b_M_reckonAll 55 = .ok (.aload_n 0, 1) := by decide +kernel
theorem d_M_reckonAll_56 : decode b_M_reckonAll 56 = .ok (.invokevirtual 116, 3) := by decide +kernel
theorem d_M_reckonAll_59 : decode b_M_reckonAll 59 = .ok (.goto 4, 3) := by decide +kernel
theorem d_M_reckonAll_62 : decode b_M_reckonAll 62 = .ok (.iconst 0, 1) := by decide +kernel
theorem d_M_reckonAll_63 : decode b_M_reckonAll 63 = .ok (.istore 6, 2) := by decide +kernel
theorem d_M_reckonAll_65 : decode b_M_reckonAll 65 = .ok (.iload 5, 2) := by decide +kernel
theorem d_M_reckonAll_67 : decode b_M_reckonAll 67 = .ok (.iconst 1, 1) := by decide +kernel
theorem d_M_reckonAll_68 : decode b_M_reckonAll 68 = .ok (.if_icmp .le 10, 3) := by decide +kernel
theorem d_M_reckonAll_71 : decode b_M_reckonAll 71 = .ok (.aload_n 0, 1) := by decide +kernel
theorem d_M_reckonAll_72 : decode b_M_reckonAll 72 = .ok (.invokevirtual 116, 3) := by decide +kernel
theorem d_M_reckonAll_75 : decode b_M_reckonAll 75 = .ok (.goto 4, 3) := by decide +kernel
theorem d_M_reckonAll_78 : decode b_M_reckonAll 78 = .ok (.iconst 0, 1) := by decide +kernel
theorem d_M_reckonAll_79 : decode b_M_reckonAll 79 = .ok (.istore 7, 2) := by decide +kernel
theorem d_M_reckonAll_81 : decode b_M_reckonAll 81 = .ok (.iload 5, 2) := by decide +kernel
theorem d_M_reckonAll_83 : decode b_M_reckonAll 83 = .ok (.iconst 2, 1) := by decide +kernel
theorem d_M_reckonAll_84 : decode b_M_reckonAll 84 = .ok (.if_icmp .le 10, 3) := by decide +kernel
theorem d_M_reckonAll_87 : decode b_M_reckonAll 87 = .ok (.aload_n 0, 1) := by decide +kernel
theorem d_M_reckonAll_88 : decode b_M_reckonAll 88 = .ok (.invokevirtual 116, 3) := by decide +kernel
theorem d_M_reckonAll_91 : decode b_M_reckonAll 91 = .ok (.goto 4, 3) := by decide +kernel
theorem d_M_reckonAll_94 : decode b_M_reckonAll 94 = .ok (.iconst 0, 1) := by decide +kernel
theorem d_M_reckonAll_95 : decode b_M_reckonAll 95 = .ok (.istore 8, 2) := by decide +kernel
theorem d_M_reckonAll_97 : decode b_M_reckonAll 97 = .ok (.iload 4, 2) := by decide +kernel
theorem d_M_reckonAll_99 : decode b_M_reckonAll 99 = .ok (.bipush 14, 2) := by decide +kernel
theorem d_M_reckonAll_101 : decode b_M_reckonAll 101 = .ok (.if_icmp .ne 11, 3) := by decide +kernel
theorem d_M_reckonAll_104 : decode b_M_reckonAll 104 = .ok (.aload_n 0, 1) := by decide +kernel
theorem d_M_reckonAll_105 : decode b_M_reckonAll 105 = .ok (.getfield 53, 3) := by decide +kernel
theorem d_M_reckonAll_108 : decode b_M_reckonAll 108 = .ok (.iload_n 3, 1) := by decide +kernel
theorem d_M_reckonAll_109 : decode b_M_reckonAll 109 = .ok (.iload 6, 2) := by decide +kernel
theorem d_M_reckonAll_111 : decode b_M_reckonAll 111 = .ok (.iastore, 1) := by decide +kernel
theorem d_M_reckonAll_112 : decode b_M_reckonAll 112 = .ok (.iload 4, 2) := by decide +kernel
theorem d_M_reckonAll_114 : decode b_M_reckonAll 114 = .ok (.iconst 3, 1) := by decide +kernel
theorem d_M_reckonAll_115 : decode b_M_reckonAll 115 = .ok (.if_icmp .eq 10, 3) := by decide +kernel
theorem d_M_reckonAll_118 : decode b_M_reckonAll 118 = .ok (.iload 4, 2) := by decide +kernel
theorem d_M_reckonAll_120 : decode b_M_reckonAll 120 = .ok (.bipush 15, 2) := by decide +kernel
theorem d_M_reckonAll_122 : decode b_M_reckonAll 122 = .ok (.if_icmp .le 19, 3) := by decide +kernel
theorem d_M_reckonAll_125 : decode b_M_reckonAll 125 = .ok (.aload_n 0, 1) := by decide +kernel
theorem d_M_reckonAll_126 : decode b_M_reckonAll 126 = .ok (.getfield 23, 3) := by decide +kernel
theorem d_M_reckonAll_129 : decode b_M_reckonAll 129 = .ok (.aload_n 0, 1) := by decide +kernel
theorem d_M_reckonAll_130 : decode b_M_reckonAll 130 = .ok (.getfield 41, 3) := by decide +kernel
theorem d_M_reckonAll_133 : decode b_M_reckonAll 133 = .ok (.iload_n 3, 1) := by decide +kernel
theorem d_M_reckonAll_134 : decode b_M_reckonAll 134 = .ok (.iconst 1, 1) := by decide +kernel
theorem d_M_reckonAll_135 : decode b_M_reckonAll 135 = .ok (.iadd, 1) := by decide +kernel
theorem d_M_reckonAll_136 : decode b_M_reckonAll 136 = .ok (.iaload, 1) := by decide +kernel
theorem d_M_reckonAll_137 : decode b_M_reckonAll 137 = .ok (.iaload, 1) := by decide +kernel
theorem d_M_reckonAll_138 : decode b_M_reckonAll 138 = .ok (.goto 4, 3) := by decide +kernel
theorem d_M_reckonAll_141 : decode b_M_reckonAll 141 = .ok (.iconst 0, 1) := by decide +kernel
theorem d_M_reckonAll_142 : decode b_M_reckonAll 142 = .ok (.istore 9, 2) := by decide +kernel
theorem d_M_reckonAll_144 : decode b_M_reckonAll 144 = .ok (.iload 4, 2) := by decide +kernel
theorem d_M_reckonAll_146 : decode b_M_reckonAll 146 = .ok (.ifCond .ne 22, 3) := by decide +kernel
theorem d_M_reckonAll_149 : decode b_M_reckonAll 149 = .ok (.aload_n 0, 1) := by decide +kernel
theorem d_M_reckonAll_150 : decode b_M_reckonAll 150 = .ok (.aload_n 0, 1) := by decide +kernel
theorem d_M_reckonAll_151 : decode b_M_reckonAll 151 = .ok (.getfield 41, 3) := by decide +kernel
theorem d_M_reckonAll_154 : decode b_M_reckonAll 154 = .ok (.iload_n 3, 1) := by decide +kernel
theorem d_M_reckonAll_155 : decode b_M_reckonAll 155 = .ok (.iconst 1, 1) := by decide +kernel
theorem d_M_reckonAll_156 : decode b_M_reckonAll 156 = .ok (.iadd, 1) := by decide +kernel
theorem d_M_reckonAll_157 : decode b_M_reckonAll 157 = .ok (.iaload, 1) := by decide +kernel
theorem d_M_reckonAll_158 : decode b_M_reckonAll 158 = .ok (.sipush 128, 3) := by decide +kernel
theorem d_M_reckonAll_161 : decode b_M_reckonAll 161 = .ok (.isub, 1) := by decide +kernel
theorem d_M_reckonAll_162 : decode b_M_reckonAll 162 = .ok (.invokevirtual 112, 3) := by decide +kernel
theorem d_M_reckonAll_165 : decode b_M_reckonAll 165 = .ok (.goto 133, 3) := by decide +kernel
theorem d_M_reckonAll_168 : decode b_M_reckonAll 168 = .ok (.iload 4, 2) := by decide +kernel
theorem d_M_reckonAll_170 : decode b_M_reckonAll 170 = .ok (.iconst 3, 1) := by decide +kernel
theorem d_M_reckonAll_171 : decode b_M_reckonAll 171 = .ok (.if_icmp .ge 14, 3) := by decide +kernel
theorem d_M_reckonAll_174 : decode b_M_reckonAll 174 = .ok (.aload_n 0, 1) := by decide +kernel
theorem d_M_reckonAll_175 : decode b_M_reckonAll 175 = .ok (.iconst 2, 1) := by decide +kernel
theorem d_M_reckonAll_176 : decode b_M_reckonAll 176 = .ok (.iload 4, 2) := by decide +kernel
theorem d_M_reckonAll_178 : decode b_M_reckonAll 178 = .ok (.isub, 1) := by decide +kernel
theorem d_M_reckonAll_179 : decode b_M_reckonAll 179 = .ok (.invokevirtual 112, 3) := by decide +kernel
theorem d_M_reckonAll_182 : decode b_M_reckonAll 182 = .ok (.goto 116, 3) := by decide +kernel
theorem d_M_reckonAll_185 : decode b_M_reckonAll 185 = .ok (.iload 4, 2) := by decide +kernel
theorem d_M_reckonAll_187 : decode b_M_reckonAll 187 = .ok (.iconst 3, 1) := by decide +kernel
theorem d_M_reckonAll_188 : decode b_M_reckonAll 188 = .ok (.if_icmp .ne 12, 3) := by decide +kernel
theorem d_M_reckonAll_191 : decode b_M_reckonAll 191 = .ok (.aload_n 0, 1) := by decide +kernel
theorem d_M_reckonAll_192 : decode b_M_reckonAll 192 = .ok (.iload 9, 2) := by decide +kernel
theorem d_M_reckonAll_194 : decode b_M_reckonAll 194 = .ok (.invokevirtual 112, 3) := by decide +kernel
theorem d_M_reckonAll_197 : decode b_M_reckonAll 197 = .ok (.goto 101, 3) := by decide +kernel
theorem d_M_reckonAll_200 : decode b_M_reckonAll 200 = .ok (.iload 4, 2) := by decide +kernel
theorem d_M_reckonAll_202 : decode b_M_reckonAll 202 = .ok (.bipush 14, 2) := by decide +kernel
theorem d_M_reckonAll_204 : decode b_M_reckonAll 204 = .ok (.if_icmp .ge 21, 3) := by decide +kernel
theorem d_M_reckonAll_207 : decode b_M_reckonAll 207 = .ok (.aload_n 0, 1) := by decide +kernel
theorem d_M_reckonAll_208 : decode b_M_reckonAll 208 = .ok (.iload 4, 2) := by decide +kernel
theorem d_M_reckonAll_210 : decode b_M_reckonAll 210 = .ok (.iload 6, 2) := by decide +kernel
theorem d_M_reckonAll_212 : decode b_M_reckonAll 212 = .ok (.iload 7, 2) := by decide +kernel
theorem d_M_reckonAll_214 : decode b_M_reckonAll 214 = .ok (.iload 8, 2) := by decide +kernel
theorem d_M_reckonAll_216 : decode b_M_reckonAll 216 = .ok (.invokestatic 166, 3) := by decide +kernel
theorem d_M_reckonAll_219 : decode b_M_reckonAll 219 = .ok (.invokevirtual 112, 3) := by decide +kernel
theorem d_M_reckonAll_222 : decode b_M_reckonAll 222 = .ok (.goto 76, 3) := by decide +kernel
theorem d_M_reckonAll_225 : decode b_M_reckonAll 225 = .ok (.iload 4, 2) := by decide +kernel
theorem d_M_reckonAll_227 : decode b_M_reckonAll 227 = .ok (.bipush 14, 2) := by decide +kernel
theorem d_M_reckonAll_229 : decode b_M_reckonAll 229 = .ok (.if_icmp .ne 16, 3) := by decide +kernel
theorem d_M_reckonAll_232 : decode b_M_reckonAll 232 = .ok (.aload_n 0, 1) := by decide +kernel
theorem d_M_reckonAll_233 : decode b_M_reckonAll 233 = .ok (.aload_n 0, 1) := by decide +kernel
theorem d_M_reckonAll_234 : decode b_M_reckonAll 234 = .ok (.getfield 50, 3) := by decide +kernel
theorem d_M_reckonAll_237 : decode b_M_reckonAll 237 = .ok (.iload_n 3, 1) := by decide +kernel
theorem d_M_reckonAll_238 : decode b_M_reckonAll 238 = .ok (.iaload, 1) := by decide +kernel
theorem d_M_reckonAll_239 : decode b_M_reckonAll 239 = .ok (.invokevirtual 112, 3) := by decide +kernel
theorem d_M_reckonAll_242 : decode b_M_reckonAll 242 = .ok (.goto 56, 3) := by decide +kernel
theorem d_M_reckonAll_245 : decode b_M_reckonAll 245 = .ok (.iload 4, 2) := by decide +kernel
theorem d_M_reckonAll_247 : decode b_M_reckonAll 247 = .ok (.bipush 15, 2) := by decide +kernel
theorem d_M_reckonAll_249 : decode b_M_reckonAll 249 = .ok (.if_icmp .ne 26, 3) := by decide +kernel
theorem d_M_reckonAll_252 : decode b_M_reckonAll 252 = .ok (.aload_n 0, 1) := by decide +kernel
theorem d_M_reckonAll_253 : decode b_M_reckonAll 253 = .ok (.aload_n 0, 1) := by decide +kernel
theorem d_M_reckonAll_254 : decode b_M_reckonAll 254 = .ok (.getfield 56, 3) := by decide +kernel
theorem d_M_reckonAll_257 : decode b_M_reckonAll 257 = .ok (.iload_n 3, 1) := by decide +kernel
theorem d_M_reckonAll_258 : decode b_M_reckonAll 258 = .ok (.baload, 1) := by decide +kernel
theorem d_M_reckonAll_259 : decode b_M_reckonAll 259 = .ok (.ifCond .eq 8, 3) := by decide +kernel
theorem d_M_reckonAll_262 : decode b_M_reckonAll 262 = .ok (.iload 7, 2) := by decide +kernel
theorem d_M_reckonAll_264 : decode b_M_reckonAll 264 = .ok (.goto 5, 3) := by decide +kernel
theorem d_M_reckonAll_267 : decode b_M_reckonAll 267 = .ok (.iload 6, 2) := by decide +kernel
theorem d_M_reckonAll_269 : decode b_M_reckonAll 269 = .ok (.invokevirtual 112, 3) := by decide +kernel
theorem d_M_reckonAll_272 : decode b_M_reckonAll 272 = .ok (.goto 26, 3) := by decide +kernel
theorem d_M_reckonAll_275 : decode b_M_reckonAll 275 = .ok (.aload_n 0, 1) := by decide +kernel
theorem d_M_reckonAll_276 : decode b_M_reckonAll 276 = .ok (.iload 4, 2) := by decide +kernel
theorem d_M_reckonAll_278 : decode b_M_reckonAll 278 = .ok (.bipush 18, 2) := by decide +kernel
theorem d_M_reckonAll_280 : decode b_M_reckonAll 280 = .ok (.if_icmp .ne 13, 3) := by decide +kernel
theorem d_M_reckonAll_283 : decode b_M_reckonAll 283 = .ok (.iload 9, 2) := by decide +kernel
theorem d_M_reckonAll_285 : decode b_M_reckonAll 285 = .ok (.ifCond .ne 8, 3) := by decide +kernel
theorem d_M_reckonAll_288 : decode b_M_reckonAll 288 = .ok (.iload 7, 2) := by decide +kernel
theorem d_M_reckonAll_290 : decode b_M_reckonAll 290 = .ok (.goto 5, 3) := by decide +kernel
theorem d_M_reckonAll_293 : decode b_M_reckonAll 293 = .ok (.iload 6, 2) := by decide +kernel
theorem d_M_reckonAll_295 : decode b_M_reckonAll 295 = .ok (.invokevirtual 112, 3) := by decide +kernel
theorem d_M_reckonAll_298 : decode b_M_reckonAll 298 = .ok (.iinc 2 (-1), 3) := by decide +kernel
theorem d_M_reckonAll_301 : decode b_M_reckonAll 301 = .ok (.goto (-287), 3) := by decide +kernel
theorem d_M_reckonAll_304 : decode b_M_reckonAll 304 = .ok (.aload_n 0, 1) := by decide +kernel
theorem d_M_reckonAll_305 : decode b_M_reckonAll 305 = .ok (.invokevirtual 116, 3) := by decide +kernel
theorem d_M_reckonAll_308 : decode b_M_reckonAll 308 = .ok (.ireturn, 1) := by decide +kernel
theorem m_M_reckonAll : fk_MI y_M_reckonAll b_M_reckonAll 10 (some .int) 1 := ⟨i_830, i_829, fk_mp (q := (y_M_reckonAll, 31)) (by decide +kernel), i_8, by decide +kernel⟩
set_option maxHeartbeats 4000000 in
set_option maxRecDepth 100000 in
theorem c_M_reckonAll (l : Launch) (g : fk_G) (ov : Int64) (M : fk_M) (f : Nat) (hf : f < 12) (bf : Nat → Nat) (n cnt : Nat) (sp sl : Nat → Nat) (P : Nat) (hn40 : n ≤ 40) (h12 : cnt ≤ 12) (hP : P ≤ 40) (hsl0 : sl 0 = 1) (hRF : fk_RF bf n cnt sp sl P) (hpt : M 99 f = nI P) (hbg : ∀ q, q < P → M 101 (40 * f + q) = nI (sp q)) (hby : ∀ j, j < n → M 100 (40 * f + j) = nI (bf j)) (hslP : sl P = 0) : fk_CI l y_M_reckonAll b_M_reckonAll 10 (some .int) (fk_rm 2) g ov M (fk_w3 104 M (fk_ra bf sp sl f (M 94) (M 103) (M 105) P (M 109) (M 104)).1 0 (M 89 30) (fk_ra bf sp sl f (M 94) (M 103) (M 105) P (M 109) (M 104)).2) [.ref (fk_a g 89), .int (nI f)] ((fk_ra bf sp sl f (M 94) (M 103) (M 105) P (M 109) (M 104)).1 0) := by
  refine fk_ofI rfl (Nat.le_of_ble_eq_true rfl) ?_
  intro p e s m args below meth c ls S hr hlk E G hl
  have hl : lv_has ls 10 [(0, .ref (fk_a g 89)), (1, .int (nI f))] := hl
  refine lv_aload_n S.1 S.2.1 d_M_reckonAll_0 rfl (lv_at hl 0 rfl) ?_
  refine lv_iconst (v := nI 0) S.1 S.2.1 d_M_reckonAll_1 (by decide +kernel) ?_
  refine fk_pf S E G 89 (by decide) (congrArg (fk_ce g ov 89 (M 89)) kd_89) rfl 29 (by decide) rfl i_651 (upd (M 89) 29 (nI 0)) (congrArg (fk_ce g ov 89 (upd (M 89) 29 (nI 0))) kd_89) rfl (ty := (.int)) (by decide +kernel) rfl rfl (Nat.le_of_ble_eq_true rfl) d_M_reckonAll_2 (fun H locs G => ?_)
  obtain ⟨M1, hM1⟩ : ∃ z : fk_M, z = va_up M 89 (upd (M 89) 29 (nI 0)) := ⟨_, rfl⟩
  rw [← hM1] at G
  have hc0 : fk_C3 104 M M1 (M 109) 0 (M 89 30) (M 104) := by
    rw [hM1]
    refine ⟨rfl, rfl, by rw [va_up_self, pk_us], by rw [va_up_self, pk_un (by decide)], fun j j1 j2 => by rw [va_up_self, pk_un j1], fun k k1 k2 k3 => by rw [va_up_ne _ _ k1]⟩
  have loop : ∀ (d : Nat) (S9 : Nat → Int32) (X : Nat → Int32) (Mc : fk_M) (H : Heap) (locs : List Loc) (ls : Array Slot), d ≤ P → fk_C3 104 M Mc S9 (sl d) (M 89 30) X → fk_ra bf sp sl f (M 94) (M 103) (M 105) d S9 X = fk_ra bf sp sl f (M 94) (M 103) (M 105) P (M 109) (M 104) → fk_H g ov (Mc) s H locs → lv_has ls 10 [(2, .int (nI d - 1)), (0, .ref (fk_a g 89)), (1, .int (nI f))] → W p l e (fk_rm (2)) s m args below meth c H locs 0 0 (MQ below (va_Qi (fun rr (_ : Unit) => rr = (fk_ra bf sp sl f (M 94) (M 103) (M 105) P (M 109) (M 104)).1 0) (fun _ t9 => fk_Wd g ov (fk_w3 104 M (fk_ra bf sp sl f (M 94) (M 103) (M 105) P (M 109) (M 104)).1 0 (M 89 30) (fk_ra bf sp sl f (M 94) (M 103) (M 105) P (M 109) (M 104)).2) t9) (fk_A g)) args s 0 0 (fk_A g)) (F0 m 14 ls []) := by
    intro d
    induction d with
    | zero =>
      intro S9 X Mc H locs ls hv0 hv1 hv2 G hl
      rw [hsl0] at hv1
      obtain ⟨c1, c2, c3, c4, c5, c6⟩ := id hv1
      have cc90 : Mc 90 = M 90 := c6 90 (by decide) (by decide) (by decide)
      have cc91 : Mc 91 = M 91 := c6 91 (by decide) (by decide) (by decide)
      have cc92 : Mc 92 = M 92 := c6 92 (by decide) (by decide) (by decide)
      have cc94 : Mc 94 = M 94 := c6 94 (by decide) (by decide) (by decide)
      have cc99 : Mc 99 = M 99 := c6 99 (by decide) (by decide) (by decide)
      have cc100 : Mc 100 = M 100 := c6 100 (by decide) (by decide) (by decide)
      have cc101 : Mc 101 = M 101 := c6 101 (by decide) (by decide) (by decide)
      have cc103 : Mc 103 = M 103 := c6 103 (by decide) (by decide) (by decide)
      have cc105 : Mc 105 = M 105 := c6 105 (by decide) (by decide) (by decide)
      refine lv_iload_n S.1 S.2.1 d_M_reckonAll_14 rfl (lv_at hl 0 rfl) ?_
      refine lv_if_lt (tgt := 304) S.1 S.2.1 d_M_reckonAll_15 rfl (fun hc2 => ?_) (fun hc2 => ?_)
      · refine lv_aload_n S.1 S.2.1 d_M_reckonAll_304 rfl (lv_at hl 1 rfl) ?_
        refine fk_cvi S E G 89 (by decide) (congrArg (fk_ce g ov 89 (Mc 89)) kd_89) rfl (rest := []) (show fk_CI _ _ _ _ _ _ _ _ _ _ _ (S9 0) from by have h9 := c_M_pop l g ov Mc 0 c3 (by omega); rw [c1] at h9; exact h9) m_M_pop i_753 ⟨rfl, rfl⟩ ⟨by decide, by decide⟩ rfl rfl hl.1 (Nat.le_of_ble_eq_true rfl) d_M_reckonAll_305 ⟨Nat.zero_le _, Nat.zero_le _⟩ (fun H locs G => ?_)
        obtain ⟨Mp, hMp⟩ : ∃ z : fk_M, z = fk_po Mc 0 := ⟨_, rfl⟩
        rw [← hMp] at G
        have hcp : fk_C3 104 M Mp S9 0 (M 89 30) X := by rw [hMp]; exact hv1.pop (show (104 : Nat) ≠ 89 ∧ (104 : Nat) ≠ 109 by decide)
        have hv2 : (S9, X) = fk_ra bf sp sl f (M 94) (M 103) (M 105) P (M 109) (M 104) := hv2
        exact fk_iret S hr hlk E G (by rw [← hv2]; exact hcp.eq) (by rw [← hv2] <;> rfl) d_M_reckonAll_308
      · exact absurd (by decide +kernel) hc2
    | succ d ih =>
      intro S9 X Mc H locs ls hv0 hv1 hv2 G hl
      rw [nI_pred] at hl
      obtain ⟨hok, hs1, hs2, hs3⟩ := hRF d (by omega)
      obtain ⟨u, hu⟩ : ∃ u, sl d = u + 1 := ⟨sl d - 1, by omega⟩
      obtain ⟨i, hi⟩ : ∃ z, z = sp d := ⟨_, rfl⟩
      rw [fk_ra_S, hu, Nat.add_sub_cancel, ← hi] at hv2
      rw [← hi] at hok hs3
      have hin := hok.1
      have hk18 := hok.2.1
      have hil := hok.2.2.1
      have har := fk_ar_le (bf i)
      have hhp := fk_hd_pos (bf i)
      obtain ⟨c1, c2, c3, c4, c5, c6⟩ := id hv1
      have cc90 : Mc 90 = M 90 := c6 90 (by decide) (by decide) (by decide)
      have cc91 : Mc 91 = M 91 := c6 91 (by decide) (by decide) (by decide)
      have cc92 : Mc 92 = M 92 := c6 92 (by decide) (by decide) (by decide)
      have cc94 : Mc 94 = M 94 := c6 94 (by decide) (by decide) (by decide)
      have cc99 : Mc 99 = M 99 := c6 99 (by decide) (by decide) (by decide)
      have cc100 : Mc 100 = M 100 := c6 100 (by decide) (by decide) (by decide)
      have cc101 : Mc 101 = M 101 := c6 101 (by decide) (by decide) (by decide)
      have cc103 : Mc 103 = M 103 := c6 103 (by decide) (by decide) (by decide)
      have cc105 : Mc 105 = M 105 := c6 105 (by decide) (by decide) (by decide)
      refine lv_iload_n S.1 S.2.1 d_M_reckonAll_14 rfl (lv_at hl 0 rfl) ?_
      refine lv_if_lt (tgt := 304) S.1 S.2.1 d_M_reckonAll_15 rfl (fun hc3 => ?_) (fun hc3 => ?_)
      · exact absurd hc3 (nI_pos (by omega))
      · refine lv_bipush (v := nI 40) S.1 S.2.1 d_M_reckonAll_18 (by decide +kernel) ?_
        refine lv_iload_n S.1 S.2.1 d_M_reckonAll_20 rfl (lv_at hl 2 rfl) ?_
        refine fk_imul S.1 S.2.1 d_M_reckonAll_21 ?_
        refine lv_aload_n S.1 S.2.1 d_M_reckonAll_22 rfl (lv_at hl 1 rfl) ?_
        refine fk_gf S E G 89 (by decide) (v := .ref (fk_a g 101)) (congrArg (fk_ce g ov 89 (Mc 89)) kd_89) rfl 13 (by decide) rfl i_635 rfl d_M_reckonAll_23 ?_
        refine lv_bipush (v := nI 40) S.1 S.2.1 d_M_reckonAll_26 (by decide +kernel) ?_
        refine lv_iload_n S.1 S.2.1 d_M_reckonAll_28 rfl (lv_at hl 2 rfl) ?_
        refine fk_imul S.1 S.2.1 d_M_reckonAll_29 ?_
        refine lv_iload_n S.1 S.2.1 d_M_reckonAll_30 rfl (lv_at hl 0 rfl) ?_
        refine fk_iadd S.1 S.2.1 d_M_reckonAll_31 ?_
        refine fk_ia S E G 101 (by decide) (congrArg (fk_ce g ov 101 (Mc 101)) kd_101) ((40 * f) + d) rfl (by omega) (by decide) (v := nI i) (by rw [cc101, hbg d (by omega), hi]) d_M_reckonAll_32 ?_
        refine fk_iadd S.1 S.2.1 d_M_reckonAll_33 ?_
        refine lv_istore_n (lv' := [(3, .int (nI ((40 * f) + i))), (2, .int (nI d)), (0, .ref (fk_a g 89)), (1, .int (nI f))]) S.1 S.2.1 d_M_reckonAll_34 rfl hl (by decide) rfl (fun ls hl => ?_)
        refine lv_aload_n S.1 S.2.1 d_M_reckonAll_35 rfl (lv_at hl 2 rfl) ?_
        refine fk_gf S E G 89 (by decide) (v := .ref (fk_a g 100)) (congrArg (fk_ce g ov 89 (Mc 89)) kd_89) rfl 12 (by decide) rfl i_634 rfl d_M_reckonAll_36 ?_
        refine lv_iload_n S.1 S.2.1 d_M_reckonAll_39 rfl (lv_at hl 0 rfl) ?_
        refine fk_ia S E G 100 (by decide) (congrArg (fk_ce g ov 100 (Mc 100)) kd_100) ((40 * f) + i) rfl (by omega) (by decide) (v := nI (bf i)) (by rw [cc100]; exact hby i (by omega)) d_M_reckonAll_40 ?_
        refine lv_istore (lv' := [(4, .int (nI (bf i))), (3, .int (nI ((40 * f) + i))), (2, .int (nI d)), (0, .ref (fk_a g 89)), (1, .int (nI f))]) S.1 S.2.1 d_M_reckonAll_41 hl (by decide) rfl (fun ls hl => ?_)
        refine lv_iload S.1 S.2.1 d_M_reckonAll_43 (lv_at hl 0 rfl) ?_
        refine fk_csi S E G (rest := []) (c_M_many l g ov Mc (bf i) (by omega)) m_M_many i_757 ⟨rfl, rfl⟩ ⟨by decide, by decide⟩ rfl rfl hl.1 (Nat.le_of_ble_eq_true rfl) d_M_reckonAll_45 ⟨Nat.zero_le _, Nat.zero_le _⟩ (fun H locs G => ?_)
        refine lv_istore (lv' := [(5, .int (nI (fk_ar (bf i)))), (4, .int (nI (bf i))), (3, .int (nI ((40 * f) + i))), (2, .int (nI d)), (0, .ref (fk_a g 89)), (1, .int (nI f))]) S.1 S.2.1 d_M_reckonAll_48 hl (by decide) rfl (fun ls hl => ?_)
        obtain ⟨px, hpx⟩ : ∃ z, z = fk_px S9 (sl (d + 1)) (fk_ar (bf i)) 0 := ⟨_, rfl⟩
        obtain ⟨py, hpy⟩ : ∃ z, z = fk_px S9 (sl (d + 1)) (fk_ar (bf i)) 1 := ⟨_, rfl⟩
        obtain ⟨pz, hpz⟩ : ∃ z, z = fk_px S9 (sl (d + 1)) (fk_ar (bf i)) 2 := ⟨_, rfl⟩
        rw [← hpx, ← hpy, ← hpz] at hv2
        have j144 : ∀ (nv : Int32) (Md : fk_M) (H : Heap) (locs : List Loc) (ls : Array Slot), fk_C3 104 M Md S9 u (M 89 30) (if bf i = 14 then upd X (40 * f + i) px else X) → nv = (if bf i = 3 ∨ 15 < bf i then M 94 (bf (i + 1)) else nI 0) → fk_H g ov (Md) s H locs → lv_has ls 10 [(9, .int nv), (8, .int pz), (7, .int py), (6, .int px), (4, .int (nI (bf i))), (3, .int (nI (40 * f + i))), (2, .int (nI d)), (0, .ref (fk_a g 89)), (1, .int (nI f))] → W p l e (fk_rm (2)) s m args below meth c H locs 0 0 (MQ below (va_Qi (fun rr (_ : Unit) => rr = (fk_ra bf sp sl f (M 94) (M 103) (M 105) P (M 109) (M 104)).1 0) (fun _ t9 => fk_Wd g ov (fk_w3 104 M (fk_ra bf sp sl f (M 94) (M 103) (M 105) P (M 109) (M 104)).1 0 (M 89 30) (fk_ra bf sp sl f (M 94) (M 103) (M 105) P (M 109) (M 104)).2) t9) (fk_A g)) args s 0 0 (fk_A g)) (F0 m 144 ls []) := by
          intro nv Md H locs ls hv0 hv1 G hl
          have hnv := hv1
          have hz0 := hv0
          obtain ⟨w1, w2, w3, w4, w5, w6⟩ := id hz0
          have wc90 : Md 90 = M 90 := w6 90 (by decide) (by decide) (by decide)
          have wc91 : Md 91 = M 91 := w6 91 (by decide) (by decide) (by decide)
          have wc92 : Md 92 = M 92 := w6 92 (by decide) (by decide) (by decide)
          have wc94 : Md 94 = M 94 := w6 94 (by decide) (by decide) (by decide)
          have wc99 : Md 99 = M 99 := w6 99 (by decide) (by decide) (by decide)
          have wc100 : Md 100 = M 100 := w6 100 (by decide) (by decide) (by decide)
          have wc101 : Md 101 = M 101 := w6 101 (by decide) (by decide) (by decide)
          have wc103 : Md 103 = M 103 := w6 103 (by decide) (by decide) (by decide)
          have wc105 : Md 105 = M 105 := w6 105 (by decide) (by decide) (by decide)
          refine lv_iload S.1 S.2.1 d_M_reckonAll_144 (lv_at hl 4 rfl) ?_
          refine fk_zne (tgt := 168) S.1 S.2.1 (by omega) d_M_reckonAll_146 rfl (fun hc4 => ?_) (fun hc4 => ?_)
          · refine lv_iload S.1 S.2.1 d_M_reckonAll_168 (lv_at hl 4 rfl) ?_
            refine lv_iconst (v := nI 3) S.1 S.2.1 d_M_reckonAll_170 (by decide +kernel) ?_
            refine fk_cge (tgt := 185) S.1 S.2.1 (by omega) (by omega) d_M_reckonAll_171 rfl (fun hc5 => ?_) (fun hc5 => ?_)
            · refine lv_iload S.1 S.2.1 d_M_reckonAll_185 (lv_at hl 4 rfl) ?_
              refine lv_iconst (v := nI 3) S.1 S.2.1 d_M_reckonAll_187 (by decide +kernel) ?_
              refine fk_cne (tgt := 200) S.1 S.2.1 (by omega) (by omega) d_M_reckonAll_188 rfl (fun hc6 => ?_) (fun hc6 => ?_)
              · refine lv_iload S.1 S.2.1 d_M_reckonAll_200 (lv_at hl 4 rfl) ?_
                refine lv_bipush (v := nI 14) S.1 S.2.1 d_M_reckonAll_202 (by decide +kernel) ?_
                refine fk_cge (tgt := 225) S.1 S.2.1 (by omega) (by omega) d_M_reckonAll_204 rfl (fun hc7 => ?_) (fun hc7 => ?_)
                · refine lv_iload S.1 S.2.1 d_M_reckonAll_225 (lv_at hl 4 rfl) ?_
                  refine lv_bipush (v := nI 14) S.1 S.2.1 d_M_reckonAll_227 (by decide +kernel) ?_
                  refine fk_cne (tgt := 245) S.1 S.2.1 (by omega) (by omega) d_M_reckonAll_229 rfl (fun hc8 => ?_) (fun hc8 => ?_)
                  · refine lv_iload S.1 S.2.1 d_M_reckonAll_245 (lv_at hl 4 rfl) ?_
                    refine lv_bipush (v := nI 15) S.1 S.2.1 d_M_reckonAll_247 (by decide +kernel) ?_
                    refine fk_cne (tgt := 275) S.1 S.2.1 (by omega) (by omega) d_M_reckonAll_249 rfl (fun hc9 => ?_) (fun hc9 => ?_)
                    · refine lv_aload_n S.1 S.2.1 d_M_reckonAll_275 rfl (lv_at hl 7 rfl) ?_
                      refine lv_iload S.1 S.2.1 d_M_reckonAll_276 (lv_at hl 4 rfl) ?_
                      refine lv_bipush (v := nI 18) S.1 S.2.1 d_M_reckonAll_278 (by decide +kernel) ?_
                      refine fk_cne (tgt := 293) S.1 S.2.1 (by omega) (by omega) d_M_reckonAll_280 rfl (fun hc10 => ?_) (fun hc10 => ?_)
                      · have hE : fk_rvl (M 94) (M 103) (M 105) (bf i) (40 * f + i) (bf (i + 1)) px py pz = px := by
                          unfold fk_rvl
                          rw [if_neg (by omega), if_neg (by omega), if_neg (by omega), if_neg (by omega), if_neg (by omega), if_neg (by omega), if_neg (fun q => hc10 q.1)]
                        rw [hE] at hv2
                        refine lv_iload S.1 S.2.1 d_M_reckonAll_293 (lv_at hl 3 rfl) ?_
                        refine fk_cvv S E G 89 (by decide) (congrArg (fk_ce g ov 89 (Md 89)) kd_89) rfl (rest := []) (c_M_push l g ov Md u hz0.2.2.1 (by omega) (px)) m_M_push i_749 ⟨rfl, rfl⟩ ⟨by decide, by decide⟩ rfl rfl hl.1 (Nat.le_of_ble_eq_true rfl) d_M_reckonAll_295 ⟨Nat.zero_le _, Nat.zero_le _⟩ (fun H locs G => ?_)
                        refine lv_iinc (k := 6) (v := nI d - 1) (lv' := [(2, .int (nI d - 1)), (9, .int nv), (8, .int pz), (7, .int py), (6, .int px), (4, .int (nI (bf i))), (3, .int (nI (40 * f + i))), (0, .ref (fk_a g 89)), (1, .int (nI f))]) S.1 S.2.1 d_M_reckonAll_298 hl rfl (fk_dec _) (by decide) rfl (fun ls hl => ?_)
                        refine lv_goto (tgt := 14) S.1 S.2.1 d_M_reckonAll_301 rfl ?_
                        exact ih _ (if bf i = 14 then upd X (40 * f + i) px else X) _ H locs ls (by omega) (by rw [hu]; exact hz0.push (show (104 : Nat) ≠ 89 ∧ (104 : Nat) ≠ 109 by decide) _) hv2 G (lv_sub hl [0, 7, 8] rfl)
                      · have hnv2 : nv = M 94 (bf (i + 1)) := by
                          rw [hnv]
                          exact if_pos (by omega)
                        refine lv_iload S.1 S.2.1 d_M_reckonAll_283 (lv_at hl 0 rfl) ?_
                        refine lv_if_ne (tgt := 293) S.1 S.2.1 d_M_reckonAll_285 rfl (fun hc11 => ?_) (fun hc11 => ?_)
                        · have hE : fk_rvl (M 94) (M 103) (M 105) (bf i) (40 * f + i) (bf (i + 1)) px py pz = px := by
                            unfold fk_rvl
                            rw [if_neg (by omega), if_neg (by omega), if_neg (by omega), if_neg (by omega), if_neg (by omega), if_neg (by omega), if_neg (fun q => hc11 (hnv2.trans q.2))]
                          rw [hE] at hv2
                          refine lv_iload S.1 S.2.1 d_M_reckonAll_293 (lv_at hl 3 rfl) ?_
                          refine fk_cvv S E G 89 (by decide) (congrArg (fk_ce g ov 89 (Md 89)) kd_89) rfl (rest := []) (c_M_push l g ov Md u hz0.2.2.1 (by omega) (px)) m_M_push i_749 ⟨rfl, rfl⟩ ⟨by decide, by decide⟩ rfl rfl hl.1 (Nat.le_of_ble_eq_true rfl) d_M_reckonAll_295 ⟨Nat.zero_le _, Nat.zero_le _⟩ (fun H locs G => ?_)
                          refine lv_iinc (k := 6) (v := nI d - 1) (lv' := [(2, .int (nI d - 1)), (9, .int nv), (8, .int pz), (7, .int py), (6, .int px), (4, .int (nI (bf i))), (3, .int (nI (40 * f + i))), (0, .ref (fk_a g 89)), (1, .int (nI f))]) S.1 S.2.1 d_M_reckonAll_298 hl rfl (fk_dec _) (by decide) rfl (fun ls hl => ?_)
                          refine lv_goto (tgt := 14) S.1 S.2.1 d_M_reckonAll_301 rfl ?_
                          exact ih _ (if bf i = 14 then upd X (40 * f + i) px else X) _ H locs ls (by omega) (by rw [hu]; exact hz0.push (show (104 : Nat) ≠ 89 ∧ (104 : Nat) ≠ 109 by decide) _) hv2 G (lv_sub hl [0, 7, 8] rfl)
                        · have hE : fk_rvl (M 94) (M 103) (M 105) (bf i) (40 * f + i) (bf (i + 1)) px py pz = py := by
                            unfold fk_rvl
                            rw [if_neg (by omega), if_neg (by omega), if_neg (by omega), if_neg (by omega), if_neg (by omega), if_neg (by omega), if_pos ⟨hc10, hnv2.symm.trans hc11⟩]
                          rw [hE] at hv2
                          refine lv_iload S.1 S.2.1 d_M_reckonAll_288 (lv_at hl 2 rfl) ?_
                          refine lv_goto (tgt := 295) S.1 S.2.1 d_M_reckonAll_290 rfl ?_
                          refine fk_cvv S E G 89 (by decide) (congrArg (fk_ce g ov 89 (Md 89)) kd_89) rfl (rest := []) (c_M_push l g ov Md u hz0.2.2.1 (by omega) (py)) m_M_push i_749 ⟨rfl, rfl⟩ ⟨by decide, by decide⟩ rfl rfl hl.1 (Nat.le_of_ble_eq_true rfl) d_M_reckonAll_295 ⟨Nat.zero_le _, Nat.zero_le _⟩ (fun H locs G => ?_)
                          refine lv_iinc (k := 6) (v := nI d - 1) (lv' := [(2, .int (nI d - 1)), (9, .int nv), (8, .int pz), (7, .int py), (6, .int px), (4, .int (nI (bf i))), (3, .int (nI (40 * f + i))), (0, .ref (fk_a g 89)), (1, .int (nI f))]) S.1 S.2.1 d_M_reckonAll_298 hl rfl (fk_dec _) (by decide) rfl (fun ls hl => ?_)
                          refine lv_goto (tgt := 14) S.1 S.2.1 d_M_reckonAll_301 rfl ?_
                          exact ih _ (if bf i = 14 then upd X (40 * f + i) px else X) _ H locs ls (by omega) (by rw [hu]; exact hz0.push (show (104 : Nat) ≠ 89 ∧ (104 : Nat) ≠ 109 by decide) _) hv2 G (lv_sub hl [0, 7, 8] rfl)
                    · refine lv_aload_n S.1 S.2.1 d_M_reckonAll_252 rfl (lv_at hl 7 rfl) ?_
                      refine lv_aload_n S.1 S.2.1 d_M_reckonAll_253 rfl (lv_at hl 7 rfl) ?_
                      refine fk_gf S E G 89 (by decide) (v := .ref (fk_a g 105)) (congrArg (fk_ce g ov 89 (Md 89)) kd_89) rfl 17 (by decide) rfl i_639 rfl d_M_reckonAll_254 ?_
                      refine lv_iload_n S.1 S.2.1 d_M_reckonAll_257 rfl (lv_at hl 5 rfl) ?_
                      refine fk_za S E G 105 (by decide) (congrArg (fk_ce g ov 105 (Md 105)) kd_105) (40 * f + i) rfl (by omega) (by decide) (v := M 105 (40 * f + i)) (by rw [wc105]) d_M_reckonAll_258 ?_
                      refine lv_if_eq (tgt := 267) S.1 S.2.1 d_M_reckonAll_259 rfl (fun hc12 => ?_) (fun hc12 => ?_)
                      · have hE : fk_rvl (M 94) (M 103) (M 105) (bf i) (40 * f + i) (bf (i + 1)) px py pz = px := by
                          unfold fk_rvl
                          rw [if_neg (by omega), if_neg (by omega), if_neg (by omega), if_neg (by omega), if_neg (by omega), if_pos hc9, if_pos hc12]
                        rw [hE] at hv2
                        refine lv_iload S.1 S.2.1 d_M_reckonAll_267 (lv_at hl 3 rfl) ?_
                        refine fk_cvv S E G 89 (by decide) (congrArg (fk_ce g ov 89 (Md 89)) kd_89) rfl (rest := []) (c_M_push l g ov Md u hz0.2.2.1 (by omega) (px)) m_M_push i_749 ⟨rfl, rfl⟩ ⟨by decide, by decide⟩ rfl rfl hl.1 (Nat.le_of_ble_eq_true rfl) d_M_reckonAll_269 ⟨Nat.zero_le _, Nat.zero_le _⟩ (fun H locs G => ?_)
                        refine lv_goto (tgt := 298) S.1 S.2.1 d_M_reckonAll_272 rfl ?_
                        refine lv_iinc (k := 6) (v := nI d - 1) (lv' := [(2, .int (nI d - 1)), (9, .int nv), (8, .int pz), (7, .int py), (6, .int px), (4, .int (nI (bf i))), (3, .int (nI (40 * f + i))), (0, .ref (fk_a g 89)), (1, .int (nI f))]) S.1 S.2.1 d_M_reckonAll_298 hl rfl (fk_dec _) (by decide) rfl (fun ls hl => ?_)
                        refine lv_goto (tgt := 14) S.1 S.2.1 d_M_reckonAll_301 rfl ?_
                        exact ih _ (if bf i = 14 then upd X (40 * f + i) px else X) _ H locs ls (by omega) (by rw [hu]; exact hz0.push (show (104 : Nat) ≠ 89 ∧ (104 : Nat) ≠ 109 by decide) _) hv2 G (lv_sub hl [0, 7, 8] rfl)
                      · have hE : fk_rvl (M 94) (M 103) (M 105) (bf i) (40 * f + i) (bf (i + 1)) px py pz = py := by
                          unfold fk_rvl
                          rw [if_neg (by omega), if_neg (by omega), if_neg (by omega), if_neg (by omega), if_neg (by omega), if_pos hc9, if_neg hc12]
                        rw [hE] at hv2
                        refine lv_iload S.1 S.2.1 d_M_reckonAll_262 (lv_at hl 2 rfl) ?_
                        refine lv_goto (tgt := 269) S.1 S.2.1 d_M_reckonAll_264 rfl ?_
                        refine fk_cvv S E G 89 (by decide) (congrArg (fk_ce g ov 89 (Md 89)) kd_89) rfl (rest := []) (c_M_push l g ov Md u hz0.2.2.1 (by omega) (py)) m_M_push i_749 ⟨rfl, rfl⟩ ⟨by decide, by decide⟩ rfl rfl hl.1 (Nat.le_of_ble_eq_true rfl) d_M_reckonAll_269 ⟨Nat.zero_le _, Nat.zero_le _⟩ (fun H locs G => ?_)
                        refine lv_goto (tgt := 298) S.1 S.2.1 d_M_reckonAll_272 rfl ?_
                        refine lv_iinc (k := 6) (v := nI d - 1) (lv' := [(2, .int (nI d - 1)), (9, .int nv), (8, .int pz), (7, .int py), (6, .int px), (4, .int (nI (bf i))), (3, .int (nI (40 * f + i))), (0, .ref (fk_a g 89)), (1, .int (nI f))]) S.1 S.2.1 d_M_reckonAll_298 hl rfl (fk_dec _) (by decide) rfl (fun ls hl => ?_)
                        refine lv_goto (tgt := 14) S.1 S.2.1 d_M_reckonAll_301 rfl ?_
                        exact ih _ (if bf i = 14 then upd X (40 * f + i) px else X) _ H locs ls (by omega) (by rw [hu]; exact hz0.push (show (104 : Nat) ≠ 89 ∧ (104 : Nat) ≠ 109 by decide) _) hv2 G (lv_sub hl [0, 7, 8] rfl)
                  · refine lv_aload_n S.1 S.2.1 d_M_reckonAll_232 rfl (lv_at hl 7 rfl) ?_
                    refine lv_aload_n S.1 S.2.1 d_M_reckonAll_233 rfl (lv_at hl 7 rfl) ?_
                    refine fk_gf S E G 89 (by decide) (v := .ref (fk_a g 103)) (congrArg (fk_ce g ov 89 (Md 89)) kd_89) rfl 15 (by decide) rfl i_637 rfl d_M_reckonAll_234 ?_
                    refine lv_iload_n S.1 S.2.1 d_M_reckonAll_237 rfl (lv_at hl 5 rfl) ?_
                    refine fk_ia S E G 103 (by decide) (congrArg (fk_ce g ov 103 (Md 103)) kd_103) (40 * f + i) rfl (by omega) (by decide) (v := M 103 (40 * f + i)) (by rw [wc103]) d_M_reckonAll_238 ?_
                    have hE : fk_rvl (M 94) (M 103) (M 105) (bf i) (40 * f + i) (bf (i + 1)) px py pz = M 103 (40 * f + i) := by
                      unfold fk_rvl
                      rw [if_neg (by omega), if_neg (by omega), if_neg (by omega), if_neg (by omega), if_pos (by omega)]
                    rw [hE] at hv2
                    refine fk_cvv S E G 89 (by decide) (congrArg (fk_ce g ov 89 (Md 89)) kd_89) rfl (rest := []) (c_M_push l g ov Md u hz0.2.2.1 (by omega) (M 103 (40 * f + i))) m_M_push i_749 ⟨rfl, rfl⟩ ⟨by decide, by decide⟩ rfl rfl hl.1 (Nat.le_of_ble_eq_true rfl) d_M_reckonAll_239 ⟨Nat.zero_le _, Nat.zero_le _⟩ (fun H locs G => ?_)
                    refine lv_goto (tgt := 298) S.1 S.2.1 d_M_reckonAll_242 rfl ?_
                    refine lv_iinc (k := 6) (v := nI d - 1) (lv' := [(2, .int (nI d - 1)), (9, .int nv), (8, .int pz), (7, .int py), (6, .int px), (4, .int (nI (bf i))), (3, .int (nI (40 * f + i))), (0, .ref (fk_a g 89)), (1, .int (nI f))]) S.1 S.2.1 d_M_reckonAll_298 hl rfl (fk_dec _) (by decide) rfl (fun ls hl => ?_)
                    refine lv_goto (tgt := 14) S.1 S.2.1 d_M_reckonAll_301 rfl ?_
                    exact ih _ (if bf i = 14 then upd X (40 * f + i) px else X) _ H locs ls (by omega) (by rw [hu]; exact hz0.push (show (104 : Nat) ≠ 89 ∧ (104 : Nat) ≠ 109 by decide) _) hv2 G (lv_sub hl [0, 7, 8] rfl)
                · refine lv_aload_n S.1 S.2.1 d_M_reckonAll_207 rfl (lv_at hl 7 rfl) ?_
                  refine lv_iload S.1 S.2.1 d_M_reckonAll_208 (lv_at hl 4 rfl) ?_
                  refine lv_iload S.1 S.2.1 d_M_reckonAll_210 (lv_at hl 3 rfl) ?_
                  refine lv_iload S.1 S.2.1 d_M_reckonAll_212 (lv_at hl 2 rfl) ?_
                  refine lv_iload S.1 S.2.1 d_M_reckonAll_214 (lv_at hl 1 rfl) ?_
                  refine fk_csi S E G (rest := [.ref (fk_a g 89)]) (c_M_reckon l g ov Md (bf i) (by omega) (by omega) px py pz) m_M_reckon i_831 ⟨rfl, rfl⟩ ⟨by decide, by decide⟩ rfl rfl hl.1 (Nat.le_of_ble_eq_true rfl) d_M_reckonAll_216 ⟨Nat.zero_le _, Nat.zero_le _⟩ (fun H locs G => ?_)
                  have hE : fk_rvl (M 94) (M 103) (M 105) (bf i) (40 * f + i) (bf (i + 1)) px py pz = fk_rk (bf i) px py pz := by
                    unfold fk_rvl
                    rw [if_neg (by omega), if_neg (by omega), if_neg (by omega), if_pos (by omega)]
                  rw [hE] at hv2
                  refine fk_cvv S E G 89 (by decide) (congrArg (fk_ce g ov 89 (Md 89)) kd_89) rfl (rest := []) (c_M_push l g ov Md u hz0.2.2.1 (by omega) (fk_rk (bf i) px py pz)) m_M_push i_749 ⟨rfl, rfl⟩ ⟨by decide, by decide⟩ rfl rfl hl.1 (Nat.le_of_ble_eq_true rfl) d_M_reckonAll_219 ⟨Nat.zero_le _, Nat.zero_le _⟩ (fun H locs G => ?_)
                  refine lv_goto (tgt := 298) S.1 S.2.1 d_M_reckonAll_222 rfl ?_
                  refine lv_iinc (k := 6) (v := nI d - 1) (lv' := [(2, .int (nI d - 1)), (9, .int nv), (8, .int pz), (7, .int py), (6, .int px), (4, .int (nI (bf i))), (3, .int (nI (40 * f + i))), (0, .ref (fk_a g 89)), (1, .int (nI f))]) S.1 S.2.1 d_M_reckonAll_298 hl rfl (fk_dec _) (by decide) rfl (fun ls hl => ?_)
                  refine lv_goto (tgt := 14) S.1 S.2.1 d_M_reckonAll_301 rfl ?_
                  exact ih _ (if bf i = 14 then upd X (40 * f + i) px else X) _ H locs ls (by omega) (by rw [hu]; exact hz0.push (show (104 : Nat) ≠ 89 ∧ (104 : Nat) ≠ 109 by decide) _) hv2 G (lv_sub hl [0, 7, 8] rfl)
              · have hE : fk_rvl (M 94) (M 103) (M 105) (bf i) (40 * f + i) (bf (i + 1)) px py pz = nv := by
                  unfold fk_rvl
                  rw [if_neg (by omega), if_neg (by omega), if_pos (by omega), hnv, if_pos (Or.inl hc6)]
                rw [hE] at hv2
                refine lv_aload_n S.1 S.2.1 d_M_reckonAll_191 rfl (lv_at hl 7 rfl) ?_
                refine lv_iload S.1 S.2.1 d_M_reckonAll_192 (lv_at hl 0 rfl) ?_
                refine fk_cvv S E G 89 (by decide) (congrArg (fk_ce g ov 89 (Md 89)) kd_89) rfl (rest := []) (c_M_push l g ov Md u hz0.2.2.1 (by omega) (nv)) m_M_push i_749 ⟨rfl, rfl⟩ ⟨by decide, by decide⟩ rfl rfl hl.1 (Nat.le_of_ble_eq_true rfl) d_M_reckonAll_194 ⟨Nat.zero_le _, Nat.zero_le _⟩ (fun H locs G => ?_)
                refine lv_goto (tgt := 298) S.1 S.2.1 d_M_reckonAll_197 rfl ?_
                refine lv_iinc (k := 6) (v := nI d - 1) (lv' := [(2, .int (nI d - 1)), (9, .int nv), (8, .int pz), (7, .int py), (6, .int px), (4, .int (nI (bf i))), (3, .int (nI (40 * f + i))), (0, .ref (fk_a g 89)), (1, .int (nI f))]) S.1 S.2.1 d_M_reckonAll_298 hl rfl (fk_dec _) (by decide) rfl (fun ls hl => ?_)
                refine lv_goto (tgt := 14) S.1 S.2.1 d_M_reckonAll_301 rfl ?_
                exact ih _ (if bf i = 14 then upd X (40 * f + i) px else X) _ H locs ls (by omega) (by rw [hu]; exact hz0.push (show (104 : Nat) ≠ 89 ∧ (104 : Nat) ≠ 109 by decide) _) hv2 G (lv_sub hl [0, 7, 8] rfl)
            · have hE : fk_rvl (M 94) (M 103) (M 105) (bf i) (40 * f + i) (bf (i + 1)) px py pz = nI (2 - bf i) := by
                unfold fk_rvl
                rw [if_neg (by omega), if_pos (by omega)]
              rw [hE] at hv2
              refine lv_aload_n S.1 S.2.1 d_M_reckonAll_174 rfl (lv_at hl 7 rfl) ?_
              refine lv_iconst (v := nI 2) S.1 S.2.1 d_M_reckonAll_175 (by decide +kernel) ?_
              refine lv_iload S.1 S.2.1 d_M_reckonAll_176 (lv_at hl 4 rfl) ?_
              refine fk_isub S.1 S.2.1 (by omega) d_M_reckonAll_178 ?_
              refine fk_cvv S E G 89 (by decide) (congrArg (fk_ce g ov 89 (Md 89)) kd_89) rfl (rest := []) (c_M_push l g ov Md u hz0.2.2.1 (by omega) (nI (2 - bf i))) m_M_push i_749 ⟨rfl, rfl⟩ ⟨by decide, by decide⟩ rfl rfl hl.1 (Nat.le_of_ble_eq_true rfl) d_M_reckonAll_179 ⟨Nat.zero_le _, Nat.zero_le _⟩ (fun H locs G => ?_)
              refine lv_goto (tgt := 298) S.1 S.2.1 d_M_reckonAll_182 rfl ?_
              refine lv_iinc (k := 6) (v := nI d - 1) (lv' := [(2, .int (nI d - 1)), (9, .int nv), (8, .int pz), (7, .int py), (6, .int px), (4, .int (nI (bf i))), (3, .int (nI (40 * f + i))), (0, .ref (fk_a g 89)), (1, .int (nI f))]) S.1 S.2.1 d_M_reckonAll_298 hl rfl (fk_dec _) (by decide) rfl (fun ls hl => ?_)
              refine lv_goto (tgt := 14) S.1 S.2.1 d_M_reckonAll_301 rfl ?_
              exact ih _ (if bf i = 14 then upd X (40 * f + i) px else X) _ H locs ls (by omega) (by rw [hu]; exact hz0.push (show (104 : Nat) ≠ 89 ∧ (104 : Nat) ≠ 109 by decide) _) hv2 G (lv_sub hl [0, 7, 8] rfl)
          · have hd2 : fk_hd (bf i) = 2 := by
              unfold fk_hd
              rw [if_pos (by omega)]
            refine lv_aload_n S.1 S.2.1 d_M_reckonAll_149 rfl (lv_at hl 7 rfl) ?_
            refine lv_aload_n S.1 S.2.1 d_M_reckonAll_150 rfl (lv_at hl 7 rfl) ?_
            refine fk_gf S E G 89 (by decide) (v := .ref (fk_a g 100)) (congrArg (fk_ce g ov 89 (Md 89)) kd_89) rfl 12 (by decide) rfl i_634 rfl d_M_reckonAll_151 ?_
            refine lv_iload_n S.1 S.2.1 d_M_reckonAll_154 rfl (lv_at hl 5 rfl) ?_
            refine lv_iconst (v := nI 1) S.1 S.2.1 d_M_reckonAll_155 (by decide +kernel) ?_
            refine fk_iadd S.1 S.2.1 d_M_reckonAll_156 ?_
            refine fk_ia S E G 100 (by decide) (congrArg (fk_ce g ov 100 (Md 100)) kd_100) (40 * f + (i + 1)) rfl (by omega) (by decide) (v := nI (bf (i + 1))) (by rw [wc100]; exact hby (i + 1) (by omega)) d_M_reckonAll_157 ?_
            refine lv_sipush (v := nI 128) S.1 S.2.1 d_M_reckonAll_158 (by decide +kernel) ?_
            have hE : fk_rvl (M 94) (M 103) (M 105) (bf i) (40 * f + i) (bf (i + 1)) px py pz = nI (bf (i + 1)) - nI 128 := by
              unfold fk_rvl
              rw [if_pos (by omega)]
            rw [hE] at hv2
            refine lv_isub S.1 S.2.1 d_M_reckonAll_161 ?_
            refine fk_cvv S E G 89 (by decide) (congrArg (fk_ce g ov 89 (Md 89)) kd_89) rfl (rest := []) (c_M_push l g ov Md u hz0.2.2.1 (by omega) (nI (bf (i + 1)) - nI 128)) m_M_push i_749 ⟨rfl, rfl⟩ ⟨by decide, by decide⟩ rfl rfl hl.1 (Nat.le_of_ble_eq_true rfl) d_M_reckonAll_162 ⟨Nat.zero_le _, Nat.zero_le _⟩ (fun H locs G => ?_)
            refine lv_goto (tgt := 298) S.1 S.2.1 d_M_reckonAll_165 rfl ?_
            refine lv_iinc (k := 6) (v := nI d - 1) (lv' := [(2, .int (nI d - 1)), (9, .int nv), (8, .int pz), (7, .int py), (6, .int px), (4, .int (nI (bf i))), (3, .int (nI (40 * f + i))), (0, .ref (fk_a g 89)), (1, .int (nI f))]) S.1 S.2.1 d_M_reckonAll_298 hl rfl (fk_dec _) (by decide) rfl (fun ls hl => ?_)
            refine lv_goto (tgt := 14) S.1 S.2.1 d_M_reckonAll_301 rfl ?_
            exact ih _ (if bf i = 14 then upd X (40 * f + i) px else X) _ H locs ls (by omega) (by rw [hu]; exact hz0.push (show (104 : Nat) ≠ 89 ∧ (104 : Nat) ≠ 109 by decide) _) hv2 G (lv_sub hl [0, 7, 8] rfl)
        have j112 : ∀ (Md : fk_M) (H : Heap) (locs : List Loc) (ls : Array Slot), fk_C3 104 M Md S9 u (M 89 30) (if bf i = 14 then upd X (40 * f + i) px else X) → fk_H g ov (Md) s H locs → lv_has ls 10 [(8, .int pz), (7, .int py), (6, .int px), (4, .int (nI (bf i))), (3, .int (nI (40 * f + i))), (2, .int (nI d)), (0, .ref (fk_a g 89)), (1, .int (nI f))] → W p l e (fk_rm (2)) s m args below meth c H locs 0 0 (MQ below (va_Qi (fun rr (_ : Unit) => rr = (fk_ra bf sp sl f (M 94) (M 103) (M 105) P (M 109) (M 104)).1 0) (fun _ t9 => fk_Wd g ov (fk_w3 104 M (fk_ra bf sp sl f (M 94) (M 103) (M 105) P (M 109) (M 104)).1 0 (M 89 30) (fk_ra bf sp sl f (M 94) (M 103) (M 105) P (M 109) (M 104)).2) t9) (fk_A g)) args s 0 0 (fk_A g)) (F0 m 112 ls []) := by
          intro Md H locs ls hv0 G hl
          have hz0 := hv0
          obtain ⟨w1, w2, w3, w4, w5, w6⟩ := id hz0
          have wc90 : Md 90 = M 90 := w6 90 (by decide) (by decide) (by decide)
          have wc91 : Md 91 = M 91 := w6 91 (by decide) (by decide) (by decide)
          have wc92 : Md 92 = M 92 := w6 92 (by decide) (by decide) (by decide)
          have wc94 : Md 94 = M 94 := w6 94 (by decide) (by decide) (by decide)
          have wc99 : Md 99 = M 99 := w6 99 (by decide) (by decide) (by decide)
          have wc100 : Md 100 = M 100 := w6 100 (by decide) (by decide) (by decide)
          have wc101 : Md 101 = M 101 := w6 101 (by decide) (by decide) (by decide)
          have wc103 : Md 103 = M 103 := w6 103 (by decide) (by decide) (by decide)
          have wc105 : Md 105 = M 105 := w6 105 (by decide) (by decide) (by decide)
          refine lv_iload S.1 S.2.1 d_M_reckonAll_112 (lv_at hl 3 rfl) ?_
          refine lv_iconst (v := nI 3) S.1 S.2.1 d_M_reckonAll_114 (by decide +kernel) ?_
          refine fk_ceq (tgt := 125) S.1 S.2.1 (by omega) (by omega) d_M_reckonAll_115 rfl (fun hc13 => ?_) (fun hc13 => ?_)
          · have hw1 := hok.2.2.2 (by omega)
            have hd2 := fk_hd2 (k := bf i) (by omega)
            refine lv_aload_n S.1 S.2.1 d_M_reckonAll_125 rfl (lv_at hl 6 rfl) ?_
            refine fk_gf S E G 89 (by decide) (v := .ref (fk_a g 94)) (congrArg (fk_ce g ov 89 (Md 89)) kd_89) rfl 6 (by decide) rfl i_628 rfl d_M_reckonAll_126 ?_
            refine lv_aload_n S.1 S.2.1 d_M_reckonAll_129 rfl (lv_at hl 6 rfl) ?_
            refine fk_gf S E G 89 (by decide) (v := .ref (fk_a g 100)) (congrArg (fk_ce g ov 89 (Md 89)) kd_89) rfl 12 (by decide) rfl i_634 rfl d_M_reckonAll_130 ?_
            refine lv_iload_n S.1 S.2.1 d_M_reckonAll_133 rfl (lv_at hl 4 rfl) ?_
            refine lv_iconst (v := nI 1) S.1 S.2.1 d_M_reckonAll_134 (by decide +kernel) ?_
            refine fk_iadd S.1 S.2.1 d_M_reckonAll_135 ?_
            refine fk_ia S E G 100 (by decide) (congrArg (fk_ce g ov 100 (Md 100)) kd_100) (40 * f + (i + 1)) rfl (by omega) (by decide) (v := nI (bf (i + 1))) (by rw [wc100]; exact hby (i + 1) (by omega)) d_M_reckonAll_136 ?_
            refine fk_ia S E G 94 (by decide) (congrArg (fk_ce g ov 94 (Md 94)) kd_94) (bf (i + 1)) rfl (by omega) (by decide) (v := M 94 (bf (i + 1))) (by rw [wc94]) d_M_reckonAll_137 ?_
            refine lv_goto (tgt := 142) S.1 S.2.1 d_M_reckonAll_138 rfl ?_
            refine lv_istore (lv' := [(9, .int (M 94 (bf (i + 1)))), (8, .int pz), (7, .int py), (6, .int px), (4, .int (nI (bf i))), (3, .int (nI (40 * f + i))), (2, .int (nI d)), (0, .ref (fk_a g 89)), (1, .int (nI f))]) S.1 S.2.1 d_M_reckonAll_142 hl (by decide) rfl (fun ls hl => ?_)
            exact j144 _ Md H locs ls hz0 (if_pos (by omega)).symm G (lv_sub hl [0, 1, 2, 3, 4, 5, 6, 7, 8] rfl)
          · refine lv_iload S.1 S.2.1 d_M_reckonAll_118 (lv_at hl 3 rfl) ?_
            refine lv_bipush (v := nI 15) S.1 S.2.1 d_M_reckonAll_120 (by decide +kernel) ?_
            refine fk_cle (tgt := 141) S.1 S.2.1 (by omega) (by omega) d_M_reckonAll_122 rfl (fun hc14 => ?_) (fun hc14 => ?_)
            · refine lv_iconst (v := nI 0) S.1 S.2.1 d_M_reckonAll_141 (by decide +kernel) ?_
              refine lv_istore (lv' := [(9, .int (nI 0)), (8, .int pz), (7, .int py), (6, .int px), (4, .int (nI (bf i))), (3, .int (nI (40 * f + i))), (2, .int (nI d)), (0, .ref (fk_a g 89)), (1, .int (nI f))]) S.1 S.2.1 d_M_reckonAll_142 hl (by decide) rfl (fun ls hl => ?_)
              exact j144 _ Md H locs ls hz0 (if_neg (by omega)).symm G (lv_sub hl [0, 1, 2, 3, 4, 5, 6, 7, 8] rfl)
            · have hw1 := hok.2.2.2 (by omega)
              have hd2 := fk_hd2 (k := bf i) (by omega)
              refine lv_aload_n S.1 S.2.1 d_M_reckonAll_125 rfl (lv_at hl 6 rfl) ?_
              refine fk_gf S E G 89 (by decide) (v := .ref (fk_a g 94)) (congrArg (fk_ce g ov 89 (Md 89)) kd_89) rfl 6 (by decide) rfl i_628 rfl d_M_reckonAll_126 ?_
              refine lv_aload_n S.1 S.2.1 d_M_reckonAll_129 rfl (lv_at hl 6 rfl) ?_
              refine fk_gf S E G 89 (by decide) (v := .ref (fk_a g 100)) (congrArg (fk_ce g ov 89 (Md 89)) kd_89) rfl 12 (by decide) rfl i_634 rfl d_M_reckonAll_130 ?_
              refine lv_iload_n S.1 S.2.1 d_M_reckonAll_133 rfl (lv_at hl 4 rfl) ?_
              refine lv_iconst (v := nI 1) S.1 S.2.1 d_M_reckonAll_134 (by decide +kernel) ?_
              refine fk_iadd S.1 S.2.1 d_M_reckonAll_135 ?_
              refine fk_ia S E G 100 (by decide) (congrArg (fk_ce g ov 100 (Md 100)) kd_100) (40 * f + (i + 1)) rfl (by omega) (by decide) (v := nI (bf (i + 1))) (by rw [wc100]; exact hby (i + 1) (by omega)) d_M_reckonAll_136 ?_
              refine fk_ia S E G 94 (by decide) (congrArg (fk_ce g ov 94 (Md 94)) kd_94) (bf (i + 1)) rfl (by omega) (by decide) (v := M 94 (bf (i + 1))) (by rw [wc94]) d_M_reckonAll_137 ?_
              refine lv_goto (tgt := 142) S.1 S.2.1 d_M_reckonAll_138 rfl ?_
              refine lv_istore (lv' := [(9, .int (M 94 (bf (i + 1)))), (8, .int pz), (7, .int py), (6, .int px), (4, .int (nI (bf i))), (3, .int (nI (40 * f + i))), (2, .int (nI d)), (0, .ref (fk_a g 89)), (1, .int (nI f))]) S.1 S.2.1 d_M_reckonAll_142 hl (by decide) rfl (fun ls hl => ?_)
              exact j144 _ Md H locs ls hz0 (if_pos (by omega)).symm G (lv_sub hl [0, 1, 2, 3, 4, 5, 6, 7, 8] rfl)
        have j97 : ∀ (Md : fk_M) (H : Heap) (locs : List Loc) (ls : Array Slot), fk_C3 104 M Md S9 u (M 89 30) X → fk_H g ov (Md) s H locs → lv_has ls 10 [(8, .int pz), (7, .int py), (6, .int px), (4, .int (nI (bf i))), (3, .int (nI (40 * f + i))), (2, .int (nI d)), (0, .ref (fk_a g 89)), (1, .int (nI f))] → W p l e (fk_rm (2)) s m args below meth c H locs 0 0 (MQ below (va_Qi (fun rr (_ : Unit) => rr = (fk_ra bf sp sl f (M 94) (M 103) (M 105) P (M 109) (M 104)).1 0) (fun _ t9 => fk_Wd g ov (fk_w3 104 M (fk_ra bf sp sl f (M 94) (M 103) (M 105) P (M 109) (M 104)).1 0 (M 89 30) (fk_ra bf sp sl f (M 94) (M 103) (M 105) P (M 109) (M 104)).2) t9) (fk_A g)) args s 0 0 (fk_A g)) (F0 m 97 ls []) := by
          intro Md H locs ls hv0 G hl
          have hz0 := hv0
          refine lv_iload S.1 S.2.1 d_M_reckonAll_97 (lv_at hl 3 rfl) ?_
          refine lv_bipush (v := nI 14) S.1 S.2.1 d_M_reckonAll_99 (by decide +kernel) ?_
          refine fk_cne (tgt := 112) S.1 S.2.1 (by omega) (by omega) d_M_reckonAll_101 rfl (fun hc15 => ?_) (fun hc15 => ?_)
          · have hcn := hz0
            rw [show X = (if bf i = 14 then upd X (40 * f + i) px else X) from (if_neg hc15).symm] at hcn
            exact j112 Md H locs ls hcn G (lv_sub hl [0, 1, 2, 3, 4, 5, 6, 7] rfl)
          · refine lv_aload_n S.1 S.2.1 d_M_reckonAll_104 rfl (lv_at hl 6 rfl) ?_
            refine fk_gf S E G 89 (by decide) (v := .ref (fk_a g 104)) (congrArg (fk_ce g ov 89 (Md 89)) kd_89) rfl 16 (by decide) rfl i_638 rfl d_M_reckonAll_105 ?_
            refine lv_iload_n S.1 S.2.1 d_M_reckonAll_108 rfl (lv_at hl 4 rfl) ?_
            refine lv_iload S.1 S.2.1 d_M_reckonAll_109 (lv_at hl 2 rfl) ?_
            refine fk_is S E G 104 (by decide) (fun r => congrArg (fk_ce g ov 104 r) kd_104) (40 * f + i) rfl (by omega) (by decide) d_M_reckonAll_111 (fun H locs G => ?_)
            obtain ⟨M16, hM16⟩ : ∃ z : fk_M, z = va_up Md 104 (upd (Md 104) (40 * f + i) px) := ⟨_, rfl⟩
            rw [← hM16] at G
            have hcn := hz0.cell (show (104 : Nat) ≠ 89 ∧ (104 : Nat) ≠ 109 by decide) (40 * f + i) px
            rw [← hM16] at hcn
            rw [show upd X (40 * f + i) px = (if bf i = 14 then upd X (40 * f + i) px else X) from (if_pos hc15).symm] at hcn
            exact j112 M16 H locs ls hcn G (lv_sub hl [0, 1, 2, 3, 4, 5, 6, 7] rfl)
        rcases (show fk_ar (bf i) = 0 ∨ fk_ar (bf i) = 1 ∨ fk_ar (bf i) = 2 ∨ fk_ar (bf i) = 3 by omega) with hA | hA | hA | hA
        · have ht : sl (d + 1) = u + 0 := by omega
          rw [ht] at hv1 hpx hpy hpz
          refine lv_iload S.1 S.2.1 d_M_reckonAll_50 (lv_at hl 0 rfl) ?_
          refine fk_zle (tgt := 62) S.1 S.2.1 (by omega) d_M_reckonAll_52 rfl (fun hc17 => ?_) (fun hc17 => ?_)
          · have hE0 : px = nI 0 := by
              rw [hpx]
              unfold fk_px
              rw [if_neg (by omega)]
            refine lv_iconst (v := nI 0) S.1 S.2.1 d_M_reckonAll_62 (by decide +kernel) ?_
            refine lv_istore (lv' := [(6, .int (nI 0)), (5, .int (nI (fk_ar (bf i)))), (4, .int (nI (bf i))), (3, .int (nI ((40 * f) + i))), (2, .int (nI d)), (0, .ref (fk_a g 89)), (1, .int (nI f))]) S.1 S.2.1 d_M_reckonAll_63 hl (by decide) rfl (fun ls hl => ?_)
            refine lv_iload S.1 S.2.1 d_M_reckonAll_65 (lv_at hl 1 rfl) ?_
            refine lv_iconst (v := nI 1) S.1 S.2.1 d_M_reckonAll_67 (by decide +kernel) ?_
            refine fk_cle (tgt := 78) S.1 S.2.1 (by omega) (by omega) d_M_reckonAll_68 rfl (fun hc18 => ?_) (fun hc18 => ?_)
            · have hE1 : py = nI 0 := by
                rw [hpy]
                unfold fk_px
                rw [if_neg (by omega)]
              refine lv_iconst (v := nI 0) S.1 S.2.1 d_M_reckonAll_78 (by decide +kernel) ?_
              refine lv_istore (lv' := [(7, .int (nI 0)), (6, .int (nI 0)), (5, .int (nI (fk_ar (bf i)))), (4, .int (nI (bf i))), (3, .int (nI ((40 * f) + i))), (2, .int (nI d)), (0, .ref (fk_a g 89)), (1, .int (nI f))]) S.1 S.2.1 d_M_reckonAll_79 hl (by decide) rfl (fun ls hl => ?_)
              refine lv_iload S.1 S.2.1 d_M_reckonAll_81 (lv_at hl 2 rfl) ?_
              refine lv_iconst (v := nI 2) S.1 S.2.1 d_M_reckonAll_83 (by decide +kernel) ?_
              refine fk_cle (tgt := 94) S.1 S.2.1 (by omega) (by omega) d_M_reckonAll_84 rfl (fun hc19 => ?_) (fun hc19 => ?_)
              · have hE2 : pz = nI 0 := by
                  rw [hpz]
                  unfold fk_px
                  rw [if_neg (by omega)]
                refine lv_iconst (v := nI 0) S.1 S.2.1 d_M_reckonAll_94 (by decide +kernel) ?_
                refine lv_istore (lv' := [(8, .int (nI 0)), (7, .int (nI 0)), (6, .int (nI 0)), (5, .int (nI (fk_ar (bf i)))), (4, .int (nI (bf i))), (3, .int (nI ((40 * f) + i))), (2, .int (nI d)), (0, .ref (fk_a g 89)), (1, .int (nI f))]) S.1 S.2.1 d_M_reckonAll_95 hl (by decide) rfl (fun ls hl => ?_)
                exact j97 Mc _ _ ls hv1 G (lv_sub hl [0, 1, 2, 4, 5, 6, 7, 8] (by rw [hE0, hE1, hE2] <;> rfl))
              · exact absurd hA (by omega)
            · exact absurd hA (by omega)
          · exact absurd hA (by omega)
        · have ht : sl (d + 1) = u + 1 := by omega
          rw [ht] at hv1 hpx hpy hpz
          refine lv_iload S.1 S.2.1 d_M_reckonAll_50 (lv_at hl 0 rfl) ?_
          refine fk_zle (tgt := 62) S.1 S.2.1 (by omega) d_M_reckonAll_52 rfl (fun hc20 => ?_) (fun hc20 => ?_)
          · exact absurd hA (by omega)
          · refine lv_aload_n S.1 S.2.1 d_M_reckonAll_55 rfl (lv_at hl 4 rfl) ?_
            obtain ⟨k01, k02, k03, k04, k05, k06⟩ := id hv1
            refine fk_cvi S E G 89 (by decide) (congrArg (fk_ce g ov 89 (Mc 89)) kd_89) rfl (rest := []) (show fk_CI _ _ _ _ _ _ _ _ _ _ _ (S9 u) from by have h9 := c_M_pop l g ov Mc u k03 (by omega); rw [k01] at h9; exact h9) m_M_pop i_753 ⟨rfl, rfl⟩ ⟨by decide, by decide⟩ rfl rfl hl.1 (Nat.le_of_ble_eq_true rfl) d_M_reckonAll_56 ⟨Nat.zero_le _, Nat.zero_le _⟩ (fun H locs G => ?_)
            obtain ⟨Mq0, hMq0⟩ : ∃ z : fk_M, z = fk_po Mc u := ⟨_, rfl⟩
            rw [← hMq0] at G
            have hq0 : fk_C3 104 M Mq0 S9 u (M 89 30) X := by rw [hMq0]; exact fk_C3.pop (show (104 : Nat) ≠ 89 ∧ (104 : Nat) ≠ 109 by decide) hv1
            have hE0 : px = S9 u := by
              rw [hpx]
              unfold fk_px
              rw [if_pos (by omega)]
              exact congrArg S9 (by omega)
            refine lv_goto (tgt := 63) S.1 S.2.1 d_M_reckonAll_59 rfl ?_
            refine lv_istore (lv' := [(6, .int (S9 u)), (5, .int (nI (fk_ar (bf i)))), (4, .int (nI (bf i))), (3, .int (nI ((40 * f) + i))), (2, .int (nI d)), (0, .ref (fk_a g 89)), (1, .int (nI f))]) S.1 S.2.1 d_M_reckonAll_63 hl (by decide) rfl (fun ls hl => ?_)
            refine lv_iload S.1 S.2.1 d_M_reckonAll_65 (lv_at hl 1 rfl) ?_
            refine lv_iconst (v := nI 1) S.1 S.2.1 d_M_reckonAll_67 (by decide +kernel) ?_
            refine fk_cle (tgt := 78) S.1 S.2.1 (by omega) (by omega) d_M_reckonAll_68 rfl (fun hc21 => ?_) (fun hc21 => ?_)
            · have hE1 : py = nI 0 := by
                rw [hpy]
                unfold fk_px
                rw [if_neg (by omega)]
              refine lv_iconst (v := nI 0) S.1 S.2.1 d_M_reckonAll_78 (by decide +kernel) ?_
              refine lv_istore (lv' := [(7, .int (nI 0)), (6, .int (S9 u)), (5, .int (nI (fk_ar (bf i)))), (4, .int (nI (bf i))), (3, .int (nI ((40 * f) + i))), (2, .int (nI d)), (0, .ref (fk_a g 89)), (1, .int (nI f))]) S.1 S.2.1 d_M_reckonAll_79 hl (by decide) rfl (fun ls hl => ?_)
              refine lv_iload S.1 S.2.1 d_M_reckonAll_81 (lv_at hl 2 rfl) ?_
              refine lv_iconst (v := nI 2) S.1 S.2.1 d_M_reckonAll_83 (by decide +kernel) ?_
              refine fk_cle (tgt := 94) S.1 S.2.1 (by omega) (by omega) d_M_reckonAll_84 rfl (fun hc22 => ?_) (fun hc22 => ?_)
              · have hE2 : pz = nI 0 := by
                  rw [hpz]
                  unfold fk_px
                  rw [if_neg (by omega)]
                refine lv_iconst (v := nI 0) S.1 S.2.1 d_M_reckonAll_94 (by decide +kernel) ?_
                refine lv_istore (lv' := [(8, .int (nI 0)), (7, .int (nI 0)), (6, .int (S9 u)), (5, .int (nI (fk_ar (bf i)))), (4, .int (nI (bf i))), (3, .int (nI ((40 * f) + i))), (2, .int (nI d)), (0, .ref (fk_a g 89)), (1, .int (nI f))]) S.1 S.2.1 d_M_reckonAll_95 hl (by decide) rfl (fun ls hl => ?_)
                exact j97 Mq0 H locs ls hq0 G (lv_sub hl [0, 1, 2, 4, 5, 6, 7, 8] (by rw [hE0, hE1, hE2] <;> rfl))
              · exact absurd hA (by omega)
            · exact absurd hA (by omega)
        · have ht : sl (d + 1) = u + 2 := by omega
          rw [ht] at hv1 hpx hpy hpz
          refine lv_iload S.1 S.2.1 d_M_reckonAll_50 (lv_at hl 0 rfl) ?_
          refine fk_zle (tgt := 62) S.1 S.2.1 (by omega) d_M_reckonAll_52 rfl (fun hc23 => ?_) (fun hc23 => ?_)
          · exact absurd hA (by omega)
          · refine lv_aload_n S.1 S.2.1 d_M_reckonAll_55 rfl (lv_at hl 4 rfl) ?_
            obtain ⟨k01, k02, k03, k04, k05, k06⟩ := id hv1
            refine fk_cvi S E G 89 (by decide) (congrArg (fk_ce g ov 89 (Mc 89)) kd_89) rfl (rest := []) (show fk_CI _ _ _ _ _ _ _ _ _ _ _ (S9 (u + 1)) from by have h9 := c_M_pop l g ov Mc (u + 1) k03 (by omega); rw [k01] at h9; exact h9) m_M_pop i_753 ⟨rfl, rfl⟩ ⟨by decide, by decide⟩ rfl rfl hl.1 (Nat.le_of_ble_eq_true rfl) d_M_reckonAll_56 ⟨Nat.zero_le _, Nat.zero_le _⟩ (fun H locs G => ?_)
            obtain ⟨Mq0, hMq0⟩ : ∃ z : fk_M, z = fk_po Mc (u + 1) := ⟨_, rfl⟩
            rw [← hMq0] at G
            have hq0 : fk_C3 104 M Mq0 S9 (u + 1) (M 89 30) X := by rw [hMq0]; exact fk_C3.pop (show (104 : Nat) ≠ 89 ∧ (104 : Nat) ≠ 109 by decide) hv1
            have hE0 : px = S9 (u + 1) := by
              rw [hpx]
              unfold fk_px
              rw [if_pos (by omega)]
              exact congrArg S9 (by omega)
            refine lv_goto (tgt := 63) S.1 S.2.1 d_M_reckonAll_59 rfl ?_
            refine lv_istore (lv' := [(6, .int (S9 (u + 1))), (5, .int (nI (fk_ar (bf i)))), (4, .int (nI (bf i))), (3, .int (nI ((40 * f) + i))), (2, .int (nI d)), (0, .ref (fk_a g 89)), (1, .int (nI f))]) S.1 S.2.1 d_M_reckonAll_63 hl (by decide) rfl (fun ls hl => ?_)
            refine lv_iload S.1 S.2.1 d_M_reckonAll_65 (lv_at hl 1 rfl) ?_
            refine lv_iconst (v := nI 1) S.1 S.2.1 d_M_reckonAll_67 (by decide +kernel) ?_
            refine fk_cle (tgt := 78) S.1 S.2.1 (by omega) (by omega) d_M_reckonAll_68 rfl (fun hc24 => ?_) (fun hc24 => ?_)
            · exact absurd hA (by omega)
            · refine lv_aload_n S.1 S.2.1 d_M_reckonAll_71 rfl (lv_at hl 5 rfl) ?_
              obtain ⟨k11, k12, k13, k14, k15, k16⟩ := id hq0
              refine fk_cvi S E G 89 (by decide) (congrArg (fk_ce g ov 89 (Mq0 89)) kd_89) rfl (rest := []) (show fk_CI _ _ _ _ _ _ _ _ _ _ _ (S9 u) from by have h9 := c_M_pop l g ov Mq0 u k13 (by omega); rw [k11] at h9; exact h9) m_M_pop i_753 ⟨rfl, rfl⟩ ⟨by decide, by decide⟩ rfl rfl hl.1 (Nat.le_of_ble_eq_true rfl) d_M_reckonAll_72 ⟨Nat.zero_le _, Nat.zero_le _⟩ (fun H locs G => ?_)
              obtain ⟨Mq1, hMq1⟩ : ∃ z : fk_M, z = fk_po Mq0 u := ⟨_, rfl⟩
              rw [← hMq1] at G
              have hq1 : fk_C3 104 M Mq1 S9 u (M 89 30) X := by rw [hMq1]; exact fk_C3.pop (show (104 : Nat) ≠ 89 ∧ (104 : Nat) ≠ 109 by decide) hq0
              have hE1 : py = S9 u := by
                rw [hpy]
                unfold fk_px
                rw [if_pos (by omega)]
                exact congrArg S9 (by omega)
              refine lv_goto (tgt := 79) S.1 S.2.1 d_M_reckonAll_75 rfl ?_
              refine lv_istore (lv' := [(7, .int (S9 u)), (6, .int (S9 (u + 1))), (5, .int (nI (fk_ar (bf i)))), (4, .int (nI (bf i))), (3, .int (nI ((40 * f) + i))), (2, .int (nI d)), (0, .ref (fk_a g 89)), (1, .int (nI f))]) S.1 S.2.1 d_M_reckonAll_79 hl (by decide) rfl (fun ls hl => ?_)
              refine lv_iload S.1 S.2.1 d_M_reckonAll_81 (lv_at hl 2 rfl) ?_
              refine lv_iconst (v := nI 2) S.1 S.2.1 d_M_reckonAll_83 (by decide +kernel) ?_
              refine fk_cle (tgt := 94) S.1 S.2.1 (by omega) (by omega) d_M_reckonAll_84 rfl (fun hc25 => ?_) (fun hc25 => ?_)
              · have hE2 : pz = nI 0 := by
                  rw [hpz]
                  unfold fk_px
                  rw [if_neg (by omega)]
                refine lv_iconst (v := nI 0) S.1 S.2.1 d_M_reckonAll_94 (by decide +kernel) ?_
                refine lv_istore (lv' := [(8, .int (nI 0)), (7, .int (S9 u)), (6, .int (S9 (u + 1))), (5, .int (nI (fk_ar (bf i)))), (4, .int (nI (bf i))), (3, .int (nI ((40 * f) + i))), (2, .int (nI d)), (0, .ref (fk_a g 89)), (1, .int (nI f))]) S.1 S.2.1 d_M_reckonAll_95 hl (by decide) rfl (fun ls hl => ?_)
                exact j97 Mq1 H locs ls hq1 G (lv_sub hl [0, 1, 2, 4, 5, 6, 7, 8] (by rw [hE0, hE1, hE2] <;> rfl))
              · exact absurd hA (by omega)
        · have ht : sl (d + 1) = u + 3 := by omega
          rw [ht] at hv1 hpx hpy hpz
          refine lv_iload S.1 S.2.1 d_M_reckonAll_50 (lv_at hl 0 rfl) ?_
          refine fk_zle (tgt := 62) S.1 S.2.1 (by omega) d_M_reckonAll_52 rfl (fun hc26 => ?_) (fun hc26 => ?_)
          · exact absurd hA (by omega)
          · refine lv_aload_n S.1 S.2.1 d_M_reckonAll_55 rfl (lv_at hl 4 rfl) ?_
            obtain ⟨k01, k02, k03, k04, k05, k06⟩ := id hv1
            refine fk_cvi S E G 89 (by decide) (congrArg (fk_ce g ov 89 (Mc 89)) kd_89) rfl (rest := []) (show fk_CI _ _ _ _ _ _ _ _ _ _ _ (S9 (u + 2)) from by have h9 := c_M_pop l g ov Mc (u + 2) k03 (by omega); rw [k01] at h9; exact h9) m_M_pop i_753 ⟨rfl, rfl⟩ ⟨by decide, by decide⟩ rfl rfl hl.1 (Nat.le_of_ble_eq_true rfl) d_M_reckonAll_56 ⟨Nat.zero_le _, Nat.zero_le _⟩ (fun H locs G => ?_)
            obtain ⟨Mq0, hMq0⟩ : ∃ z : fk_M, z = fk_po Mc (u + 2) := ⟨_, rfl⟩
            rw [← hMq0] at G
            have hq0 : fk_C3 104 M Mq0 S9 (u + 2) (M 89 30) X := by rw [hMq0]; exact fk_C3.pop (show (104 : Nat) ≠ 89 ∧ (104 : Nat) ≠ 109 by decide) hv1
            have hE0 : px = S9 (u + 2) := by
              rw [hpx]
              unfold fk_px
              rw [if_pos (by omega)]
              exact congrArg S9 (by omega)
            refine lv_goto (tgt := 63) S.1 S.2.1 d_M_reckonAll_59 rfl ?_
            refine lv_istore (lv' := [(6, .int (S9 (u + 2))), (5, .int (nI (fk_ar (bf i)))), (4, .int (nI (bf i))), (3, .int (nI ((40 * f) + i))), (2, .int (nI d)), (0, .ref (fk_a g 89)), (1, .int (nI f))]) S.1 S.2.1 d_M_reckonAll_63 hl (by decide) rfl (fun ls hl => ?_)
            refine lv_iload S.1 S.2.1 d_M_reckonAll_65 (lv_at hl 1 rfl) ?_
            refine lv_iconst (v := nI 1) S.1 S.2.1 d_M_reckonAll_67 (by decide +kernel) ?_
            refine fk_cle (tgt := 78) S.1 S.2.1 (by omega) (by omega) d_M_reckonAll_68 rfl (fun hc27 => ?_) (fun hc27 => ?_)
            · exact absurd hA (by omega)
            · refine lv_aload_n S.1 S.2.1 d_M_reckonAll_71 rfl (lv_at hl 5 rfl) ?_
              obtain ⟨k11, k12, k13, k14, k15, k16⟩ := id hq0
              refine fk_cvi S E G 89 (by decide) (congrArg (fk_ce g ov 89 (Mq0 89)) kd_89) rfl (rest := []) (show fk_CI _ _ _ _ _ _ _ _ _ _ _ (S9 (u + 1)) from by have h9 := c_M_pop l g ov Mq0 (u + 1) k13 (by omega); rw [k11] at h9; exact h9) m_M_pop i_753 ⟨rfl, rfl⟩ ⟨by decide, by decide⟩ rfl rfl hl.1 (Nat.le_of_ble_eq_true rfl) d_M_reckonAll_72 ⟨Nat.zero_le _, Nat.zero_le _⟩ (fun H locs G => ?_)
              obtain ⟨Mq1, hMq1⟩ : ∃ z : fk_M, z = fk_po Mq0 (u + 1) := ⟨_, rfl⟩
              rw [← hMq1] at G
              have hq1 : fk_C3 104 M Mq1 S9 (u + 1) (M 89 30) X := by rw [hMq1]; exact fk_C3.pop (show (104 : Nat) ≠ 89 ∧ (104 : Nat) ≠ 109 by decide) hq0
              have hE1 : py = S9 (u + 1) := by
                rw [hpy]
                unfold fk_px
                rw [if_pos (by omega)]
                exact congrArg S9 (by omega)
              refine lv_goto (tgt := 79) S.1 S.2.1 d_M_reckonAll_75 rfl ?_
              refine lv_istore (lv' := [(7, .int (S9 (u + 1))), (6, .int (S9 (u + 2))), (5, .int (nI (fk_ar (bf i)))), (4, .int (nI (bf i))), (3, .int (nI ((40 * f) + i))), (2, .int (nI d)), (0, .ref (fk_a g 89)), (1, .int (nI f))]) S.1 S.2.1 d_M_reckonAll_79 hl (by decide) rfl (fun ls hl => ?_)
              refine lv_iload S.1 S.2.1 d_M_reckonAll_81 (lv_at hl 2 rfl) ?_
              refine lv_iconst (v := nI 2) S.1 S.2.1 d_M_reckonAll_83 (by decide +kernel) ?_
              refine fk_cle (tgt := 94) S.1 S.2.1 (by omega) (by omega) d_M_reckonAll_84 rfl (fun hc28 => ?_) (fun hc28 => ?_)
              · exact absurd hA (by omega)
              · refine lv_aload_n S.1 S.2.1 d_M_reckonAll_87 rfl (lv_at hl 6 rfl) ?_
                obtain ⟨k21, k22, k23, k24, k25, k26⟩ := id hq1
                refine fk_cvi S E G 89 (by decide) (congrArg (fk_ce g ov 89 (Mq1 89)) kd_89) rfl (rest := []) (show fk_CI _ _ _ _ _ _ _ _ _ _ _ (S9 u) from by have h9 := c_M_pop l g ov Mq1 u k23 (by omega); rw [k21] at h9; exact h9) m_M_pop i_753 ⟨rfl, rfl⟩ ⟨by decide, by decide⟩ rfl rfl hl.1 (Nat.le_of_ble_eq_true rfl) d_M_reckonAll_88 ⟨Nat.zero_le _, Nat.zero_le _⟩ (fun H locs G => ?_)
                obtain ⟨Mq2, hMq2⟩ : ∃ z : fk_M, z = fk_po Mq1 u := ⟨_, rfl⟩
                rw [← hMq2] at G
                have hq2 : fk_C3 104 M Mq2 S9 u (M 89 30) X := by rw [hMq2]; exact fk_C3.pop (show (104 : Nat) ≠ 89 ∧ (104 : Nat) ≠ 109 by decide) hq1
                have hE2 : pz = S9 u := by
                  rw [hpz]
                  unfold fk_px
                  rw [if_pos (by omega)]
                  exact congrArg S9 (by omega)
                refine lv_goto (tgt := 95) S.1 S.2.1 d_M_reckonAll_91 rfl ?_
                refine lv_istore (lv' := [(8, .int (S9 u)), (7, .int (S9 (u + 1))), (6, .int (S9 (u + 2))), (5, .int (nI (fk_ar (bf i)))), (4, .int (nI (bf i))), (3, .int (nI ((40 * f) + i))), (2, .int (nI d)), (0, .ref (fk_a g 89)), (1, .int (nI f))]) S.1 S.2.1 d_M_reckonAll_95 hl (by decide) rfl (fun ls hl => ?_)
                exact j97 Mq2 H locs ls hq2 G (lv_sub hl [0, 1, 2, 4, 5, 6, 7, 8] (by rw [hE0, hE1, hE2] <;> rfl))
  refine lv_aload_n S.1 S.2.1 d_M_reckonAll_5 rfl (lv_at hl 0 rfl) ?_
  refine fk_gf S E G 89 (by decide) (v := .ref (fk_a g 99)) (congrArg (fk_ce g ov 89 (M1 89)) kd_89) rfl 11 (by decide) rfl i_633 rfl d_M_reckonAll_6 ?_
  refine lv_iload_n S.1 S.2.1 d_M_reckonAll_9 rfl (lv_at hl 1 rfl) ?_
  refine fk_ia S E G 99 (by decide) (congrArg (fk_ce g ov 99 (M1 99)) kd_99) f rfl (by omega) (by decide) (v := nI P) (by rw [hc0.2.2.2.2.2 99 (by decide) (by decide) (by decide)]; exact hpt) d_M_reckonAll_10 ?_
  refine lv_iconst (v := nI 1) S.1 S.2.1 d_M_reckonAll_11 (by decide +kernel) ?_
  refine lv_isub S.1 S.2.1 d_M_reckonAll_12 ?_
  refine lv_istore_n (lv' := [(2, .int ((nI P) - (nI 1))), (0, .ref (fk_a g 89)), (1, .int (nI f))]) S.1 S.2.1 d_M_reckonAll_13 rfl hl (by decide) rfl (fun ls hl => ?_)
  exact loop P (M 109) (M 104) _ H locs ls (Nat.le_refl _) (by rw [hslP]; exact hc0) rfl G hl
