/-! The reference: check. Written by wip/gen/s_mod12.py. -/
theorem fk_Rq.row {M M' : fk_M} (h : fk_Rq M M') {w : Nat → Int32} (hw : w 1 = M' 89 1) : fk_Rq M (va_up M' 89 w) := by
  obtain ⟨h1, h2, h3, h4, h5, h6, h7, h8⟩ := h
  refine ⟨by rw [va_up_self, hw]; exact h1, ?_, ?_, ?_, ?_, ?_, ?_, ?_⟩ <;> rw [va_up_ne _ _ (by decide)] <;> assumption
theorem fk_mr_Rq {M M' : fk_M} (h : fk_Rq M M') : fk_Rq M (fk_mr M') := by
  unfold fk_mr fk_m2 fk_m1
  exact ((((fk_Rq.up89 h (t := 22) (by decide) (nI 0)).up (k := 94) (by decide) _).up (k := 95) (by decide) _).up (k := 96) (by decide) _).up (k := 103) (by decide) _ |>.up (k := 105) (by decide) _
theorem fk_ma_Rq {M M' : fk_M} (h : fk_Rq M M') : fk_Rq M (fk_ma M') := fk_mr_Rq (h.row (by rw [pk_un (by decide), pk_un (by decide), pk_un (by decide)]))
theorem fk_th_Rq {M M' : fk_M} (h : fk_Rq M M') (q : Nat) : fk_Rq M (fk_th M' q) := h.up89 (by decide) _
theorem fk_fm_1 {M : fk_M} (P : Nat → Nat) (bb sp sl : Nat → Nat → Nat) {f : Nat} (h : M 91 f = 0) (h2 : M 98 f = 0) : fk_fm P bb sp sl 1 f M 89 30 = nI 0 := by
  unfold fk_fm
  rw [if_pos h]
  show (if fk_fam 1 f M 98 f = 0 then fk_pm (fk_fam 1 f M) (nI 0) else fk_fam 1 f M) 89 30 = nI 0
  rw [if_pos (by rw [(fk_fam_Rq (.refl M) 1 f).2.2.2.2.1]; exact h2)]
  unfold fk_pm
  rw [va_up_self, pk_us]
/-- the first flow that a rule fails, and the memory then -/
def fk_kfl (P : Nat → Nat) (bb sp sl : Nat → Nat → Nat) (rule : Nat) : Nat → Nat → fk_M → Option Nat × fk_M
  | 0, _, M => (none, M)
  | d + 1, f, M => if ¬ fk_fm P bb sp sl rule f M 89 30 < 0 then (some f, fk_fm P bb sp sl rule f M) else fk_kfl P bb sp sl rule d (f + 1) (fk_fm P bb sp sl rule f M)
theorem fk_kfl_S (P : Nat → Nat) (bb sp sl : Nat → Nat → Nat) (rule d f : Nat) (M : fk_M) : fk_kfl P bb sp sl rule (d + 1) f M = if ¬ fk_fm P bb sp sl rule f M 89 30 < 0 then (some f, fk_fm P bb sp sl rule f M) else fk_kfl P bb sp sl rule d (f + 1) (fk_fm P bb sp sl rule f M) := rfl
/-- the reference's check from a rule on -/
def fk_kc (cnt : Nat) (cl : Nat → Nat) (P : Nat → Nat) (bb sp sl : Nat → Nat → Nat) : Nat → Nat → fk_M → Nat × fk_M
  | 0, _, M => (0, fk_am cnt (va_up M 89 (upd (M 89) 23 (nI 1))))
  | d + 1, rule, M => match fk_kfl P bb sp sl rule cnt 0 (if rule = 5 then fk_fw cnt cl P bb sp sl M else M) with
    | (none, M') => fk_kc cnt cl P bb sp sl d (rule + 1) M'
    | (some f, M') => (rule, va_up M' 89 (upd (upd (M' 89) 24 (nI f)) 25 (M' 89 30)))
theorem fk_kc_n {cnt : Nat} {cl : Nat → Nat} (P : Nat → Nat) (bb sp sl : Nat → Nat → Nat) {d rule : Nat} {M M' : fk_M} (h : fk_kfl P bb sp sl rule cnt 0 (if rule = 5 then fk_fw cnt cl P bb sp sl M else M) = (none, M')) : fk_kc cnt cl P bb sp sl (d + 1) rule M = fk_kc cnt cl P bb sp sl d (rule + 1) M' := by
  show (match fk_kfl P bb sp sl rule cnt 0 (if rule = 5 then fk_fw cnt cl P bb sp sl M else M) with | (none, M') => fk_kc cnt cl P bb sp sl d (rule + 1) M' | (some f, M') => (rule, va_up M' 89 (upd (upd (M' 89) 24 (nI f)) 25 (M' 89 30)))) = _
  rw [h]
theorem fk_kc_s {cnt : Nat} {cl : Nat → Nat} (P : Nat → Nat) (bb sp sl : Nat → Nat → Nat) {d rule : Nat} {M M' : fk_M} {f : Nat} (h : fk_kfl P bb sp sl rule cnt 0 (if rule = 5 then fk_fw cnt cl P bb sp sl M else M) = (some f, M')) : fk_kc cnt cl P bb sp sl (d + 1) rule M = (rule, va_up M' 89 (upd (upd (M' 89) 24 (nI f)) 25 (M' 89 30))) := by
  show (match fk_kfl P bb sp sl rule cnt 0 (if rule = 5 then fk_fw cnt cl P bb sp sl M else M) with | (none, M') => fk_kc cnt cl P bb sp sl d (rule + 1) M' | (some f, M') => (rule, va_up M' 89 (upd (upd (M' 89) 24 (nI f)) 25 (M' 89 30)))) = _
  rw [h]
theorem d_M_check_0 : decode b_M_check 0 = .ok (.aload_n 0, 1) := by decide +kernel
theorem d_M_check_1 : decode b_M_check 1 = .ok (.iconst 0, 1) := by decide +kernel
theorem d_M_check_2 : decode b_M_check 2 = .ok (.putfield 78, 3) := by decide +kernel
theorem d_M_check_5 : decode b_M_check 5 = .ok (.aload_n 0, 1) := by decide +kernel
theorem d_M_check_6 : decode b_M_check 6 = .ok (.invokevirtual 101, 3) := by decide +kernel
theorem d_M_check_9 : decode b_M_check 9 = .ok (.iconst 1, 1) := by decide +kernel
theorem d_M_check_10 : decode b_M_check 10 = .ok (.istore_n 1, 1) := by decide +kernel
theorem d_M_check_11 : decode b_M_check 11 = .ok (.iload_n 1, 1) := by decide +kernel
theorem d_M_check_12 : decode b_M_check 12 = .ok (.bipush 6, 2) := by decide +kernel
theorem d_M_check_14 : decode b_M_check 14 = .ok (.if_icmp .ge 58, 3) := by decide +kernel
theorem d_M_check_17 : decode b_M_check 17 = .ok (.iload_n 1, 1) := by decide +kernel
theorem d_M_check_18 : decode b_M_check 18 = .ok (.iconst 5, 1) := by decide +kernel
theorem d_M_check_19 : decode b_M_check 19 = .ok (.if_icmp .ne 7, 3) := by decide +kernel
theorem d_M_check_22 : decode b_M_check 22 = .ok (.aload_n 0, 1) := by decide +kernel
theorem d_M_check_23 : decode b_M_check 23 = .ok (.invokevirtual 154, 3) := by decide +kernel
theorem d_M_check_26 : decode b_M_check 26 = .ok (.iconst 0, 1) := by decide +kernel
theorem d_M_check_27 : decode b_M_check 27 = .ok (.istore_n 2, 1) := by decide +kernel
theorem d_M_check_28 : decode b_M_check 28 = .ok (.iload_n 2, 1) := by decide +kernel
theorem d_M_check_29 : decode b_M_check 29 = .ok (.aload_n 0, 1) := by decide +kernel
theorem d_M_check_30 : decode b_M_check 30 = .ok (.getfield 94, 3) := by decide +kernel
theorem d_M_check_33 : decode b_M_check 33 = .ok (.if_icmp .ge 33, 3) := by decide +kernel
theorem d_M_check_36 : decode b_M_check 36 = .ok (.aload_n 0, 1) := by decide +kernel
theorem d_M_check_37 : decode b_M_check 37 = .ok (.iload_n 1, 1) := by decide +kernel
theorem d_M_check_38 : decode b_M_check 38 = .ok (.iload_n 2, 1) := by decide +kernel
theorem d_M_check_39 : decode b_M_check 39 = .ok (.invokevirtual 157, 3) := by decide +kernel
theorem d_M_check_42 : decode b_M_check 42 = .ok (.ifCond .eq 18, 3) := by decide +kernel
theorem d_M_check_45 : decode b_M_check 45 = .ok (.aload_n 0, 1) := by decide +kernel
theorem d_M_check_46 : decode b_M_check 46 = .ok (.iload_n 2, 1) := by decide +kernel
theorem d_M_check_47 : decode b_M_check 47 = .ok (.putfield 65, 3) := by decide +kernel
theorem d_M_check_50 : decode b_M_check 50 = .ok (.aload_n 0, 1) := by decide +kernel
theorem d_M_check_51 : decode b_M_check 51 = .ok (.aload_n 0, 1) := by decide +kernel
theorem d_M_check_52 : decode b_M_check 52 = .ok (.getfield 132, 3) := by decide +kernel
theorem d_M_check_55 : decode b_M_check 55 = .ok (.putfield 69, 3) := by decide +kernel
theorem d_M_check_58 : decode b_M_check 58 = .ok (.iload_n 1, 1) := by decide +kernel
theorem d_M_check_59 : decode b_M_check 59 = .ok (.ireturn, 1) := by decide +kernel
theorem d_M_check_60 : decode b_M_check 60 = .ok (.iinc 2 1, 3) := by decide +kernel
theorem d_M_check_63 : decode b_M_check 63 = .ok (.goto (-35), 3) := by decide +kernel
theorem d_M_check_66 : decode b_M_check 66 = .ok (.iinc 1 1, 3) := by decide +kernel
theorem d_M_check_69 : decode b_M_check 69 = .ok (.goto (-58), 3) := by decide +kernel
theorem d_M_check_72 : decode b_M_check 72 = .ok (.aload_n 0, 1) := by decide +kernel
theorem d_M_check_73 : decode b_M_check 73 = .ok (.iconst 1, 1) := by decide +kernel
theorem d_M_check_74 : decode b_M_check 74 = .ok (.putfield 87, 3) := by decide +kernel
theorem d_M_check_77 : decode b_M_check 77 = .ok (.aload_n 0, 1) := by decide +kernel
theorem d_M_check_78 : decode b_M_check 78 = .ok (.invokevirtual 160, 3) := by decide +kernel
theorem d_M_check_81 : decode b_M_check 81 = .ok (.iconst 0, 1) := by decide +kernel
theorem d_M_check_82 : decode b_M_check 82 = .ok (.ireturn, 1) := by decide +kernel
theorem m_M_check : fk_MI y_M_check b_M_check 3 (some .int) 0 := ⟨i_766, i_764, i_765, i_8, by decide +kernel⟩
set_option maxHeartbeats 4000000 in
set_option maxRecDepth 100000 in
theorem c_M_check (l : Launch) (g : fk_G) (ov : Int64) (M : fk_M) (cnt : Nat) (cl N P : Nat → Nat) (bb sp sl : Nat → Nat → Nat) (hRS : fk_RS M cnt cl N P bb sp sl) : fk_CI l y_M_check b_M_check 3 (some .int) (fk_rm 4) g ov M ((fk_kc cnt cl P bb sp sl 5 1 (fk_ma (fk_th M 0))).2) [.ref (fk_a g 89)] (nI (fk_kc cnt cl P bb sp sl 5 1 (fk_ma (fk_th M 0))).1) := by
  refine fk_ofI rfl (Nat.le_of_ble_eq_true rfl) ?_
  intro p e s m args below meth c ls S hr hlk E G hl
  have hl : lv_has ls 3 [(0, .ref (fk_a g 89))] := hl
  have hcnt := hRS.1
  refine lv_aload_n S.1 S.2.1 d_M_check_0 rfl (lv_at hl 0 rfl) ?_
  refine lv_iconst (v := nI 0) S.1 S.2.1 d_M_check_1 (by decide +kernel) ?_
  refine fk_pf S E G 89 (by decide) (congrArg (fk_ce g ov 89 (M 89)) kd_89) rfl 0 (by decide) rfl i_622 (upd (M 89) 0 (nI 0)) (congrArg (fk_ce g ov 89 (upd (M 89) 0 (nI 0))) kd_89) rfl (ty := (.int)) (by decide +kernel) rfl rfl (Nat.le_of_ble_eq_true rfl) d_M_check_2 (fun H locs G => ?_)
  obtain ⟨M1, hM1⟩ : ∃ z : fk_M, z = va_up M 89 (upd (M 89) 0 (nI 0)) := ⟨_, rfl⟩
  rw [← hM1] at G
  refine lv_aload_n S.1 S.2.1 d_M_check_5 rfl (lv_at hl 0 rfl) ?_
  refine fk_cvv S E G 89 (by decide) (congrArg (fk_ce g ov 89 (M1 89)) kd_89) rfl (rest := []) (c_M_again l g ov M1) m_M_again i_728 ⟨rfl, rfl⟩ ⟨by decide, by decide⟩ rfl rfl hl.1 (Nat.le_of_ble_eq_true rfl) d_M_check_6 ⟨Nat.zero_le _, Nat.zero_le _⟩ (fun H locs G => ?_)
  refine lv_iconst (v := nI 1) S.1 S.2.1 d_M_check_9 (by decide +kernel) ?_
  refine lv_istore_n (lv' := [(1, .int (nI 1)), (0, .ref (fk_a g 89))]) S.1 S.2.1 d_M_check_10 rfl hl (by decide) rfl (fun ls hl => ?_)
  have hm0 : M1 = fk_th M 0 := hM1
  rw [hm0] at G
  have loop : ∀ (d : Nat) (rule : Nat) (Mc : fk_M) (H : Heap) (locs : List Loc) (ls : Array Slot), rule + d = 6 → 1 ≤ rule → fk_Rq M Mc → (1 < rule → ∀ j, j < cnt → M 91 j = 0 → ¬ M 98 j = 0) → fk_kc cnt cl P bb sp sl d rule Mc = fk_kc cnt cl P bb sp sl 5 1 (fk_ma (fk_th M 0)) → fk_H g ov (Mc) s H locs → lv_has ls 3 [(1, .int (nI rule)), (0, .ref (fk_a g 89))] → W p l e (fk_rm (4)) s m args below meth c H locs 0 0 (MQ below (va_Qi (fun rr (_ : Unit) => rr = nI (fk_kc cnt cl P bb sp sl 5 1 (fk_ma (fk_th M 0))).1) (fun _ t9 => fk_Wd g ov ((fk_kc cnt cl P bb sp sl 5 1 (fk_ma (fk_th M 0))).2) t9) (fk_A g)) args s 0 0 (fk_A g)) (F0 m 11 ls []) := by
    intro d
    induction d with
    | zero =>
      intro rule Mc H locs ls hv0 hv1 hv2 hv3 hv4 G hl
      have hrule : rule = 6 := by omega
      refine lv_iload_n S.1 S.2.1 d_M_check_11 rfl (lv_at hl 0 rfl) ?_
      refine lv_bipush (v := nI 6) S.1 S.2.1 d_M_check_12 (by decide +kernel) ?_
      refine fk_cge (tgt := 72) S.1 S.2.1 (by omega) (by omega) d_M_check_14 rfl (fun hc2 => ?_) (fun hc2 => ?_)
      · refine lv_aload_n S.1 S.2.1 d_M_check_72 rfl (lv_at hl 1 rfl) ?_
        refine lv_iconst (v := nI 1) S.1 S.2.1 d_M_check_73 (by decide +kernel) ?_
        refine fk_pf S E G 89 (by decide) (congrArg (fk_ce g ov 89 (Mc 89)) kd_89) rfl 23 (by decide) rfl i_645 (upd (Mc 89) 23 (nI 1)) (congrArg (fk_ce g ov 89 (upd (Mc 89) 23 (nI 1))) kd_89) rfl (ty := (.boolean)) (by decide +kernel) (fk_nb (Or.inr (by decide +kernel))) (fk_fb (Or.inr (by decide +kernel))) (Nat.le_of_ble_eq_true rfl) d_M_check_74 (fun H locs G => ?_)
        obtain ⟨M3, hM3⟩ : ∃ z : fk_M, z = va_up Mc 89 (upd (Mc 89) 23 (nI 1)) := ⟨_, rfl⟩
        rw [← hM3] at G
        have hq1 : fk_Rq M M3 := by rw [hM3]; exact hv2.up89 (by decide) _
        refine lv_aload_n S.1 S.2.1 d_M_check_77 rfl (lv_at hl 1 rfl) ?_
        refine fk_cvv S E G 89 (by decide) (congrArg (fk_ce g ov 89 (M3 89)) kd_89) rfl (rest := []) (c_M_arrange l g ov M3 cnt hcnt (hq1.1.trans hRS.2.1)) m_M_arrange i_799 ⟨rfl, rfl⟩ ⟨by decide, by decide⟩ rfl rfl hl.1 (Nat.le_of_ble_eq_true rfl) d_M_check_78 ⟨Nat.zero_le _, Nat.zero_le _⟩ (fun H locs G => ?_)
        refine lv_iconst (v := nI 0) S.1 S.2.1 d_M_check_81 (by decide +kernel) ?_
        have hv4 : (0, fk_am cnt (va_up Mc 89 (upd (Mc 89) 23 (nI 1)))) = fk_kc cnt cl P bb sp sl 5 1 (fk_ma (fk_th M 0)) := hv4
        exact fk_iret S hr hlk E G (by rw [← hv4, hM3]) (by rw [← hv4]) d_M_check_82
      · exact absurd hrule (by omega)
    | succ d ih =>
      intro rule Mc H locs ls hv0 hv1 hv2 hv3 hv4 G hl
      have ihr := ih
      obtain ⟨Ms, hMs⟩ : ∃ z : fk_M, z = (if rule = 5 then fk_fw cnt cl P bb sp sl Mc else Mc) := ⟨_, rfl⟩
      have hqs : fk_Rq M Ms := by
        rw [hMs]
        split
        · exact hv2.trans (fk_fw_Rq cnt cl P bb sp sl Mc)
        · exact hv2
      obtain ⟨KF, hKF⟩ : ∃ z, z = fk_kfl P bb sp sl rule cnt 0 Ms := ⟨_, rfl⟩
      have inner : ∀ (d2 ff : Nat) (Md : fk_M) (H : Heap) (locs : List Loc) (ls : Array Slot), ff + d2 = cnt → fk_Rq M Md → (rule = 1 → ∀ j, j < ff → M 91 j = 0 → ¬ M 98 j = 0) → fk_kfl P bb sp sl rule d2 ff Md = KF → fk_H g ov Md s H locs → lv_has ls 3 [(2, .int (nI ff)), (1, .int (nI rule)), (0, .ref (fk_a g 89))] → W p l e (fk_rm (4)) s m args below meth c H locs 0 0 (MQ below (va_Qi (fun rr (_ : Unit) => rr = nI (fk_kc cnt cl P bb sp sl 5 1 (fk_ma (fk_th M 0))).1) (fun _ t9 => fk_Wd g ov ((fk_kc cnt cl P bb sp sl 5 1 (fk_ma (fk_th M 0))).2) t9) (fk_A g)) args s 0 0 (fk_A g)) (F0 m 28 ls []) := by
        intro d2
        induction d2 with
        | zero =>
          intro ff Md H locs ls hy0 hy1 hy2 hy3 G hl
          have hin : Md 89 1 = nI cnt := hy1.1.trans hRS.2.1
          refine lv_iload_n S.1 S.2.1 d_M_check_28 rfl (lv_at hl 0 rfl) ?_
          refine lv_aload_n S.1 S.2.1 d_M_check_29 rfl (lv_at hl 2 rfl) ?_
          refine fk_gf S E G 89 (by decide) (v := .int (Md 89 1)) (congrArg (fk_ce g ov 89 (Md 89)) kd_89) rfl 1 (by decide) rfl i_623 rfl d_M_check_30 ?_
          rw [hin]
          refine fk_cge (tgt := 66) S.1 S.2.1 (by omega) (by omega) d_M_check_33 rfl (fun hc4 => ?_) (fun hc4 => ?_)
          · refine lv_iinc (k := 1) (v := nI (rule + 1)) (lv' := [(1, .int (nI (rule + 1))), (2, .int (nI ff)), (0, .ref (fk_a g 89))]) S.1 S.2.1 d_M_check_66 hl rfl (nI_1 rule) (by decide) rfl (fun ls hl => ?_)
            refine lv_goto (tgt := 11) S.1 S.2.1 d_M_check_69 rfl ?_
            have hn : KF = (none, Md) := hy3.symm
            rw [fk_kc_n P bb sp sl (show fk_kfl P bb sp sl rule cnt 0 (if rule = 5 then fk_fw cnt cl P bb sp sl Mc else Mc) = (none, Md) by rw [← hMs, ← hKF, hn])] at hv4
            exact ihr (rule + 1) Md H locs ls (by omega) (by omega) hy1 (fun _ j hj => by
              by_cases h1 : rule = 1
              · exact hy2 h1 j (by omega)
              · exact hv3 (by omega) j hj) hv4 G (lv_sub hl [0, 2] rfl)
          · exact absurd hy0 (by omega)
        | succ d2 ih2 =>
          intro ff Md H locs ls hy0 hy1 hy2 hy3 G hl
          have hin : Md 89 1 = nI cnt := hy1.1.trans hRS.2.1
          refine lv_iload_n S.1 S.2.1 d_M_check_28 rfl (lv_at hl 0 rfl) ?_
          refine lv_aload_n S.1 S.2.1 d_M_check_29 rfl (lv_at hl 2 rfl) ?_
          refine fk_gf S E G 89 (by decide) (v := .int (Md 89 1)) (congrArg (fk_ce g ov 89 (Md 89)) kd_89) rfl 1 (by decide) rfl i_623 rfl d_M_check_30 ?_
          rw [hin]
          refine fk_cge (tgt := 66) S.1 S.2.1 (by omega) (by omega) d_M_check_33 rfl (fun hc5 => ?_) (fun hc5 => ?_)
          · exact absurd hy0 (by omega)
          · rw [fk_kfl_S] at hy3
            have e91 : Md 91 = M 91 := hy1.2.2.1
            have e98 : Md 98 = M 98 := hy1.2.2.2.2.1
            refine lv_aload_n S.1 S.2.1 d_M_check_36 rfl (lv_at hl 2 rfl) ?_
            refine lv_iload_n S.1 S.2.1 d_M_check_37 rfl (lv_at hl 1 rfl) ?_
            refine lv_iload_n S.1 S.2.1 d_M_check_38 rfl (lv_at hl 0 rfl) ?_
            refine fk_cvi S E G 89 (by decide) (congrArg (fk_ce g ov 89 (Md 89)) kd_89) rfl (rest := []) (c_M_fails l g ov Md cnt cl N P bb sp sl (hRS.of hy1) rule ff hv1 (by omega) (by omega) (fun h9 h8 => by rw [e98]; rw [e91] at h8; exact hv3 (by omega) ff (by omega) h8)) m_M_fails i_779 ⟨rfl, rfl⟩ ⟨by decide, by decide⟩ rfl rfl hl.1 (Nat.le_of_ble_eq_true rfl) d_M_check_39 ⟨Nat.zero_le _, Nat.zero_le _⟩ (fun H locs G => ?_)
            obtain ⟨Mf, hMf⟩ : ∃ z : fk_M, z = fk_fm P bb sp sl rule ff Md := ⟨_, rfl⟩
            rw [← hMf] at G hy3 ⊢
            have hqf : fk_Rq M Mf := by rw [hMf]; exact fk_fm_Rq hy1 P bb sp sl rule ff
            refine fk_zeq (tgt := 60) S.1 S.2.1 (fk_bl _) d_M_check_42 rfl (fun hc6 => ?_) (fun hc6 => ?_)
            · have hno := of_decide_eq_false (fk_bf hc6)
              rw [if_neg hno] at hy3
              refine lv_iinc (k := 0) (v := nI (ff + 1)) (lv' := [(2, .int (nI (ff + 1))), (1, .int (nI rule)), (0, .ref (fk_a g 89))]) S.1 S.2.1 d_M_check_60 hl rfl (nI_1 ff) (by decide) rfl (fun ls hl => ?_)
              refine lv_goto (tgt := 28) S.1 S.2.1 d_M_check_63 rfl ?_
              refine ih2 (ff + 1) Mf H locs ls (by omega) hqf (fun h1 j hj h7 h6 => ?_) hy3 G (lv_sub hl [0, 1, 2] rfl)
              by_cases hjf : j < ff
              · exact hy2 h1 j hjf h7 h6
              · have hje : j = ff := by omega
                subst hje
                apply hno
                rw [hMf, h1, fk_fm_1 P bb sp sl (by rw [e91]; exact h7) (by rw [e98]; exact h6)]
                decide +kernel
            · have hyes := of_decide_eq_true (fk_bt hc6)
              rw [if_pos hyes] at hy3
              have hs9 : KF = (some ff, Mf) := hy3.symm
              rw [fk_kc_s P bb sp sl (show fk_kfl P bb sp sl rule cnt 0 (if rule = 5 then fk_fw cnt cl P bb sp sl Mc else Mc) = (some ff, Mf) by rw [← hMs, ← hKF, hs9])] at hv4
              refine lv_aload_n S.1 S.2.1 d_M_check_45 rfl (lv_at hl 2 rfl) ?_
              refine lv_iload_n S.1 S.2.1 d_M_check_46 rfl (lv_at hl 0 rfl) ?_
              refine fk_pf S E G 89 (by decide) (congrArg (fk_ce g ov 89 (Mf 89)) kd_89) rfl 24 (by decide) rfl i_646 (upd (Mf 89) 24 (nI ff)) (congrArg (fk_ce g ov 89 (upd (Mf 89) 24 (nI ff))) kd_89) rfl (ty := (.int)) (by decide +kernel) rfl rfl (Nat.le_of_ble_eq_true rfl) d_M_check_47 (fun H locs G => ?_)
              obtain ⟨M7, hM7⟩ : ∃ z : fk_M, z = va_up Mf 89 (upd (Mf 89) 24 (nI ff)) := ⟨_, rfl⟩
              rw [← hM7] at G
              refine lv_aload_n S.1 S.2.1 d_M_check_50 rfl (lv_at hl 2 rfl) ?_
              refine lv_aload_n S.1 S.2.1 d_M_check_51 rfl (lv_at hl 2 rfl) ?_
              refine fk_gf S E G 89 (by decide) (v := .int (M7 89 30)) (congrArg (fk_ce g ov 89 (M7 89)) kd_89) rfl 30 (by decide) rfl i_652 rfl d_M_check_52 ?_
              refine fk_pf S E G 89 (by decide) (congrArg (fk_ce g ov 89 (M7 89)) kd_89) rfl 25 (by decide) rfl i_647 (upd (M7 89) 25 (M7 89 30)) (congrArg (fk_ce g ov 89 (upd (M7 89) 25 (M7 89 30))) kd_89) rfl (ty := (.int)) (by decide +kernel) rfl rfl (Nat.le_of_ble_eq_true rfl) d_M_check_55 (fun H locs G => ?_)
              obtain ⟨M8, hM8⟩ : ∃ z : fk_M, z = va_up M7 89 (upd (M7 89) 25 (M7 89 30)) := ⟨_, rfl⟩
              rw [← hM8] at G
              refine lv_iload_n S.1 S.2.1 d_M_check_58 rfl (lv_at hl 1 rfl) ?_
              exact fk_iret S hr hlk E G (by rw [← hv4, hM8, hM7, va_up_self, pk_un (by decide), bx_uu]) (by rw [← hv4]) d_M_check_59
      refine lv_iload_n S.1 S.2.1 d_M_check_11 rfl (lv_at hl 0 rfl) ?_
      refine lv_bipush (v := nI 6) S.1 S.2.1 d_M_check_12 (by decide +kernel) ?_
      refine fk_cge (tgt := 72) S.1 S.2.1 (by omega) (by omega) d_M_check_14 rfl (fun hc9 => ?_) (fun hc9 => ?_)
      · exact absurd hv0 (by omega)
      · refine lv_iload_n S.1 S.2.1 d_M_check_17 rfl (lv_at hl 0 rfl) ?_
        refine lv_iconst (v := nI 5) S.1 S.2.1 d_M_check_18 (by decide +kernel) ?_
        refine fk_cne (tgt := 26) S.1 S.2.1 (by omega) (by omega) d_M_check_19 rfl (fun hc10 => ?_) (fun hc10 => ?_)
        · refine lv_iconst (v := nI 0) S.1 S.2.1 d_M_check_26 (by decide +kernel) ?_
          refine lv_istore_n (lv' := [(2, .int (nI 0)), (1, .int (nI rule)), (0, .ref (fk_a g 89))]) S.1 S.2.1 d_M_check_27 rfl hl (by decide) rfl (fun ls hl => ?_)
          rw [show Mc = Ms by rw [hMs, if_neg hc10]] at G
          exact inner cnt 0 Ms H locs ls (by omega) hqs (fun _ j hj => absurd hj (by omega)) hKF.symm G (lv_sub hl [0, 1, 2] rfl)
        · refine lv_aload_n S.1 S.2.1 d_M_check_22 rfl (lv_at hl 1 rfl) ?_
          refine fk_cvv S E G 89 (by decide) (congrArg (fk_ce g ov 89 (Mc 89)) kd_89) rfl (rest := []) (c_M_findWaits l g ov Mc cnt cl N P bb sp sl (hRS.of hv2)) m_M_findWaits i_767 ⟨rfl, rfl⟩ ⟨by decide, by decide⟩ rfl rfl hl.1 (Nat.le_of_ble_eq_true rfl) d_M_check_23 ⟨Nat.zero_le _, Nat.zero_le _⟩ (fun H locs G => ?_)
          rw [show fk_fw cnt cl P bb sp sl Mc = Ms by rw [hMs, if_pos hc10]] at G
          refine lv_iconst (v := nI 0) S.1 S.2.1 d_M_check_26 (by decide +kernel) ?_
          refine lv_istore_n (lv' := [(2, .int (nI 0)), (1, .int (nI rule)), (0, .ref (fk_a g 89))]) S.1 S.2.1 d_M_check_27 rfl hl (by decide) rfl (fun ls hl => ?_)
          exact inner cnt 0 Ms H locs ls (by omega) hqs (fun _ j hj => absurd hj (by omega)) hKF.symm G (lv_sub hl [0, 1, 2] rfl)
  exact loop 5 1 _ H locs ls (by omega) (by omega) (fk_ma_Rq (fk_th_Rq (.refl M) 0)) (fun h => absurd h (by omega)) rfl G hl
