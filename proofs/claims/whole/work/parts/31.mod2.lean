/-! The reference: note, want, order, set, value, has. Written by wip/gen/s_mod2.py. -/
def fk_nt (pl : Int32) (i : Nat) : Int32 := if pl < 0 ∨ ¬ pl ≤ nI i then nI i else pl
def fk_nm9 (M : fk_M) (i : Nat) : fk_M := va_up M 89 (upd (M 89) 30 (fk_nt (M 89 30) i))
/-- pushes, the first's value last -/
def fk_wn (va vb : Int32) : Nat → Nat → fk_M → fk_M
  | 0, _, M => M
  | k + 1, t, M => fk_wn va vb k (t + 1) (fk_pu M t (if k = 0 then va else vb))
theorem fk_pu_t (M : fk_M) (t : Nat) (v : Int32) : fk_pu M t v 89 29 = nI (t + 1) := by unfold fk_pu; rw [va_up_self, pk_us]
/-- the clock ck has an instant now, as the reference sees it -/
def fk_hm (M : fk_M) (ck : Nat) : Bool := decide (ck = 0 ∨ (¬ M 96 ((ck - 1) / 2) = 0 ∧ M 94 ((ck - 1) / 2) = nI (ck % 2)))
theorem fk_ou_in {v : Int32} {n : Nat} (hn : n < 2 ^ 31) (h : fk_ou v n = false) : ∃ j, j < n ∧ v = nI j := by
  have hin : ¬ (v < 0 ∨ ¬ v < nI n) := of_decide_eq_false h
  obtain ⟨j, hj1, hj2⟩ := nI_of (fun q => hin (Or.inl q))
  refine ⟨j, ?_, hj2⟩
  have h9 : v < nI n := Decidable.byContradiction (fun q => hin (Or.inr q))
  rw [hj2] at h9
  exact (nI_ltI hj1 hn).mp h9
theorem fk_tc00 {f q : Nat} (h : ¬ 0 < fk_tc f q) : f = 0 ∧ q = 0 := by
  unfold fk_tc at h
  by_cases hf : f = 0
  · rw [if_pos hf] at h
    by_cases hq : q = 0
    · exact ⟨hf, hq⟩
    · rw [if_neg hq] at h
      exact absurd (by decide) h
  · rw [if_neg hf] at h
    exact absurd (by decide) h
theorem d_M_note_0 : decode b_M_note 0 = .ok (.aload_n 0, 1) := by decide +kernel
theorem d_M_note_1 : decode b_M_note 1 = .ok (.aload_n 0, 1) := by decide +kernel
theorem d_M_note_2 : decode b_M_note 2 = .ok (.getfield 132, 3) := by decide +kernel
theorem d_M_note_5 : decode b_M_note 5 = .ok (.ifCond .lt 11, 3) := by decide +kernel
theorem d_M_note_8 : decode b_M_note 8 = .ok (.iload_n 1, 1) := by decide +kernel
theorem d_M_note_9 : decode b_M_note 9 = .ok (.aload_n 0, 1) := by decide +kernel
theorem d_M_note_10 : decode b_M_note 10 = .ok (.getfield 132, 3) := by decide +kernel
theorem d_M_note_13 : decode b_M_note 13 = .ok (.if_icmp .ge 7, 3) := by decide +kernel
theorem d_M_note_16 : decode b_M_note 16 = .ok (.iload_n 1, 1) := by decide +kernel
theorem d_M_note_17 : decode b_M_note 17 = .ok (.goto 7, 3) := by decide +kernel
theorem d_M_note_20 : decode b_M_note 20 = .ok (.aload_n 0, 1) := by decide +kernel
theorem d_M_note_21 : decode b_M_note 21 = .ok (.getfield 132, 3) := by decide +kernel
theorem d_M_note_24 : decode b_M_note 24 = .ok (.putfield 132, 3) := by decide +kernel
theorem d_M_note_27 : decode b_M_note 27 = .ok (.return_, 1) := by decide +kernel
theorem m_M_note : fk_MI y_M_note b_M_note 2 none 1 := ⟨i_790, i_789, fk_mp (q := (y_M_note, 31)) (by decide +kernel), i_8, by decide +kernel⟩
set_option maxHeartbeats 4000000 in
set_option maxRecDepth 100000 in
theorem c_M_note (l : Launch) (g : fk_G) (ov : Int64) (M : fk_M) (i : Nat) : fk_CV l y_M_note b_M_note 2 (fk_rm 0) g ov M (fk_nm9 M i) [.ref (fk_a g 89), .int (nI i)] := by
  refine fk_ofV rfl (Nat.le_of_ble_eq_true rfl) ?_
  intro p e s m args below meth c ls S hr hlk E G hl
  have hl : lv_has ls 2 [(0, .ref (fk_a g 89)), (1, .int (nI i))] := hl
  refine lv_aload_n S.1 S.2.1 d_M_note_0 rfl (lv_at hl 0 rfl) ?_
  refine lv_aload_n S.1 S.2.1 d_M_note_1 rfl (lv_at hl 0 rfl) ?_
  refine fk_gf S E G 89 (by decide) (v := .int (M 89 30)) (congrArg (fk_ce g ov 89 (M 89)) kd_89) rfl 30 (by decide) rfl i_652 rfl d_M_note_2 ?_
  refine lv_if_lt (tgt := 16) S.1 S.2.1 d_M_note_5 rfl (fun hc1 => ?_) (fun hc1 => ?_)
  · refine lv_iload_n S.1 S.2.1 d_M_note_16 rfl (lv_at hl 1 rfl) ?_
    refine lv_goto (tgt := 24) S.1 S.2.1 d_M_note_17 rfl ?_
    refine fk_pf S E G 89 (by decide) (congrArg (fk_ce g ov 89 (M 89)) kd_89) rfl 30 (by decide) rfl i_652 (upd (M 89) 30 (nI i)) (congrArg (fk_ce g ov 89 (upd (M 89) 30 (nI i))) kd_89) rfl (ty := (.int)) (by decide +kernel) rfl rfl (Nat.le_of_ble_eq_true rfl) d_M_note_24 (fun H locs G => ?_)
    obtain ⟨M2, hM2⟩ : ∃ z : fk_M, z = va_up M 89 (upd (M 89) 30 (nI i)) := ⟨_, rfl⟩
    rw [← hM2] at G
    exact fk_vret S hr hlk E G (by rw [hM2]; unfold fk_nm9 fk_nt; rw [if_pos (Or.inl hc1)]) d_M_note_27
  · refine lv_iload_n S.1 S.2.1 d_M_note_8 rfl (lv_at hl 1 rfl) ?_
    refine lv_aload_n S.1 S.2.1 d_M_note_9 rfl (lv_at hl 0 rfl) ?_
    refine fk_gf S E G 89 (by decide) (v := .int (M 89 30)) (congrArg (fk_ce g ov 89 (M 89)) kd_89) rfl 30 (by decide) rfl i_652 rfl d_M_note_10 ?_
    refine lv_icmp_ge (tgt := 20) S.1 S.2.1 d_M_note_13 rfl (fun hc3 => ?_) (fun hc3 => ?_)
    · refine lv_aload_n S.1 S.2.1 d_M_note_20 rfl (lv_at hl 0 rfl) ?_
      refine fk_gf S E G 89 (by decide) (v := .int (M 89 30)) (congrArg (fk_ce g ov 89 (M 89)) kd_89) rfl 30 (by decide) rfl i_652 rfl d_M_note_21 ?_
      refine fk_pf S E G 89 (by decide) (congrArg (fk_ce g ov 89 (M 89)) kd_89) rfl 30 (by decide) rfl i_652 (upd (M 89) 30 (M 89 30)) (congrArg (fk_ce g ov 89 (upd (M 89) 30 (M 89 30))) kd_89) rfl (ty := (.int)) (by decide +kernel) rfl rfl (Nat.le_of_ble_eq_true rfl) d_M_note_24 (fun H locs G => ?_)
      obtain ⟨M4, hM4⟩ : ∃ z : fk_M, z = va_up M 89 (upd (M 89) 30 (M 89 30)) := ⟨_, rfl⟩
      rw [← hM4] at G
      exact fk_vret S hr hlk E G (by rw [hM4]; unfold fk_nm9 fk_nt; rw [if_neg (fun q => q.elim hc1 (fun q => q hc3))]) d_M_note_27
    · refine lv_iload_n S.1 S.2.1 d_M_note_16 rfl (lv_at hl 1 rfl) ?_
      refine lv_goto (tgt := 24) S.1 S.2.1 d_M_note_17 rfl ?_
      refine fk_pf S E G 89 (by decide) (congrArg (fk_ce g ov 89 (M 89)) kd_89) rfl 30 (by decide) rfl i_652 (upd (M 89) 30 (nI i)) (congrArg (fk_ce g ov 89 (upd (M 89) 30 (nI i))) kd_89) rfl (ty := (.int)) (by decide +kernel) rfl rfl (Nat.le_of_ble_eq_true rfl) d_M_note_24 (fun H locs G => ?_)
      obtain ⟨M5, hM5⟩ : ∃ z : fk_M, z = va_up M 89 (upd (M 89) 30 (nI i)) := ⟨_, rfl⟩
      rw [← hM5] at G
      exact fk_vret S hr hlk E G (by rw [hM5]; unfold fk_nm9 fk_nt; rw [if_pos (Or.inr hc3)]) d_M_note_27
theorem d_M_want_0 : decode b_M_want 0 = .ok (.iload_n 3, 1) := by decide +kernel
theorem d_M_want_1 : decode b_M_want 1 = .ok (.iconst 1, 1) := by decide +kernel
theorem d_M_want_2 : decode b_M_want 2 = .ok (.isub, 1) := by decide +kernel
theorem d_M_want_3 : decode b_M_want 3 = .ok (.istore 4, 2) := by decide +kernel
theorem d_M_want_5 : decode b_M_want 5 = .ok (.iload 4, 2) := by decide +kernel
theorem d_M_want_7 : decode b_M_want 7 = .ok (.ifCond .lt 23, 3) := by decide +kernel
theorem d_M_want_10 : decode b_M_want 10 = .ok (.aload_n 0, 1) := by decide +kernel
theorem d_M_want_11 : decode b_M_want 11 = .ok (.iload 4, 2) := by decide +kernel
theorem d_M_want_13 : decode b_M_want 13 = .ok (.ifCond .ne 7, 3) := by decide +kernel
theorem d_M_want_16 : decode b_M_want 16 = .ok (.iload_n 1, 1) := by decide +kernel
theorem d_M_want_17 : decode b_M_want 17 = .ok (.goto 4, 3) := by decide +kernel
theorem d_M_want_20 : decode b_M_want 20 = .ok (.iload_n 2, 1) := by decide +kernel
theorem d_M_want_21 : decode b_M_want 21 = .ok (.invokevirtual 112, 3) := by decide +kernel
theorem d_M_want_24 : decode b_M_want 24 = .ok (.iinc 4 (-1), 3) := by decide +kernel
theorem d_M_want_27 : decode b_M_want 27 = .ok (.goto (-22), 3) := by decide +kernel
theorem d_M_want_30 : decode b_M_want 30 = .ok (.return_, 1) := by decide +kernel
theorem m_M_want : fk_MI y_M_want b_M_want 5 none 3 := ⟨i_778, i_777, fk_mp (q := (y_M_want, 31)) (by decide +kernel), i_8, by decide +kernel⟩
set_option maxHeartbeats 4000000 in
set_option maxRecDepth 100000 in
theorem c_M_want (l : Launch) (g : fk_G) (ov : Int64) (M : fk_M) (t : Nat) (ht : M 89 29 = nI t) (n : Nat) (h64 : t + n ≤ 64) (va vb : Int32) : fk_CV l y_M_want b_M_want 5 (fk_rm 1) g ov M (fk_wn va vb n t M) [.ref (fk_a g 89), .int va, .int vb, .int (nI n)] := by
  refine fk_ofV rfl (Nat.le_of_ble_eq_true rfl) ?_
  intro p e s m args below meth c ls S hr hlk E G hl
  have hl : lv_has ls 5 [(0, .ref (fk_a g 89)), (1, .int va), (2, .int vb), (3, .int (nI n))] := hl
  refine lv_iload_n S.1 S.2.1 d_M_want_0 rfl (lv_at hl 3 rfl) ?_
  refine lv_iconst (v := nI 1) S.1 S.2.1 d_M_want_1 (by decide +kernel) ?_
  refine lv_isub S.1 S.2.1 d_M_want_2 ?_
  refine lv_istore (lv' := [(4, .int ((nI n) - (nI 1))), (0, .ref (fk_a g 89)), (1, .int va), (2, .int vb), (3, .int (nI n))]) S.1 S.2.1 d_M_want_3 hl (by decide) rfl (fun ls hl => ?_)
  have loop : ∀ (d : Nat) (u : Nat) (Mc : fk_M) (H : Heap) (locs : List Loc) (ls : Array Slot), u + d ≤ 64 → Mc 89 29 = nI u → fk_wn va vb d u Mc = fk_wn va vb n t M → fk_H g ov (Mc) s H locs → lv_has ls 5 [(4, .int (nI d - 1)), (0, .ref (fk_a g 89)), (1, .int va), (2, .int vb), (3, .int (nI n))] → W p l e (fk_rm (1)) s m args below meth c H locs 0 0 (MQ below (va_Qv (fun (_ : Unit) => True) (fun _ t9 => fk_Wd g ov (fk_wn va vb n t M) t9) (fk_A g)) args s 0 0 (fk_A g)) (F0 m 5 ls []) := by
    intro d
    induction d with
    | zero =>
      intro u Mc H locs ls hv0 hv1 hv2 G hl
      refine lv_iload S.1 S.2.1 d_M_want_5 (lv_at hl 0 rfl) ?_
      refine lv_if_lt (tgt := 30) S.1 S.2.1 d_M_want_7 rfl (fun hc1 => ?_) (fun hc1 => ?_)
      · exact fk_vret S hr hlk E G hv2 d_M_want_30
      · exact absurd (by decide +kernel) hc1
    | succ d ih =>
      intro u Mc H locs ls hv0 hv1 hv2 G hl
      rw [nI_pred] at hl
      refine lv_iload S.1 S.2.1 d_M_want_5 (lv_at hl 0 rfl) ?_
      refine lv_if_lt (tgt := 30) S.1 S.2.1 d_M_want_7 rfl (fun hc2 => ?_) (fun hc2 => ?_)
      · exact absurd hc2 (nI_pos (by omega))
      · refine lv_aload_n S.1 S.2.1 d_M_want_10 rfl (lv_at hl 1 rfl) ?_
        refine lv_iload S.1 S.2.1 d_M_want_11 (lv_at hl 0 rfl) ?_
        refine fk_zne (tgt := 20) S.1 S.2.1 (by omega) d_M_want_13 rfl (fun hc3 => ?_) (fun hc3 => ?_)
        · refine lv_iload_n S.1 S.2.1 d_M_want_20 rfl (lv_at hl 3 rfl) ?_
          refine fk_cvv S E G 89 (by decide) (congrArg (fk_ce g ov 89 (Mc 89)) kd_89) rfl (rest := []) (c_M_push l g ov Mc u hv1 (by omega) vb) m_M_push i_749 ⟨rfl, rfl⟩ ⟨by decide, by decide⟩ rfl rfl hl.1 (Nat.le_of_ble_eq_true rfl) d_M_want_21 ⟨Nat.zero_le _, Nat.zero_le _⟩ (fun H locs G => ?_)
          refine lv_iinc (k := 0) (v := nI d - 1) (lv' := [(4, .int (nI d - 1)), (0, .ref (fk_a g 89)), (1, .int va), (2, .int vb), (3, .int (nI n))]) S.1 S.2.1 d_M_want_24 hl rfl (fk_dec _) (by decide) rfl (fun ls hl => ?_)
          refine lv_goto (tgt := 5) S.1 S.2.1 d_M_want_27 rfl ?_
          exact ih (u + 1) (fk_pu Mc u vb) H locs ls (by omega) (fk_pu_t _ _ _) (by rw [← hv2]; show _ = fk_wn va vb d (u + 1) (fk_pu Mc u (if d = 0 then va else vb)); rw [if_neg (show ¬ d = 0 by omega)]) G hl
        · refine lv_iload_n S.1 S.2.1 d_M_want_16 rfl (lv_at hl 2 rfl) ?_
          refine lv_goto (tgt := 21) S.1 S.2.1 d_M_want_17 rfl ?_
          refine fk_cvv S E G 89 (by decide) (congrArg (fk_ce g ov 89 (Mc 89)) kd_89) rfl (rest := []) (c_M_push l g ov Mc u hv1 (by omega) va) m_M_push i_749 ⟨rfl, rfl⟩ ⟨by decide, by decide⟩ rfl rfl hl.1 (Nat.le_of_ble_eq_true rfl) d_M_want_21 ⟨Nat.zero_le _, Nat.zero_le _⟩ (fun H locs G => ?_)
          refine lv_iinc (k := 0) (v := nI d - 1) (lv' := [(4, .int (nI d - 1)), (0, .ref (fk_a g 89)), (1, .int va), (2, .int vb), (3, .int (nI n))]) S.1 S.2.1 d_M_want_24 hl rfl (fk_dec _) (by decide) rfl (fun ls hl => ?_)
          refine lv_goto (tgt := 5) S.1 S.2.1 d_M_want_27 rfl ?_
          exact ih (u + 1) (fk_pu Mc u va) H locs ls (by omega) (fk_pu_t _ _ _) (by rw [← hv2]; show _ = fk_wn va vb d (u + 1) (fk_pu Mc u (if d = 0 then va else vb)); rw [if_pos hc3]) G hl
  exact loop n t M s.heap [] ls h64 ht rfl G hl
theorem d_M_has_0 : decode b_M_has 0 = .ok (.iload_n 1, 1) := by decide +kernel
theorem d_M_has_1 : decode b_M_has 1 = .ok (.ifCond .le 11, 3) := by decide +kernel
theorem d_M_has_4 : decode b_M_has 4 = .ok (.iload_n 1, 1) := by decide +kernel
theorem d_M_has_5 : decode b_M_has 5 = .ok (.iconst 1, 1) := by decide +kernel
theorem d_M_has_6 : decode b_M_has 6 = .ok (.isub, 1) := by decide +kernel
theorem d_M_has_7 : decode b_M_has 7 = .ok (.iconst 2, 1) := by decide +kernel
theorem d_M_has_8 : decode b_M_has 8 = .ok (.idiv, 1) := by decide +kernel
theorem d_M_has_9 : decode b_M_has 9 = .ok (.goto 4, 3) := by decide +kernel
theorem d_M_has_12 : decode b_M_has 12 = .ok (.iconst 0, 1) := by decide +kernel
theorem d_M_has_13 : decode b_M_has 13 = .ok (.istore_n 2, 1) := by decide +kernel
theorem d_M_has_14 : decode b_M_has 14 = .ok (.iload_n 1, 1) := by decide +kernel
theorem d_M_has_15 : decode b_M_has 15 = .ok (.ifCond .eq 24, 3) := by decide +kernel
theorem d_M_has_18 : decode b_M_has 18 = .ok (.aload_n 0, 1) := by decide +kernel
theorem d_M_has_19 : decode b_M_has 19 = .ok (.getfield 29, 3) := by decide +kernel
theorem d_M_has_22 : decode b_M_has 22 = .ok (.iload_n 2, 1) := by decide +kernel
theorem d_M_has_23 : decode b_M_has 23 = .ok (.baload, 1) := by decide +kernel
theorem d_M_has_24 : decode b_M_has 24 = .ok (.ifCond .eq 19, 3) := by decide +kernel
theorem d_M_has_27 : decode b_M_has 27 = .ok (.aload_n 0, 1) := by decide +kernel
theorem d_M_has_28 : decode b_M_has 28 = .ok (.getfield 23, 3) := by decide +kernel
theorem d_M_has_31 : decode b_M_has 31 = .ok (.iload_n 2, 1) := by decide +kernel
theorem d_M_has_32 : decode b_M_has 32 = .ok (.iaload, 1) := by decide +kernel
theorem d_M_has_33 : decode b_M_has 33 = .ok (.iload_n 1, 1) := by decide +kernel
theorem d_M_has_34 : decode b_M_has 34 = .ok (.iconst 2, 1) := by decide +kernel
theorem d_M_has_35 : decode b_M_has 35 = .ok (.irem, 1) := by decide +kernel
theorem d_M_has_36 : decode b_M_has 36 = .ok (.if_icmp .ne 7, 3) := by decide +kernel
theorem d_M_has_39 : decode b_M_has 39 = .ok (.iconst 1, 1) := by decide +kernel
theorem d_M_has_40 : decode b_M_has 40 = .ok (.goto 4, 3) := by decide +kernel
theorem d_M_has_43 : decode b_M_has 43 = .ok (.iconst 0, 1) := by decide +kernel
theorem d_M_has_44 : decode b_M_has 44 = .ok (.ireturn, 1) := by decide +kernel
theorem m_M_has : fk_MI y_M_has b_M_has 3 (some .boolean) 1 := ⟨i_826, i_825, fk_mp (q := (y_M_has, 31)) (by decide +kernel), i_8, by decide +kernel⟩
set_option maxHeartbeats 4000000 in
set_option maxRecDepth 100000 in
theorem c_M_has (l : Launch) (g : fk_G) (ov : Int64) (M : fk_M) (ck : Nat) (h25 : ck < 25) : fk_CI l y_M_has b_M_has 3 (some .boolean) (fk_rm 0) g ov M M [.ref (fk_a g 89), .int (nI ck)] (nI (fk_hm M ck).toNat) := by
  refine fk_ofI rfl (Nat.le_of_ble_eq_true rfl) ?_
  intro p e s m args below meth c ls S hr hlk E G hl
  have hl : lv_has ls 3 [(0, .ref (fk_a g 89)), (1, .int (nI ck))] := hl
  refine lv_iload_n S.1 S.2.1 d_M_has_0 rfl (lv_at hl 1 rfl) ?_
  refine fk_zle (tgt := 12) S.1 S.2.1 (by omega) d_M_has_1 rfl (fun hc1 => ?_) (fun hc1 => ?_)
  · refine lv_iconst (v := nI 0) S.1 S.2.1 d_M_has_12 (by decide +kernel) ?_
    refine lv_istore_n (lv' := [(2, .int (nI 0)), (0, .ref (fk_a g 89)), (1, .int (nI ck))]) S.1 S.2.1 d_M_has_13 rfl hl (by decide) rfl (fun ls hl => ?_)
    refine lv_iload_n S.1 S.2.1 d_M_has_14 rfl (lv_at hl 2 rfl) ?_
    refine fk_zeq (tgt := 39) S.1 S.2.1 (by omega) d_M_has_15 rfl (fun hc2 => ?_) (fun hc2 => ?_)
    · refine lv_iconst (v := nI 1) S.1 S.2.1 d_M_has_39 (by decide +kernel) ?_
      refine lv_goto (tgt := 44) S.1 S.2.1 d_M_has_40 rfl ?_
      exact fk_zret S hr hlk E G rfl (fk_b1 (decide_eq_true (Or.inl hc1))) (fk_bz _) d_M_has_44
    · exact absurd hc1 (by omega)
  · refine lv_iload_n S.1 S.2.1 d_M_has_4 rfl (lv_at hl 1 rfl) ?_
    refine lv_iconst (v := nI 1) S.1 S.2.1 d_M_has_5 (by decide +kernel) ?_
    refine fk_isub S.1 S.2.1 (by omega) d_M_has_6 ?_
    refine lv_iconst (v := nI 2) S.1 S.2.1 d_M_has_7 (by decide +kernel) ?_
    refine fk_idiv S.1 S.2.1 (by omega) (by decide) (by decide) d_M_has_8 ?_
    refine lv_goto (tgt := 13) S.1 S.2.1 d_M_has_9 rfl ?_
    refine lv_istore_n (lv' := [(2, .int (nI ((ck - 1) / 2))), (0, .ref (fk_a g 89)), (1, .int (nI ck))]) S.1 S.2.1 d_M_has_13 rfl hl (by decide) rfl (fun ls hl => ?_)
    refine lv_iload_n S.1 S.2.1 d_M_has_14 rfl (lv_at hl 2 rfl) ?_
    refine fk_zeq (tgt := 39) S.1 S.2.1 (by omega) d_M_has_15 rfl (fun hc3 => ?_) (fun hc3 => ?_)
    · exact absurd hc3 (by omega)
    · refine lv_aload_n S.1 S.2.1 d_M_has_18 rfl (lv_at hl 1 rfl) ?_
      refine fk_gf S E G 89 (by decide) (v := .ref (fk_a g 96)) (congrArg (fk_ce g ov 89 (M 89)) kd_89) rfl 8 (by decide) rfl i_630 rfl d_M_has_19 ?_
      refine lv_iload_n S.1 S.2.1 d_M_has_22 rfl (lv_at hl 0 rfl) ?_
      refine fk_za S E G 96 (by decide) (congrArg (fk_ce g ov 96 (M 96)) kd_96) ((ck - 1) / 2) rfl (by omega) (by decide) (v := M 96 ((ck - 1) / 2)) rfl d_M_has_23 ?_
      refine lv_if_eq (tgt := 43) S.1 S.2.1 d_M_has_24 rfl (fun hc4 => ?_) (fun hc4 => ?_)
      · refine lv_iconst (v := nI 0) S.1 S.2.1 d_M_has_43 (by decide +kernel) ?_
        exact fk_zret S hr hlk E G rfl (fk_b0 (decide_eq_false (fun q => q.elim (fun q => by omega) (fun q => q.1 hc4)))) (fk_bz _) d_M_has_44
      · refine lv_aload_n S.1 S.2.1 d_M_has_27 rfl (lv_at hl 1 rfl) ?_
        refine fk_gf S E G 89 (by decide) (v := .ref (fk_a g 94)) (congrArg (fk_ce g ov 89 (M 89)) kd_89) rfl 6 (by decide) rfl i_628 rfl d_M_has_28 ?_
        refine lv_iload_n S.1 S.2.1 d_M_has_31 rfl (lv_at hl 0 rfl) ?_
        refine fk_ia S E G 94 (by decide) (congrArg (fk_ce g ov 94 (M 94)) kd_94) ((ck - 1) / 2) rfl (by omega) (by decide) (v := M 94 ((ck - 1) / 2)) rfl d_M_has_32 ?_
        refine lv_iload_n S.1 S.2.1 d_M_has_33 rfl (lv_at hl 2 rfl) ?_
        refine lv_iconst (v := nI 2) S.1 S.2.1 d_M_has_34 (by decide +kernel) ?_
        refine fk_irem S.1 S.2.1 (by omega) (by decide) (by decide) d_M_has_35 ?_
        refine lv_icmp_ne (tgt := 43) S.1 S.2.1 d_M_has_36 rfl (fun hc5 => ?_) (fun hc5 => ?_)
        · refine lv_iconst (v := nI 0) S.1 S.2.1 d_M_has_43 (by decide +kernel) ?_
          exact fk_zret S hr hlk E G rfl (fk_b0 (decide_eq_false (fun q => q.elim (fun q => by omega) (fun q => hc5 q.2)))) (fk_bz _) d_M_has_44
        · refine lv_iconst (v := nI 1) S.1 S.2.1 d_M_has_39 (by decide +kernel) ?_
          refine lv_goto (tgt := 44) S.1 S.2.1 d_M_has_40 rfl ?_
          exact fk_zret S hr hlk E G rfl (fk_b1 (decide_eq_true (Or.inr ⟨hc4, hc5⟩))) (fk_bz _) d_M_has_44
theorem d_M_order_0 : decode b_M_order 0 = .ok (.aload_n 0, 1) := by decide +kernel
theorem d_M_order_1 : decode b_M_order 1 = .ok (.aload_n 0, 1) := by decide +kernel
theorem d_M_order_2 : decode b_M_order 2 = .ok (.getfield 87, 3) := by decide +kernel
theorem d_M_order_5 : decode b_M_order 5 = .ok (.ifCond .ne 7, 3) := by decide +kernel
theorem d_M_order_8 : decode b_M_order 8 = .ok (.iconst 1, 1) := by decide +kernel
theorem d_M_order_9 : decode b_M_order 9 = .ok (.goto 4, 3) := by decide +kernel
theorem d_M_order_12 : decode b_M_order 12 = .ok (.iconst 0, 1) := by decide +kernel
theorem d_M_order_13 : decode b_M_order 13 = .ok (.iload_n 1, 1) := by decide +kernel
theorem d_M_order_14 : decode b_M_order 14 = .ok (.aload_n 0, 1) := by decide +kernel
theorem d_M_order_15 : decode b_M_order 15 = .ok (.getfield 163, 3) := by decide +kernel
theorem d_M_order_18 : decode b_M_order 18 = .ok (.invokestatic 128, 3) := by decide +kernel
theorem d_M_order_21 : decode b_M_order 21 = .ok (.invokevirtual 97, 3) := by decide +kernel
theorem d_M_order_24 : decode b_M_order 24 = .ok (.ifCond .eq 7, 3) := by decide +kernel
theorem d_M_order_27 : decode b_M_order 27 = .ok (.iconst 0, 1) := by decide +kernel
theorem d_M_order_28 : decode b_M_order 28 = .ok (.goto 9, 3) := by decide +kernel
theorem d_M_order_31 : decode b_M_order 31 = .ok (.aload_n 0, 1) := by decide +kernel
theorem d_M_order_32 : decode b_M_order 32 = .ok (.getfield 72, 3) := by decide +kernel
theorem d_M_order_35 : decode b_M_order 35 = .ok (.iload_n 1, 1) := by decide +kernel
theorem d_M_order_36 : decode b_M_order 36 = .ok (.iaload, 1) := by decide +kernel
theorem d_M_order_37 : decode b_M_order 37 = .ok (.ireturn, 1) := by decide +kernel
theorem m_M_order : fk_MI y_M_order b_M_order 2 (some .int) 1 := ⟨i_810, i_808, i_809, i_8, by decide +kernel⟩
set_option maxHeartbeats 4000000 in
set_option maxRecDepth 100000 in
theorem c_M_order (l : Launch) (g : fk_G) (ov : Int64) (M : fk_M) (v : Int32) (o : Nat) (ho : M 89 27 = nI o) (h12 : o ≤ 12) : fk_CI l y_M_order b_M_order 2 (some .int) (fk_rm 1) g ov M (fk_th M (fk_tc (decide (M 89 23 = 0)).toNat (fk_ou v o).toNat)) [.ref (fk_a g 89), .int v] (if 0 < fk_tc (decide (M 89 23 = 0)).toNat (fk_ou v o).toNat then nI 0 else M 108 v.toNatClampNeg) := by
  refine fk_ofI rfl (Nat.le_of_ble_eq_true rfl) ?_
  intro p e s m args below meth c ls S hr hlk E G hl
  have hl : lv_has ls 2 [(0, .ref (fk_a g 89)), (1, .int v)] := hl
  refine lv_aload_n S.1 S.2.1 d_M_order_0 rfl (lv_at hl 0 rfl) ?_
  refine lv_aload_n S.1 S.2.1 d_M_order_1 rfl (lv_at hl 0 rfl) ?_
  refine fk_gf S E G 89 (by decide) (v := .int (M 89 23)) (congrArg (fk_ce g ov 89 (M 89)) kd_89) rfl 23 (by decide) rfl i_645 rfl d_M_order_2 ?_
  refine lv_if_ne (tgt := 12) S.1 S.2.1 d_M_order_5 rfl (fun hc1 => ?_) (fun hc1 => ?_)
  · refine lv_iconst (v := nI 0) S.1 S.2.1 d_M_order_12 (by decide +kernel) ?_
    have hF : (decide (M 89 23 = 0)).toNat = 0 := by rw [decide_eq_false hc1]; rfl
    rw [hF]
    refine lv_iload_n S.1 S.2.1 d_M_order_13 rfl (lv_at hl 1 rfl) ?_
    refine lv_aload_n S.1 S.2.1 d_M_order_14 rfl (lv_at hl 0 rfl) ?_
    refine fk_gf S E G 89 (by decide) (v := .int (M 89 27)) (congrArg (fk_ce g ov 89 (M 89)) kd_89) rfl 27 (by decide) rfl i_649 rfl d_M_order_15 ?_
    rw [ho]
    refine fk_csi S E G (rest := [.int (nI 0), .ref (fk_a g 89)]) (c_M_out l g ov M v o) m_M_out i_760 ⟨rfl, rfl⟩ ⟨by decide, by decide⟩ rfl rfl hl.1 (Nat.le_of_ble_eq_true rfl) d_M_order_18 ⟨Nat.zero_le _, Nat.zero_le _⟩ (fun H locs G => ?_)
    refine fk_cvi S E G 89 (by decide) (congrArg (fk_ce g ov 89 (M 89)) kd_89) rfl (rest := []) (c_M_throwing l g ov M 0 ((fk_ou v o).toNat) (by decide) (fk_bl _)) m_M_throwing i_724 ⟨rfl, rfl⟩ ⟨by decide, by decide⟩ rfl rfl hl.1 (Nat.le_of_ble_eq_true rfl) d_M_order_21 ⟨Nat.zero_le _, Nat.zero_le _⟩ (fun H locs G => ?_)
    obtain ⟨M1, hM1⟩ : ∃ z : fk_M, z = fk_th M (fk_tc 0 (fk_ou v o).toNat) := ⟨_, rfl⟩
    rw [← hM1] at G
    refine fk_zeq (tgt := 31) S.1 S.2.1 (fk_bl _) d_M_order_24 rfl (fun hc2 => ?_) (fun hc2 => ?_)
    · have hz := of_decide_eq_false (fk_bf hc2)
      obtain ⟨-, hz2⟩ := fk_tc00 hz
      obtain ⟨j, hj1, hj2⟩ := fk_ou_in (by omega) (fk_bf hz2)
      have ec : M1 108 = M 108 := by rw [hM1]; exact fk_th_ne (by decide)
      subst hj2
      refine lv_aload_n S.1 S.2.1 d_M_order_31 rfl (lv_at hl 0 rfl) ?_
      refine fk_gf S E G 89 (by decide) (v := .ref (fk_a g 108)) (congrArg (fk_ce g ov 89 (M1 89)) kd_89) rfl 26 (by decide) rfl i_648 rfl d_M_order_32 ?_
      refine lv_iload_n S.1 S.2.1 d_M_order_35 rfl (lv_at hl 1 rfl) ?_
      refine fk_ia S E G 108 (by decide) (congrArg (fk_ce g ov 108 (M1 108)) kd_108) j rfl (by omega) (by decide) (v := M 108 j) (by rw [ec]) d_M_order_36 ?_
      exact fk_iret S hr hlk E G hM1 (by rw [if_neg hz, nI_clamp (by omega)]) d_M_order_37
    · have hz := of_decide_eq_true (fk_bt hc2)
      refine lv_iconst (v := nI 0) S.1 S.2.1 d_M_order_27 (by decide +kernel) ?_
      refine lv_goto (tgt := 37) S.1 S.2.1 d_M_order_28 rfl ?_
      exact fk_iret S hr hlk E G hM1 (by rw [if_pos hz]) d_M_order_37
  · refine lv_iconst (v := nI 1) S.1 S.2.1 d_M_order_8 (by decide +kernel) ?_
    refine lv_goto (tgt := 13) S.1 S.2.1 d_M_order_9 rfl ?_
    have hF : (decide (M 89 23 = 0)).toNat = 1 := by rw [decide_eq_true hc1]; rfl
    rw [hF]
    refine lv_iload_n S.1 S.2.1 d_M_order_13 rfl (lv_at hl 1 rfl) ?_
    refine lv_aload_n S.1 S.2.1 d_M_order_14 rfl (lv_at hl 0 rfl) ?_
    refine fk_gf S E G 89 (by decide) (v := .int (M 89 27)) (congrArg (fk_ce g ov 89 (M 89)) kd_89) rfl 27 (by decide) rfl i_649 rfl d_M_order_15 ?_
    rw [ho]
    refine fk_csi S E G (rest := [.int (nI 1), .ref (fk_a g 89)]) (c_M_out l g ov M v o) m_M_out i_760 ⟨rfl, rfl⟩ ⟨by decide, by decide⟩ rfl rfl hl.1 (Nat.le_of_ble_eq_true rfl) d_M_order_18 ⟨Nat.zero_le _, Nat.zero_le _⟩ (fun H locs G => ?_)
    refine fk_cvi S E G 89 (by decide) (congrArg (fk_ce g ov 89 (M 89)) kd_89) rfl (rest := []) (c_M_throwing l g ov M 1 ((fk_ou v o).toNat) (by decide) (fk_bl _)) m_M_throwing i_724 ⟨rfl, rfl⟩ ⟨by decide, by decide⟩ rfl rfl hl.1 (Nat.le_of_ble_eq_true rfl) d_M_order_21 ⟨Nat.zero_le _, Nat.zero_le _⟩ (fun H locs G => ?_)
    obtain ⟨M1, hM1⟩ : ∃ z : fk_M, z = fk_th M (fk_tc 1 (fk_ou v o).toNat) := ⟨_, rfl⟩
    rw [← hM1] at G
    refine fk_zeq (tgt := 31) S.1 S.2.1 (fk_bl _) d_M_order_24 rfl (fun hc3 => ?_) (fun hc3 => ?_)
    · have hz := of_decide_eq_false (fk_bf hc3)
      obtain ⟨-, hz2⟩ := fk_tc00 hz
      obtain ⟨j, hj1, hj2⟩ := fk_ou_in (by omega) (fk_bf hz2)
      have ec : M1 108 = M 108 := by rw [hM1]; exact fk_th_ne (by decide)
      subst hj2
      refine lv_aload_n S.1 S.2.1 d_M_order_31 rfl (lv_at hl 0 rfl) ?_
      refine fk_gf S E G 89 (by decide) (v := .ref (fk_a g 108)) (congrArg (fk_ce g ov 89 (M1 89)) kd_89) rfl 26 (by decide) rfl i_648 rfl d_M_order_32 ?_
      refine lv_iload_n S.1 S.2.1 d_M_order_35 rfl (lv_at hl 1 rfl) ?_
      refine fk_ia S E G 108 (by decide) (congrArg (fk_ce g ov 108 (M1 108)) kd_108) j rfl (by omega) (by decide) (v := M 108 j) (by rw [ec]) d_M_order_36 ?_
      exact fk_iret S hr hlk E G hM1 (by rw [if_neg hz, nI_clamp (by omega)]) d_M_order_37
    · have hz := of_decide_eq_true (fk_bt hc3)
      refine lv_iconst (v := nI 0) S.1 S.2.1 d_M_order_27 (by decide +kernel) ?_
      refine lv_goto (tgt := 37) S.1 S.2.1 d_M_order_28 rfl ?_
      exact fk_iret S hr hlk E G hM1 (by rw [if_pos hz]) d_M_order_37
theorem d_M_value_0 : decode b_M_value 0 = .ok (.iload_n 1, 1) := by decide +kernel
theorem d_M_value_1 : decode b_M_value 1 = .ok (.aload_n 0, 1) := by decide +kernel
theorem d_M_value_2 : decode b_M_value 2 = .ok (.getfield 94, 3) := by decide +kernel
theorem d_M_value_5 : decode b_M_value 5 = .ok (.invokestatic 128, 3) := by decide +kernel
theorem d_M_value_8 : decode b_M_value 8 = .ok (.istore_n 2, 1) := by decide +kernel
theorem d_M_value_9 : decode b_M_value 9 = .ok (.aload_n 0, 1) := by decide +kernel
theorem d_M_value_10 : decode b_M_value 10 = .ok (.iload_n 2, 1) := by decide +kernel
theorem d_M_value_11 : decode b_M_value 11 = .ok (.iload_n 2, 1) := by decide +kernel
theorem d_M_value_12 : decode b_M_value 12 = .ok (.ifCond .ne 16, 3) := by decide +kernel
theorem d_M_value_15 : decode b_M_value 15 = .ok (.aload_n 0, 1) := by decide +kernel
theorem d_M_value_16 : decode b_M_value 16 = .ok (.getfield 26, 3) := by decide +kernel
theorem d_M_value_19 : decode b_M_value 19 = .ok (.iload_n 1, 1) := by decide +kernel
theorem d_M_value_20 : decode b_M_value 20 = .ok (.iaload, 1) := by decide +kernel
theorem d_M_value_21 : decode b_M_value 21 = .ok (.ifCond .ne 7, 3) := by decide +kernel
theorem d_M_value_24 : decode b_M_value 24 = .ok (.iconst 1, 1) := by decide +kernel
theorem d_M_value_25 : decode b_M_value 25 = .ok (.goto 4, 3) := by decide +kernel
theorem d_M_value_28 : decode b_M_value 28 = .ok (.iconst 0, 1) := by decide +kernel
theorem d_M_value_29 : decode b_M_value 29 = .ok (.invokevirtual 97, 3) := by decide +kernel
theorem d_M_value_32 : decode b_M_value 32 = .ok (.ifCond .eq 7, 3) := by decide +kernel
theorem d_M_value_35 : decode b_M_value 35 = .ok (.iconst 0, 1) := by decide +kernel
theorem d_M_value_36 : decode b_M_value 36 = .ok (.goto 9, 3) := by decide +kernel
theorem d_M_value_39 : decode b_M_value 39 = .ok (.aload_n 0, 1) := by decide +kernel
theorem d_M_value_40 : decode b_M_value 40 = .ok (.getfield 23, 3) := by decide +kernel
theorem d_M_value_43 : decode b_M_value 43 = .ok (.iload_n 1, 1) := by decide +kernel
theorem d_M_value_44 : decode b_M_value 44 = .ok (.iaload, 1) := by decide +kernel
theorem d_M_value_45 : decode b_M_value 45 = .ok (.ireturn, 1) := by decide +kernel
theorem m_M_value : fk_MI y_M_value b_M_value 3 (some .int) 1 := ⟨i_849, i_847, i_848, i_8, by decide +kernel⟩
set_option maxHeartbeats 4000000 in
set_option maxRecDepth 100000 in
theorem c_M_value (l : Launch) (g : fk_G) (ov : Int64) (M : fk_M) (v : Int32) (n : Nat) (hn : M 89 1 = nI n) (h12 : n ≤ 12) : fk_CI l y_M_value b_M_value 3 (some .int) (fk_rm 1) g ov M (fk_th M (fk_tc (fk_ou v n).toNat (decide (¬ (fk_ou v n) = true ∧ M 95 v.toNatClampNeg = 0)).toNat)) [.ref (fk_a g 89), .int v] (if 0 < fk_tc (fk_ou v n).toNat (decide (¬ (fk_ou v n) = true ∧ M 95 v.toNatClampNeg = 0)).toNat then nI 0 else M 94 v.toNatClampNeg) := by
  refine fk_ofI rfl (Nat.le_of_ble_eq_true rfl) ?_
  intro p e s m args below meth c ls S hr hlk E G hl
  have hl : lv_has ls 3 [(0, .ref (fk_a g 89)), (1, .int v)] := hl
  refine lv_iload_n S.1 S.2.1 d_M_value_0 rfl (lv_at hl 1 rfl) ?_
  refine lv_aload_n S.1 S.2.1 d_M_value_1 rfl (lv_at hl 0 rfl) ?_
  refine fk_gf S E G 89 (by decide) (v := .int (M 89 1)) (congrArg (fk_ce g ov 89 (M 89)) kd_89) rfl 1 (by decide) rfl i_623 rfl d_M_value_2 ?_
  rw [hn]
  refine fk_csi S E G (rest := []) (c_M_out l g ov M v n) m_M_out i_760 ⟨rfl, rfl⟩ ⟨by decide, by decide⟩ rfl rfl hl.1 (Nat.le_of_ble_eq_true rfl) d_M_value_5 ⟨Nat.zero_le _, Nat.zero_le _⟩ (fun H locs G => ?_)
  refine lv_istore_n (lv' := [(2, .int (nI ((fk_ou v n).toNat))), (0, .ref (fk_a g 89)), (1, .int v)]) S.1 S.2.1 d_M_value_8 rfl hl (by decide) rfl (fun ls hl => ?_)
  refine lv_aload_n S.1 S.2.1 d_M_value_9 rfl (lv_at hl 1 rfl) ?_
  refine lv_iload_n S.1 S.2.1 d_M_value_10 rfl (lv_at hl 0 rfl) ?_
  refine lv_iload_n S.1 S.2.1 d_M_value_11 rfl (lv_at hl 0 rfl) ?_
  refine fk_zne (tgt := 28) S.1 S.2.1 (fk_bl _) d_M_value_12 rfl (fun hc1 => ?_) (fun hc1 => ?_)
  · have hbt := fk_bt hc1
    refine lv_iconst (v := nI 0) S.1 S.2.1 d_M_value_28 (by decide +kernel) ?_
    have hQ : (decide (¬ (fk_ou v n) = true ∧ M 95 v.toNatClampNeg = 0)).toNat = 0 := by rw [decide_eq_false (fun q => q.1 hbt)]; rfl
    rw [hQ]
    refine fk_cvi S E G 89 (by decide) (congrArg (fk_ce g ov 89 (M 89)) kd_89) rfl (rest := []) (c_M_throwing l g ov M ((fk_ou v n).toNat) 0 (fk_bl _) (by decide)) m_M_throwing i_724 ⟨rfl, rfl⟩ ⟨by decide, by decide⟩ rfl rfl hl.1 (Nat.le_of_ble_eq_true rfl) d_M_value_29 ⟨Nat.zero_le _, Nat.zero_le _⟩ (fun H locs G => ?_)
    obtain ⟨M1, hM1⟩ : ∃ z : fk_M, z = fk_th M (fk_tc (fk_ou v n).toNat 0) := ⟨_, rfl⟩
    rw [← hM1] at G
    refine fk_zeq (tgt := 39) S.1 S.2.1 (fk_bl _) d_M_value_32 rfl (fun hc2 => ?_) (fun hc2 => ?_)
    · have hz := of_decide_eq_false (fk_bf hc2)
      have hz3 := fk_bf (fk_tc00 hz).1
      rw [hbt] at hz3
      cases hz3
    · have hz := of_decide_eq_true (fk_bt hc2)
      refine lv_iconst (v := nI 0) S.1 S.2.1 d_M_value_35 (by decide +kernel) ?_
      refine lv_goto (tgt := 45) S.1 S.2.1 d_M_value_36 rfl ?_
      exact fk_iret S hr hlk E G hM1 (by rw [if_pos hz]) d_M_value_45
  · have hbt := fk_bf hc1
    obtain ⟨j, hj1, hj2⟩ := fk_ou_in (by omega) hbt
    subst hj2
    refine lv_aload_n S.1 S.2.1 d_M_value_15 rfl (lv_at hl 1 rfl) ?_
    refine fk_gf S E G 89 (by decide) (v := .ref (fk_a g 95)) (congrArg (fk_ce g ov 89 (M 89)) kd_89) rfl 7 (by decide) rfl i_629 rfl d_M_value_16 ?_
    refine lv_iload_n S.1 S.2.1 d_M_value_19 rfl (lv_at hl 2 rfl) ?_
    refine fk_ia S E G 95 (by decide) (congrArg (fk_ce g ov 95 (M 95)) kd_95) j rfl (by omega) (by decide) (v := M 95 j) rfl d_M_value_20 ?_
    refine lv_if_ne (tgt := 28) S.1 S.2.1 d_M_value_21 rfl (fun hc3 => ?_) (fun hc3 => ?_)
    · refine lv_iconst (v := nI 0) S.1 S.2.1 d_M_value_28 (by decide +kernel) ?_
      have hQ : (decide (¬ (fk_ou (nI j) n) = true ∧ M 95 (nI j).toNatClampNeg = 0)).toNat = 0 := by rw [decide_eq_false (fun q => hc3 (by have := q.2; rw [nI_clamp (by omega)] at this; exact this))]; rfl
      rw [hQ]
      refine fk_cvi S E G 89 (by decide) (congrArg (fk_ce g ov 89 (M 89)) kd_89) rfl (rest := []) (c_M_throwing l g ov M ((fk_ou (nI j) n).toNat) 0 (fk_bl _) (by decide)) m_M_throwing i_724 ⟨rfl, rfl⟩ ⟨by decide, by decide⟩ rfl rfl hl.1 (Nat.le_of_ble_eq_true rfl) d_M_value_29 ⟨Nat.zero_le _, Nat.zero_le _⟩ (fun H locs G => ?_)
      obtain ⟨M1, hM1⟩ : ∃ z : fk_M, z = fk_th M (fk_tc (fk_ou (nI j) n).toNat 0) := ⟨_, rfl⟩
      rw [← hM1] at G
      refine fk_zeq (tgt := 39) S.1 S.2.1 (fk_bl _) d_M_value_32 rfl (fun hc4 => ?_) (fun hc4 => ?_)
      · have hz := of_decide_eq_false (fk_bf hc4)
        have ec : M1 94 = M 94 := by rw [hM1]; exact fk_th_ne (by decide)
        refine lv_aload_n S.1 S.2.1 d_M_value_39 rfl (lv_at hl 1 rfl) ?_
        refine fk_gf S E G 89 (by decide) (v := .ref (fk_a g 94)) (congrArg (fk_ce g ov 89 (M1 89)) kd_89) rfl 6 (by decide) rfl i_628 rfl d_M_value_40 ?_
        refine lv_iload_n S.1 S.2.1 d_M_value_43 rfl (lv_at hl 2 rfl) ?_
        refine fk_ia S E G 94 (by decide) (congrArg (fk_ce g ov 94 (M1 94)) kd_94) j rfl (by omega) (by decide) (v := M 94 j) (by rw [ec]) d_M_value_44 ?_
        exact fk_iret S hr hlk E G hM1 (by rw [if_neg hz, nI_clamp (by omega)]) d_M_value_45
      · have hz := of_decide_eq_true (fk_bt hc4)
        refine lv_iconst (v := nI 0) S.1 S.2.1 d_M_value_35 (by decide +kernel) ?_
        refine lv_goto (tgt := 45) S.1 S.2.1 d_M_value_36 rfl ?_
        exact fk_iret S hr hlk E G hM1 (by rw [if_pos hz]) d_M_value_45
    · refine lv_iconst (v := nI 1) S.1 S.2.1 d_M_value_24 (by decide +kernel) ?_
      refine lv_goto (tgt := 29) S.1 S.2.1 d_M_value_25 rfl ?_
      have hQ : (decide (¬ (fk_ou (nI j) n) = true ∧ M 95 (nI j).toNatClampNeg = 0)).toNat = 1 := by rw [decide_eq_true ⟨by rw [hbt]; decide, by rw [nI_clamp (by omega)]; exact hc3⟩]; rfl
      rw [hQ]
      refine fk_cvi S E G 89 (by decide) (congrArg (fk_ce g ov 89 (M 89)) kd_89) rfl (rest := []) (c_M_throwing l g ov M ((fk_ou (nI j) n).toNat) 1 (fk_bl _) (by decide)) m_M_throwing i_724 ⟨rfl, rfl⟩ ⟨by decide, by decide⟩ rfl rfl hl.1 (Nat.le_of_ble_eq_true rfl) d_M_value_29 ⟨Nat.zero_le _, Nat.zero_le _⟩ (fun H locs G => ?_)
      obtain ⟨M1, hM1⟩ : ∃ z : fk_M, z = fk_th M (fk_tc (fk_ou (nI j) n).toNat 1) := ⟨_, rfl⟩
      rw [← hM1] at G
      refine fk_zeq (tgt := 39) S.1 S.2.1 (fk_bl _) d_M_value_32 rfl (fun hc5 => ?_) (fun hc5 => ?_)
      · have hz := of_decide_eq_false (fk_bf hc5)
        have ec : M1 94 = M 94 := by rw [hM1]; exact fk_th_ne (by decide)
        refine lv_aload_n S.1 S.2.1 d_M_value_39 rfl (lv_at hl 1 rfl) ?_
        refine fk_gf S E G 89 (by decide) (v := .ref (fk_a g 94)) (congrArg (fk_ce g ov 89 (M1 89)) kd_89) rfl 6 (by decide) rfl i_628 rfl d_M_value_40 ?_
        refine lv_iload_n S.1 S.2.1 d_M_value_43 rfl (lv_at hl 2 rfl) ?_
        refine fk_ia S E G 94 (by decide) (congrArg (fk_ce g ov 94 (M1 94)) kd_94) j rfl (by omega) (by decide) (v := M 94 j) (by rw [ec]) d_M_value_44 ?_
        exact fk_iret S hr hlk E G hM1 (by rw [if_neg hz, nI_clamp (by omega)]) d_M_value_45
      · have hz := of_decide_eq_true (fk_bt hc5)
        refine lv_iconst (v := nI 0) S.1 S.2.1 d_M_value_35 (by decide +kernel) ?_
        refine lv_goto (tgt := 45) S.1 S.2.1 d_M_value_36 rfl ?_
        exact fk_iret S hr hlk E G hM1 (by rw [if_pos hz]) d_M_value_45
theorem d_M_set_0 : decode b_M_set 0 = .ok (.aload_n 0, 1) := by decide +kernel
theorem d_M_set_1 : decode b_M_set 1 = .ok (.iload_n 1, 1) := by decide +kernel
theorem d_M_set_2 : decode b_M_set 2 = .ok (.aload_n 0, 1) := by decide +kernel
theorem d_M_set_3 : decode b_M_set 3 = .ok (.getfield 94, 3) := by decide +kernel
theorem d_M_set_6 : decode b_M_set 6 = .ok (.invokestatic 128, 3) := by decide +kernel
theorem d_M_set_9 : decode b_M_set 9 = .ok (.ifCond .ne 12, 3) := by decide +kernel
theorem d_M_set_12 : decode b_M_set 12 = .ok (.aload_n 0, 1) := by decide +kernel
theorem d_M_set_13 : decode b_M_set 13 = .ok (.getfield 13, 3) := by decide +kernel
theorem d_M_set_16 : decode b_M_set 16 = .ok (.iload_n 1, 1) := by decide +kernel
theorem d_M_set_17 : decode b_M_set 17 = .ok (.baload, 1) := by decide +kernel
theorem d_M_set_18 : decode b_M_set 18 = .ok (.ifCond .ne 7, 3) := by decide +kernel
theorem d_M_set_21 : decode b_M_set 21 = .ok (.iconst 1, 1) := by decide +kernel
theorem d_M_set_22 : decode b_M_set 22 = .ok (.goto 4, 3) := by decide +kernel
theorem d_M_set_25 : decode b_M_set 25 = .ok (.iconst 0, 1) := by decide +kernel
theorem d_M_set_26 : decode b_M_set 26 = .ok (.iconst 0, 1) := by decide +kernel
theorem d_M_set_27 : decode b_M_set 27 = .ok (.invokevirtual 97, 3) := by decide +kernel
theorem d_M_set_30 : decode b_M_set 30 = .ok (.ifCond .eq 4, 3) := by decide +kernel
theorem d_M_set_33 : decode b_M_set 33 = .ok (.return_, 1) := by decide +kernel
theorem d_M_set_34 : decode b_M_set 34 = .ok (.aload_n 0, 1) := by decide +kernel
theorem d_M_set_35 : decode b_M_set 35 = .ok (.getfield 20, 3) := by decide +kernel
theorem d_M_set_38 : decode b_M_set 38 = .ok (.iload_n 1, 1) := by decide +kernel
theorem d_M_set_39 : decode b_M_set 39 = .ok (.aload_n 0, 1) := by decide +kernel
theorem d_M_set_40 : decode b_M_set 40 = .ok (.getfield 7, 3) := by decide +kernel
theorem d_M_set_43 : decode b_M_set 43 = .ok (.iload_n 1, 1) := by decide +kernel
theorem d_M_set_44 : decode b_M_set 44 = .ok (.baload, 1) := by decide +kernel
theorem d_M_set_45 : decode b_M_set 45 = .ok (.ifCond .eq 11, 3) := by decide +kernel
theorem d_M_set_48 : decode b_M_set 48 = .ok (.iload_n 2, 1) := by decide +kernel
theorem d_M_set_49 : decode b_M_set 49 = .ok (.ifCond .eq 7, 3) := by decide +kernel
theorem d_M_set_52 : decode b_M_set 52 = .ok (.iconst 1, 1) := by decide +kernel
theorem d_M_set_53 : decode b_M_set 53 = .ok (.goto 4, 3) := by decide +kernel
theorem d_M_set_56 : decode b_M_set 56 = .ok (.iload_n 2, 1) := by decide +kernel
theorem d_M_set_57 : decode b_M_set 57 = .ok (.iastore, 1) := by decide +kernel
theorem d_M_set_58 : decode b_M_set 58 = .ok (.return_, 1) := by decide +kernel
theorem m_M_set : fk_MI y_M_set b_M_set 3 none 2 := ⟨i_814, i_812, i_813, i_8, by decide +kernel⟩
set_option maxHeartbeats 4000000 in
set_option maxRecDepth 100000 in
theorem c_M_set (l : Launch) (g : fk_G) (ov : Int64) (M : fk_M) (v x : Int32) (n : Nat) (hn : M 89 1 = nI n) (h12 : n ≤ 12) : fk_CV l y_M_set b_M_set 3 (fk_rm 1) g ov M (if 0 < (decide ((fk_ou v n) = true ∨ M 91 v.toNatClampNeg = 0)).toNat then fk_th M 1 else va_up (fk_th M 0) 93 (upd (M 93) v.toNatClampNeg (if ¬ M 90 v.toNatClampNeg = 0 ∧ ¬ x = 0 then nI 1 else x))) [.ref (fk_a g 89), .int v, .int x] := by
  refine fk_ofV rfl (Nat.le_of_ble_eq_true rfl) ?_
  intro p e s m args below meth c ls S hr hlk E G hl
  have hl : lv_has ls 3 [(0, .ref (fk_a g 89)), (1, .int v), (2, .int x)] := hl
  refine lv_aload_n S.1 S.2.1 d_M_set_0 rfl (lv_at hl 0 rfl) ?_
  refine lv_iload_n S.1 S.2.1 d_M_set_1 rfl (lv_at hl 1 rfl) ?_
  refine lv_aload_n S.1 S.2.1 d_M_set_2 rfl (lv_at hl 0 rfl) ?_
  refine fk_gf S E G 89 (by decide) (v := .int (M 89 1)) (congrArg (fk_ce g ov 89 (M 89)) kd_89) rfl 1 (by decide) rfl i_623 rfl d_M_set_3 ?_
  rw [hn]
  refine fk_csi S E G (rest := [.ref (fk_a g 89)]) (c_M_out l g ov M v n) m_M_out i_760 ⟨rfl, rfl⟩ ⟨by decide, by decide⟩ rfl rfl hl.1 (Nat.le_of_ble_eq_true rfl) d_M_set_6 ⟨Nat.zero_le _, Nat.zero_le _⟩ (fun H locs G => ?_)
  refine fk_zne (tgt := 21) S.1 S.2.1 (fk_bl _) d_M_set_9 rfl (fun hc1 => ?_) (fun hc1 => ?_)
  · have hbt := fk_bt hc1
    refine lv_iconst (v := nI 1) S.1 S.2.1 d_M_set_21 (by decide +kernel) ?_
    refine lv_goto (tgt := 26) S.1 S.2.1 d_M_set_22 rfl ?_
    have hBD : (decide ((fk_ou v n) = true ∨ M 91 v.toNatClampNeg = 0)).toNat = 1 := by rw [decide_eq_true (Or.inl hbt)]; rfl
    refine lv_iconst (v := nI 0) S.1 S.2.1 d_M_set_26 (by decide +kernel) ?_
    refine fk_cvi S E G 89 (by decide) (congrArg (fk_ce g ov 89 (M 89)) kd_89) rfl (rest := []) (c_M_throwing l g ov M 1 0 (by decide) (by decide)) m_M_throwing i_724 ⟨rfl, rfl⟩ ⟨by decide, by decide⟩ rfl rfl hl.1 (Nat.le_of_ble_eq_true rfl) d_M_set_27 ⟨Nat.zero_le _, Nat.zero_le _⟩ (fun H locs G => ?_)
    change fk_H g ov (fk_th M 1) s H locs at G
    refine fk_zeq (tgt := 34) S.1 S.2.1 (fk_bl _) d_M_set_30 rfl (fun hc2 => ?_) (fun hc2 => ?_)
    · exact absurd hc2 (by decide)
    · exact fk_vret S hr hlk E G (by rw [hBD, if_pos (by decide)]) d_M_set_33
  · have hbt := fk_bf hc1
    obtain ⟨j, hj1, hj2⟩ := fk_ou_in (by omega) hbt
    have hcl : v.toNatClampNeg = j := by rw [hj2, nI_clamp (by omega)]
    rw [hcl]
    subst hj2
    refine lv_aload_n S.1 S.2.1 d_M_set_12 rfl (lv_at hl 0 rfl) ?_
    refine fk_gf S E G 89 (by decide) (v := .ref (fk_a g 91)) (congrArg (fk_ce g ov 89 (M 89)) kd_89) rfl 3 (by decide) rfl i_625 rfl d_M_set_13 ?_
    refine lv_iload_n S.1 S.2.1 d_M_set_16 rfl (lv_at hl 1 rfl) ?_
    refine fk_za S E G 91 (by decide) (congrArg (fk_ce g ov 91 (M 91)) kd_91) j rfl (by omega) (by decide) (v := M 91 j) rfl d_M_set_17 ?_
    refine lv_if_ne (tgt := 25) S.1 S.2.1 d_M_set_18 rfl (fun hc3 => ?_) (fun hc3 => ?_)
    · have hBD : (decide ((fk_ou (nI j) n) = true ∨ M 91 j = 0)).toNat = 0 := by rw [decide_eq_false (fun q => q.elim (fun q => by rw [hbt] at q; cases q) hc3)]; rfl
      refine lv_iconst (v := nI 0) S.1 S.2.1 d_M_set_25 (by decide +kernel) ?_
      refine lv_iconst (v := nI 0) S.1 S.2.1 d_M_set_26 (by decide +kernel) ?_
      refine fk_cvi S E G 89 (by decide) (congrArg (fk_ce g ov 89 (M 89)) kd_89) rfl (rest := []) (c_M_throwing l g ov M 0 0 (by decide) (by decide)) m_M_throwing i_724 ⟨rfl, rfl⟩ ⟨by decide, by decide⟩ rfl rfl hl.1 (Nat.le_of_ble_eq_true rfl) d_M_set_27 ⟨Nat.zero_le _, Nat.zero_le _⟩ (fun H locs G => ?_)
      change fk_H g ov (fk_th M 0) s H locs at G
      obtain ⟨M1, hM1⟩ : ∃ z : fk_M, z = fk_th M 0 := ⟨_, rfl⟩
      rw [← hM1] at G
      refine fk_zeq (tgt := 34) S.1 S.2.1 (fk_bl _) d_M_set_30 rfl (fun hc4 => ?_) (fun hc4 => ?_)
      · have e93 : M1 93 = M 93 := by rw [hM1]; exact fk_th_ne (by decide)
        have e90 : M1 90 = M 90 := by rw [hM1]; exact fk_th_ne (by decide)
        refine lv_aload_n S.1 S.2.1 d_M_set_34 rfl (lv_at hl 0 rfl) ?_
        refine fk_gf S E G 89 (by decide) (v := .ref (fk_a g 93)) (congrArg (fk_ce g ov 89 (M1 89)) kd_89) rfl 5 (by decide) rfl i_627 rfl d_M_set_35 ?_
        refine lv_iload_n S.1 S.2.1 d_M_set_38 rfl (lv_at hl 1 rfl) ?_
        refine lv_aload_n S.1 S.2.1 d_M_set_39 rfl (lv_at hl 0 rfl) ?_
        refine fk_gf S E G 89 (by decide) (v := .ref (fk_a g 90)) (congrArg (fk_ce g ov 89 (M1 89)) kd_89) rfl 2 (by decide) rfl i_624 rfl d_M_set_40 ?_
        refine lv_iload_n S.1 S.2.1 d_M_set_43 rfl (lv_at hl 1 rfl) ?_
        refine fk_za S E G 90 (by decide) (congrArg (fk_ce g ov 90 (M1 90)) kd_90) j rfl (by omega) (by decide) (v := M 90 j) (by rw [e90]) d_M_set_44 ?_
        refine lv_if_eq (tgt := 56) S.1 S.2.1 d_M_set_45 rfl (fun hc5 => ?_) (fun hc5 => ?_)
        · refine lv_iload_n S.1 S.2.1 d_M_set_56 rfl (lv_at hl 2 rfl) ?_
          refine fk_is S E G 93 (by decide) (fun r => congrArg (fk_ce g ov 93 r) kd_93) j rfl (by omega) (by decide) d_M_set_57 (fun H locs G => ?_)
          obtain ⟨M6, hM6⟩ : ∃ z : fk_M, z = va_up M1 93 (upd (M1 93) j x) := ⟨_, rfl⟩
          rw [← hM6] at G
          exact fk_vret S hr hlk E G (by rw [hBD, if_neg (by decide), hM6, e93, hM1, if_neg (fun q => q.1 hc5)]) d_M_set_58
        · refine lv_iload_n S.1 S.2.1 d_M_set_48 rfl (lv_at hl 2 rfl) ?_
          refine lv_if_eq (tgt := 56) S.1 S.2.1 d_M_set_49 rfl (fun hc7 => ?_) (fun hc7 => ?_)
          · refine lv_iload_n S.1 S.2.1 d_M_set_56 rfl (lv_at hl 2 rfl) ?_
            refine fk_is S E G 93 (by decide) (fun r => congrArg (fk_ce g ov 93 r) kd_93) j rfl (by omega) (by decide) d_M_set_57 (fun H locs G => ?_)
            obtain ⟨M8, hM8⟩ : ∃ z : fk_M, z = va_up M1 93 (upd (M1 93) j x) := ⟨_, rfl⟩
            rw [← hM8] at G
            exact fk_vret S hr hlk E G (by rw [hBD, if_neg (by decide), hM8, e93, hM1, if_neg (fun q => q.2 hc7)]) d_M_set_58
          · refine lv_iconst (v := nI 1) S.1 S.2.1 d_M_set_52 (by decide +kernel) ?_
            refine lv_goto (tgt := 57) S.1 S.2.1 d_M_set_53 rfl ?_
            refine fk_is S E G 93 (by decide) (fun r => congrArg (fk_ce g ov 93 r) kd_93) j rfl (by omega) (by decide) d_M_set_57 (fun H locs G => ?_)
            obtain ⟨M9, hM9⟩ : ∃ z : fk_M, z = va_up M1 93 (upd (M1 93) j (nI 1)) := ⟨_, rfl⟩
            rw [← hM9] at G
            exact fk_vret S hr hlk E G (by rw [hBD, if_neg (by decide), hM9, e93, hM1, if_pos ⟨hc5, hc7⟩]) d_M_set_58
      · exact absurd hc4 (by decide)
    · refine lv_iconst (v := nI 1) S.1 S.2.1 d_M_set_21 (by decide +kernel) ?_
      refine lv_goto (tgt := 26) S.1 S.2.1 d_M_set_22 rfl ?_
      have hBD : (decide ((fk_ou (nI j) n) = true ∨ M 91 j = 0)).toNat = 1 := by rw [decide_eq_true (Or.inr hc3)]; rfl
      refine lv_iconst (v := nI 0) S.1 S.2.1 d_M_set_26 (by decide +kernel) ?_
      refine fk_cvi S E G 89 (by decide) (congrArg (fk_ce g ov 89 (M 89)) kd_89) rfl (rest := []) (c_M_throwing l g ov M 1 0 (by decide) (by decide)) m_M_throwing i_724 ⟨rfl, rfl⟩ ⟨by decide, by decide⟩ rfl rfl hl.1 (Nat.le_of_ble_eq_true rfl) d_M_set_27 ⟨Nat.zero_le _, Nat.zero_le _⟩ (fun H locs G => ?_)
      change fk_H g ov (fk_th M 1) s H locs at G
      refine fk_zeq (tgt := 34) S.1 S.2.1 (fk_bl _) d_M_set_30 rfl (fun hc10 => ?_) (fun hc10 => ?_)
      · exact absurd hc10 (by decide)
      · exact fk_vret S hr hlk E G (by rw [hBD, if_pos (by decide)]) d_M_set_33
