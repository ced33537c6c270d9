/-! The reference (FlowDeskModel): small methods. Written by wip/gen/s_mod.py. -/
def fk_th (M : fk_M) (q : Nat) : fk_M := va_up M 89 (upd (M 89) 0 (nI q))
def fk_tc (f q : Nat) : Nat := if f = 0 then (if q = 0 then 0 else 2) else 1
def fk_ou (v : Int32) (n : Nat) : Bool := decide (v < 0 ∨ ¬ v < nI n)
theorem fk_tc_le (f q : Nat) : fk_tc f q ≤ 2 := by unfold fk_tc; split <;> (try split) <;> omega
theorem fk_th_ne {M : fk_M} {q k : Nat} (h : k ≠ 89) : fk_th M q k = M k := va_up_ne _ _ h
theorem fk_th_s {M : fk_M} {q t : Nat} (h : t ≠ 0) : fk_th M q 89 t = M 89 t := by unfold fk_th; rw [va_up_self, pk_un h]
/-- v pushed on the stack of t -/
def fk_pu (M : fk_M) (t : Nat) (v : Int32) : fk_M := va_up (va_up M 109 (upd (M 109) t v)) 89 (upd (M 89) 29 (nI (t + 1)))
def fk_po (M : fk_M) (t : Nat) : fk_M := va_up M 89 (upd (M 89) 29 (nI t))
def fk_m1 (M : fk_M) (i : Nat) : fk_M := va_up (va_up (va_up M 94 (fk_fl (M 94) i 0)) 95 (fk_fl (M 95) i 0)) 96 (fk_fl (M 96) i 0)
def fk_m2 (M : fk_M) (i : Nat) : fk_M := va_up (va_up M 103 (fk_fl (M 103) i 0)) 105 (fk_fl (M 105) i 0)
/-- the reference's instants begin anew -/
def fk_mr (M : fk_M) : fk_M := fk_m2 (fk_m1 (va_up M 89 (upd (M 89) 22 (nI 0))) 12) 480
def fk_ma (M : fk_M) : fk_M := fk_mr (va_up M 89 (upd (upd (upd (M 89) 23 (nI 0)) 24 (-1)) 25 (-1)))
theorem fk_m1_0 (M : fk_M) : fk_m1 M 0 = M := by
  unfold fk_m1
  rw [fk_fl0, fk_fl0, fk_fl0, fk_upid]
  rw [show va_up M 95 (M 95) = M from fk_upid M 95, fk_upid]
theorem fk_m2_0 (M : fk_M) : fk_m2 M 0 = M := by
  unfold fk_m2
  rw [fk_fl0, fk_fl0, fk_upid, fk_upid]
/-- writes to different cells change places -/
theorem fk_sw (M : fk_M) {j k : Nat} (h : j ≠ k) (u v : Nat → Int32) : va_up (va_up M j u) k v = va_up (va_up M k v) j u := by
  funext i
  unfold va_up
  by_cases hi : i = k
  · rw [if_pos hi, if_neg (by omega), if_pos hi]
  · rw [if_neg hi]
    by_cases hj : i = j
    · rw [if_pos hj, if_pos hj]
    · rw [if_neg hj, if_neg hj, if_neg hi]
theorem fk_m1_S (M : fk_M) (i : Nat) : va_up (va_up (va_up (fk_m1 M i) 94 (upd (fk_fl (M 94) i 0) i 0)) 95 (upd (fk_fl (M 95) i 0) i 0)) 96 (upd (fk_fl (M 96) i 0) i 0) = fk_m1 M (i + 1) := by
  unfold fk_m1
  rw [fk_flS, fk_flS, fk_flS]
  funext k
  unfold va_up
  by_cases h1 : k = 96
  · simp only [h1, if_true]
  · by_cases h2 : k = 95
    · simp only [h1, h2, if_true, if_false]
    · by_cases h3 : k = 94
      · simp only [h1, h2, h3, if_true, if_false]
      · simp only [h1, h2, h3, if_false]
theorem fk_m2_S (M : fk_M) (i : Nat) : va_up (va_up (fk_m2 M i) 103 (upd (fk_fl (M 103) i 0) i 0)) 105 (upd (fk_fl (M 105) i 0) i 0) = fk_m2 M (i + 1) := by
  unfold fk_m2
  rw [fk_flS, fk_flS]
  funext k
  unfold va_up
  by_cases h1 : k = 105
  · simp only [h1, if_true]
  · by_cases h2 : k = 103
    · simp only [h1, h2, if_true, if_false]
    · simp only [h1, h2, if_false]
theorem fk_m1_at (M : fk_M) (i : Nat) : fk_m1 M i 94 = fk_fl (M 94) i 0 ∧ fk_m1 M i 95 = fk_fl (M 95) i 0 ∧ fk_m1 M i 96 = fk_fl (M 96) i 0 := ⟨rfl, rfl, rfl⟩
theorem fk_m2_at (M : fk_M) (i : Nat) : fk_m2 M i 103 = fk_fl (M 103) i 0 ∧ fk_m2 M i 105 = fk_fl (M 105) i 0 := ⟨rfl, rfl⟩
theorem d_M_thrown_0 : decode b_M_thrown 0 = .ok (.aload_n 0, 1) := by decide +kernel
theorem d_M_thrown_1 : decode b_M_thrown 1 = .ok (.getfield 78, 3) := by decide +kernel
theorem d_M_thrown_4 : decode b_M_thrown 4 = .ok (.ireturn, 1) := by decide +kernel
theorem m_M_thrown : fk_MI y_M_thrown b_M_thrown 1 (some .int) 0 := ⟨i_719, i_717, i_718, i_8, by decide +kernel⟩
set_option maxHeartbeats 4000000 in
set_option maxRecDepth 100000 in
theorem c_M_thrown (l : Launch) (g : fk_G) (ov : Int64) (M : fk_M)  : fk_CI l y_M_thrown b_M_thrown 1 (some .int) (fk_rm 0) g ov M M [.ref (fk_a g 89)] (M 89 0) := by
  refine fk_ofI rfl (Nat.le_of_ble_eq_true rfl) ?_
  intro p e s m args below meth c ls S hr hlk E G hl
  have hl : lv_has ls 1 [(0, .ref (fk_a g 89))] := hl
  refine lv_aload_n S.1 S.2.1 d_M_thrown_0 rfl (lv_at hl 0 rfl) ?_
  refine fk_gf S E G 89 (by decide) (v := .int (M 89 0)) (congrArg (fk_ce g ov 89 (M 89)) kd_89) rfl 0 (by decide) rfl i_622 rfl d_M_thrown_1 ?_
  exact fk_iret S hr hlk E G rfl rfl d_M_thrown_4
theorem d_M_throwing_0 : decode b_M_throwing 0 = .ok (.aload_n 0, 1) := by decide +kernel
theorem d_M_throwing_1 : decode b_M_throwing 1 = .ok (.iload_n 1, 1) := by decide +kernel
theorem d_M_throwing_2 : decode b_M_throwing 2 = .ok (.ifCond .eq 7, 3) := by decide +kernel
theorem d_M_throwing_5 : decode b_M_throwing 5 = .ok (.iconst 1, 1) := by decide +kernel
theorem d_M_throwing_6 : decode b_M_throwing 6 = .ok (.goto 12, 3) := by decide +kernel
theorem d_M_throwing_9 : decode b_M_throwing 9 = .ok (.iload_n 2, 1) := by decide +kernel
theorem d_M_throwing_10 : decode b_M_throwing 10 = .ok (.ifCond .eq 7, 3) := by decide +kernel
theorem d_M_throwing_13 : decode b_M_throwing 13 = .ok (.iconst 2, 1) := by decide +kernel
theorem d_M_throwing_14 : decode b_M_throwing 14 = .ok (.goto 4, 3) := by decide +kernel
theorem d_M_throwing_17 : decode b_M_throwing 17 = .ok (.iconst 0, 1) := by decide +kernel
theorem d_M_throwing_18 : decode b_M_throwing 18 = .ok (.putfield 78, 3) := by decide +kernel
theorem d_M_throwing_21 : decode b_M_throwing 21 = .ok (.aload_n 0, 1) := by decide +kernel
theorem d_M_throwing_22 : decode b_M_throwing 22 = .ok (.getfield 78, 3) := by decide +kernel
theorem d_M_throwing_25 : decode b_M_throwing 25 = .ok (.ifCond .le 7, 3) := by decide +kernel
theorem d_M_throwing_28 : decode b_M_throwing 28 = .ok (.iconst 1, 1) := by decide +kernel
theorem d_M_throwing_29 : decode b_M_throwing 29 = .ok (.goto 4, 3) := by decide +kernel
theorem d_M_throwing_32 : decode b_M_throwing 32 = .ok (.iconst 0, 1) := by decide +kernel
theorem d_M_throwing_33 : decode b_M_throwing 33 = .ok (.ireturn, 1) := by decide +kernel
theorem m_M_throwing : fk_MI y_M_throwing b_M_throwing 3 (some .boolean) 2 := ⟨i_727, i_726, fk_mp (q := (y_M_throwing, 31)) (by decide +kernel), i_8, by decide +kernel⟩
set_option maxHeartbeats 4000000 in
set_option maxRecDepth 100000 in
theorem c_M_throwing (l : Launch) (g : fk_G) (ov : Int64) (M : fk_M) (f q : Nat) (hf : f < 2 ^ 31) (hq : q < 2 ^ 31) : fk_CI l y_M_throwing b_M_throwing 3 (some .boolean) (fk_rm 0) g ov M (fk_th M (fk_tc f q)) [.ref (fk_a g 89), .int (nI f), .int (nI q)] (nI (decide (0 < fk_tc f q)).toNat) := by
  refine fk_ofI rfl (Nat.le_of_ble_eq_true rfl) ?_
  intro p e s m args below meth c ls S hr hlk E G hl
  have hl : lv_has ls 3 [(0, .ref (fk_a g 89)), (1, .int (nI f)), (2, .int (nI q))] := hl
  refine lv_aload_n S.1 S.2.1 d_M_throwing_0 rfl (lv_at hl 0 rfl) ?_
  refine lv_iload_n S.1 S.2.1 d_M_throwing_1 rfl (lv_at hl 1 rfl) ?_
  refine fk_zeq (tgt := 9) S.1 S.2.1 (by omega) d_M_throwing_2 rfl (fun hc1 => ?_) (fun hc1 => ?_)
  · refine lv_iload_n S.1 S.2.1 d_M_throwing_9 rfl (lv_at hl 2 rfl) ?_
    refine fk_zeq (tgt := 17) S.1 S.2.1 hq d_M_throwing_10 rfl (fun hc2 => ?_) (fun hc2 => ?_)
    · refine lv_iconst (v := nI 0) S.1 S.2.1 d_M_throwing_17 (by decide +kernel) ?_
      refine fk_pf S E G 89 (by decide) (congrArg (fk_ce g ov 89 (M 89)) kd_89) rfl 0 (by decide) rfl i_622 (upd (M 89) 0 (nI 0)) (congrArg (fk_ce g ov 89 (upd (M 89) 0 (nI 0))) kd_89) rfl (ty := (.int)) (by decide +kernel) rfl rfl (Nat.le_of_ble_eq_true rfl) d_M_throwing_18 (fun H locs G => ?_)
      obtain ⟨M3, hM3⟩ : ∃ z : fk_M, z = va_up M 89 (upd (M 89) 0 (nI 0)) := ⟨_, rfl⟩
      rw [← hM3] at G
      have h0 : M3 89 0 = nI 0 := by rw [hM3, va_up_self, pk_us]
      have htc : fk_tc f q = 0 := by unfold fk_tc; rw [if_pos hc1, if_pos hc2]
      refine lv_aload_n S.1 S.2.1 d_M_throwing_21 rfl (lv_at hl 0 rfl) ?_
      refine fk_gf S E G 89 (by decide) (v := .int (M3 89 0)) (congrArg (fk_ce g ov 89 (M3 89)) kd_89) rfl 0 (by decide) rfl i_622 rfl d_M_throwing_22 ?_
      rw [h0]
      refine fk_zle (tgt := 32) S.1 S.2.1 (by omega) d_M_throwing_25 rfl (fun hc4 => ?_) (fun hc4 => ?_)
      · refine lv_iconst (v := nI 0) S.1 S.2.1 d_M_throwing_32 (by decide +kernel) ?_
        exact fk_zret S hr hlk E G (by rw [hM3, htc]; rfl) (fk_b0 (by rw [htc]; rfl)) (fk_bz _) d_M_throwing_33
      · exact absurd hc4 (by decide)
    · refine lv_iconst (v := nI 2) S.1 S.2.1 d_M_throwing_13 (by decide +kernel) ?_
      refine lv_goto (tgt := 18) S.1 S.2.1 d_M_throwing_14 rfl ?_
      refine fk_pf S E G 89 (by decide) (congrArg (fk_ce g ov 89 (M 89)) kd_89) rfl 0 (by decide) rfl i_622 (upd (M 89) 0 (nI 2)) (congrArg (fk_ce g ov 89 (upd (M 89) 0 (nI 2))) kd_89) rfl (ty := (.int)) (by decide +kernel) rfl rfl (Nat.le_of_ble_eq_true rfl) d_M_throwing_18 (fun H locs G => ?_)
      obtain ⟨M5, hM5⟩ : ∃ z : fk_M, z = va_up M 89 (upd (M 89) 0 (nI 2)) := ⟨_, rfl⟩
      rw [← hM5] at G
      have h0 : M5 89 0 = nI 2 := by rw [hM5, va_up_self, pk_us]
      have htc : fk_tc f q = 2 := by unfold fk_tc; rw [if_pos hc1, if_neg (by omega)]
      refine lv_aload_n S.1 S.2.1 d_M_throwing_21 rfl (lv_at hl 0 rfl) ?_
      refine fk_gf S E G 89 (by decide) (v := .int (M5 89 0)) (congrArg (fk_ce g ov 89 (M5 89)) kd_89) rfl 0 (by decide) rfl i_622 rfl d_M_throwing_22 ?_
      rw [h0]
      refine fk_zle (tgt := 32) S.1 S.2.1 (by omega) d_M_throwing_25 rfl (fun hc6 => ?_) (fun hc6 => ?_)
      · exact absurd hc6 (by decide)
      · refine lv_iconst (v := nI 1) S.1 S.2.1 d_M_throwing_28 (by decide +kernel) ?_
        refine lv_goto (tgt := 33) S.1 S.2.1 d_M_throwing_29 rfl ?_
        exact fk_zret S hr hlk E G (by rw [hM5, htc]; rfl) (fk_b1 (by rw [htc]; rfl)) (fk_bz _) d_M_throwing_33
  · refine lv_iconst (v := nI 1) S.1 S.2.1 d_M_throwing_5 (by decide +kernel) ?_
    refine lv_goto (tgt := 18) S.1 S.2.1 d_M_throwing_6 rfl ?_
    refine fk_pf S E G 89 (by decide) (congrArg (fk_ce g ov 89 (M 89)) kd_89) rfl 0 (by decide) rfl i_622 (upd (M 89) 0 (nI 1)) (congrArg (fk_ce g ov 89 (upd (M 89) 0 (nI 1))) kd_89) rfl (ty := (.int)) (by decide +kernel) rfl rfl (Nat.le_of_ble_eq_true rfl) d_M_throwing_18 (fun H locs G => ?_)
    obtain ⟨M7, hM7⟩ : ∃ z : fk_M, z = va_up M 89 (upd (M 89) 0 (nI 1)) := ⟨_, rfl⟩
    rw [← hM7] at G
    have h0 : M7 89 0 = nI 1 := by rw [hM7, va_up_self, pk_us]
    have htc : fk_tc f q = 1 := by unfold fk_tc; rw [if_neg (by omega)]
    refine lv_aload_n S.1 S.2.1 d_M_throwing_21 rfl (lv_at hl 0 rfl) ?_
    refine fk_gf S E G 89 (by decide) (v := .int (M7 89 0)) (congrArg (fk_ce g ov 89 (M7 89)) kd_89) rfl 0 (by decide) rfl i_622 rfl d_M_throwing_22 ?_
    rw [h0]
    refine fk_zle (tgt := 32) S.1 S.2.1 (by omega) d_M_throwing_25 rfl (fun hc8 => ?_) (fun hc8 => ?_)
    · exact absurd hc8 (by decide)
    · refine lv_iconst (v := nI 1) S.1 S.2.1 d_M_throwing_28 (by decide +kernel) ?_
      refine lv_goto (tgt := 33) S.1 S.2.1 d_M_throwing_29 rfl ?_
      exact fk_zret S hr hlk E G (by rw [hM7, htc]; rfl) (fk_b1 (by rw [htc]; rfl)) (fk_bz _) d_M_throwing_33
theorem d_M_out_0 : decode b_M_out 0 = .ok (.iload_n 0, 1) := by decide +kernel
theorem d_M_out_1 : decode b_M_out 1 = .ok (.ifCond .lt 8, 3) := by decide +kernel
theorem d_M_out_4 : decode b_M_out 4 = .ok (.iload_n 0, 1) := by decide +kernel
theorem d_M_out_5 : decode b_M_out 5 = .ok (.iload_n 1, 1) := by decide +kernel
theorem d_M_out_6 : decode b_M_out 6 = .ok (.if_icmp .lt 7, 3) := by decide +kernel
theorem d_M_out_9 : decode b_M_out 9 = .ok (.iconst 1, 1) := by decide +kernel
theorem d_M_out_10 : decode b_M_out 10 = .ok (.goto 4, 3) := by decide +kernel
theorem d_M_out_13 : decode b_M_out 13 = .ok (.iconst 0, 1) := by decide +kernel
theorem d_M_out_14 : decode b_M_out 14 = .ok (.ireturn, 1) := by decide +kernel
theorem m_M_out : fk_MS y_M_out b_M_out 2 (some .boolean) 2 := ⟨i_762, i_761, i_8, by decide +kernel⟩
set_option maxHeartbeats 4000000 in
set_option maxRecDepth 100000 in
theorem c_M_out (l : Launch) (g : fk_G) (ov : Int64) (M : fk_M) (v : Int32) (n : Nat) : fk_CI l y_M_out b_M_out 2 (some .boolean) (fk_rm 0) g ov M M [.int v, .int (nI n)] (nI (fk_ou v n).toNat) := by
  refine fk_ofI rfl (Nat.le_of_ble_eq_true rfl) ?_
  intro p e s m args below meth c ls S hr hlk E G hl
  have hl : lv_has ls 2 [(0, .int v), (1, .int (nI n))] := hl
  refine lv_iload_n S.1 S.2.1 d_M_out_0 rfl (lv_at hl 0 rfl) ?_
  refine lv_if_lt (tgt := 9) S.1 S.2.1 d_M_out_1 rfl (fun hc1 => ?_) (fun hc1 => ?_)
  · refine lv_iconst (v := nI 1) S.1 S.2.1 d_M_out_9 (by decide +kernel) ?_
    refine lv_goto (tgt := 14) S.1 S.2.1 d_M_out_10 rfl ?_
    exact fk_zret S hr hlk E G rfl (fk_b1 (decide_eq_true (Or.inl hc1))) (fk_bz _) d_M_out_14
  · refine lv_iload_n S.1 S.2.1 d_M_out_4 rfl (lv_at hl 0 rfl) ?_
    refine lv_iload_n S.1 S.2.1 d_M_out_5 rfl (lv_at hl 1 rfl) ?_
    refine lv_icmp_lt (tgt := 13) S.1 S.2.1 d_M_out_6 rfl (fun hc2 => ?_) (fun hc2 => ?_)
    · refine lv_iconst (v := nI 0) S.1 S.2.1 d_M_out_13 (by decide +kernel) ?_
      exact fk_zret S hr hlk E G rfl (fk_b0 (decide_eq_false (fun q => q.elim hc1 (fun q => q hc2)))) (fk_bz _) d_M_out_14
    · refine lv_iconst (v := nI 1) S.1 S.2.1 d_M_out_9 (by decide +kernel) ?_
      refine lv_goto (tgt := 14) S.1 S.2.1 d_M_out_10 rfl ?_
      exact fk_zret S hr hlk E G rfl (fk_b1 (decide_eq_true (Or.inr hc2))) (fk_bz _) d_M_out_14
theorem d_M_push_0 : decode b_M_push 0 = .ok (.aload_n 0, 1) := by decide +kernel
theorem d_M_push_1 : decode b_M_push 1 = .ok (.getfield 75, 3) := by decide +kernel
theorem d_M_push_4 : decode b_M_push 4 = .ok (.aload_n 0, 1) := by decide +kernel
theorem d_M_push_5 : decode b_M_push 5 = .ok (.getfield 81, 3) := by decide +kernel
theorem d_M_push_8 : decode b_M_push 8 = .ok (.iload_n 1, 1) := by decide +kernel
theorem d_M_push_9 : decode b_M_push 9 = .ok (.iastore, 1) := by decide +kernel
theorem d_M_push_10 : decode b_M_push 10 = .ok (.aload_n 0, 1) := by decide +kernel
theorem d_M_push_11 : decode b_M_push 11 = .ok (.dup, 1) := by decide +kernel
theorem d_M_push_12 : decode b_M_push 12 = .ok (.getfield 81, 3) := by decide +kernel
theorem d_M_push_15 : decode b_M_push 15 = .ok (.iconst 1, 1) := by decide +kernel
theorem d_M_push_16 : decode b_M_push 16 = .ok (.iadd, 1) := by decide +kernel
theorem d_M_push_17 : decode b_M_push 17 = .ok (.putfield 81, 3) := by decide +kernel
theorem d_M_push_20 : decode b_M_push 20 = .ok (.return_, 1) := by decide +kernel
theorem m_M_push : fk_MI y_M_push b_M_push 2 none 1 := ⟨i_752, i_751, fk_mp (q := (y_M_push, 31)) (by decide +kernel), i_8, by decide +kernel⟩
set_option maxHeartbeats 4000000 in
set_option maxRecDepth 100000 in
theorem c_M_push (l : Launch) (g : fk_G) (ov : Int64) (M : fk_M) (t : Nat) (ht : M 89 29 = nI t) (h64 : t < 64) (v : Int32) : fk_CV l y_M_push b_M_push 2 (fk_rm 0) g ov M (fk_pu M t v) [.ref (fk_a g 89), .int v] := by
  refine fk_ofV rfl (Nat.le_of_ble_eq_true rfl) ?_
  intro p e s m args below meth c ls S hr hlk E G hl
  have hl : lv_has ls 2 [(0, .ref (fk_a g 89)), (1, .int v)] := hl
  refine lv_aload_n S.1 S.2.1 d_M_push_0 rfl (lv_at hl 0 rfl) ?_
  refine fk_gf S E G 89 (by decide) (v := .ref (fk_a g 109)) (congrArg (fk_ce g ov 89 (M 89)) kd_89) rfl 28 (by decide) rfl i_650 rfl d_M_push_1 ?_
  refine lv_aload_n S.1 S.2.1 d_M_push_4 rfl (lv_at hl 0 rfl) ?_
  refine fk_gf S E G 89 (by decide) (v := .int (M 89 29)) (congrArg (fk_ce g ov 89 (M 89)) kd_89) rfl 29 (by decide) rfl i_651 rfl d_M_push_5 ?_
  rw [ht]
  refine lv_iload_n S.1 S.2.1 d_M_push_8 rfl (lv_at hl 1 rfl) ?_
  refine fk_is S E G 109 (by decide) (fun r => congrArg (fk_ce g ov 109 r) kd_109) t rfl (by omega) (by decide) d_M_push_9 (fun H locs G => ?_)
  obtain ⟨M1, hM1⟩ : ∃ z : fk_M, z = va_up M 109 (upd (M 109) t v) := ⟨_, rfl⟩
  rw [← hM1] at G
  have e89 : M1 89 = M 89 := by rw [hM1, va_up_ne _ _ (by decide)]
  refine lv_aload_n S.1 S.2.1 d_M_push_10 rfl (lv_at hl 0 rfl) ?_
  refine lv_dup S.1 S.2.1 d_M_push_11 rfl ?_
  refine fk_gf S E G 89 (by decide) (v := .int (M1 89 29)) (congrArg (fk_ce g ov 89 (M1 89)) kd_89) rfl 29 (by decide) rfl i_651 rfl d_M_push_12 ?_
  rw [e89, ht]
  refine lv_iconst (v := nI 1) S.1 S.2.1 d_M_push_15 (by decide +kernel) ?_
  refine fk_iadd S.1 S.2.1 d_M_push_16 ?_
  refine fk_pf S E G 89 (by decide) (congrArg (fk_ce g ov 89 (M1 89)) kd_89) rfl 29 (by decide) rfl i_651 (upd (M1 89) 29 (nI (t + 1))) (congrArg (fk_ce g ov 89 (upd (M1 89) 29 (nI (t + 1)))) kd_89) rfl (ty := (.int)) (by decide +kernel) rfl rfl (Nat.le_of_ble_eq_true rfl) d_M_push_17 (fun H locs G => ?_)
  obtain ⟨M2, hM2⟩ : ∃ z : fk_M, z = va_up M1 89 (upd (M1 89) 29 (nI (t + 1))) := ⟨_, rfl⟩
  rw [← hM2] at G
  exact fk_vret S hr hlk E G (by rw [hM2, e89, hM1]; rfl) d_M_push_20
theorem d_M_pop_0 : decode b_M_pop 0 = .ok (.aload_n 0, 1) := by decide +kernel
theorem d_M_pop_1 : decode b_M_pop 1 = .ok (.dup, 1) := by decide +kernel
theorem d_M_pop_2 : decode b_M_pop 2 = .ok (.getfield 81, 3) := by decide +kernel
theorem d_M_pop_5 : decode b_M_pop 5 = .ok (.iconst 1, 1) := by decide +kernel
theorem d_M_pop_6 : decode b_M_pop 6 = .ok (.isub, 1) := by decide +kernel
theorem d_M_pop_7 : decode b_M_pop 7 = .ok (.putfield 81, 3) := by decide +kernel
theorem d_M_pop_10 : decode b_M_pop 10 = .ok (.aload_n 0, 1) := by decide +kernel
theorem d_M_pop_11 : decode b_M_pop 11 = .ok (.getfield 75, 3) := by decide +kernel
theorem d_M_pop_14 : decode b_M_pop 14 = .ok (.aload_n 0, 1) := by decide +kernel
theorem d_M_pop_15 : decode b_M_pop 15 = .ok (.getfield 81, 3) := by decide +kernel
theorem d_M_pop_18 : decode b_M_pop 18 = .ok (.iaload, 1) := by decide +kernel
theorem d_M_pop_19 : decode b_M_pop 19 = .ok (.ireturn, 1) := by decide +kernel
theorem m_M_pop : fk_MI y_M_pop b_M_pop 1 (some .int) 0 := ⟨i_756, i_755, fk_mp (q := (y_M_pop, 31)) (by decide +kernel), i_8, by decide +kernel⟩
set_option maxHeartbeats 4000000 in
set_option maxRecDepth 100000 in
theorem c_M_pop (l : Launch) (g : fk_G) (ov : Int64) (M : fk_M) (t : Nat) (ht : M 89 29 = nI (t + 1)) (h64 : t < 64) : fk_CI l y_M_pop b_M_pop 1 (some .int) (fk_rm 0) g ov M (fk_po M t) [.ref (fk_a g 89)] (M 109 t) := by
  refine fk_ofI rfl (Nat.le_of_ble_eq_true rfl) ?_
  intro p e s m args below meth c ls S hr hlk E G hl
  have hl : lv_has ls 1 [(0, .ref (fk_a g 89))] := hl
  refine lv_aload_n S.1 S.2.1 d_M_pop_0 rfl (lv_at hl 0 rfl) ?_
  refine lv_dup S.1 S.2.1 d_M_pop_1 rfl ?_
  refine fk_gf S E G 89 (by decide) (v := .int (M 89 29)) (congrArg (fk_ce g ov 89 (M 89)) kd_89) rfl 29 (by decide) rfl i_651 rfl d_M_pop_2 ?_
  rw [ht]
  refine lv_iconst (v := nI 1) S.1 S.2.1 d_M_pop_5 (by decide +kernel) ?_
  refine fk_isub S.1 S.2.1 (by omega) d_M_pop_6 ?_
  refine fk_pf S E G 89 (by decide) (congrArg (fk_ce g ov 89 (M 89)) kd_89) rfl 29 (by decide) rfl i_651 (upd (M 89) 29 (nI ((t + 1) - 1))) (congrArg (fk_ce g ov 89 (upd (M 89) 29 (nI ((t + 1) - 1)))) kd_89) rfl (ty := (.int)) (by decide +kernel) rfl rfl (Nat.le_of_ble_eq_true rfl) d_M_pop_7 (fun H locs G => ?_)
  obtain ⟨M1, hM1⟩ : ∃ z : fk_M, z = va_up M 89 (upd (M 89) 29 (nI ((t + 1) - 1))) := ⟨_, rfl⟩
  rw [← hM1] at G
  have h1 : M1 89 29 = nI t := by rw [hM1, va_up_self, pk_us, Nat.add_sub_cancel]
  have e9 : M1 109 = M 109 := by rw [hM1, va_up_ne _ _ (by decide)]
  refine lv_aload_n S.1 S.2.1 d_M_pop_10 rfl (lv_at hl 0 rfl) ?_
  refine fk_gf S E G 89 (by decide) (v := .ref (fk_a g 109)) (congrArg (fk_ce g ov 89 (M1 89)) kd_89) rfl 28 (by decide) rfl i_650 rfl d_M_pop_11 ?_
  refine lv_aload_n S.1 S.2.1 d_M_pop_14 rfl (lv_at hl 0 rfl) ?_
  refine fk_gf S E G 89 (by decide) (v := .int (M1 89 29)) (congrArg (fk_ce g ov 89 (M1 89)) kd_89) rfl 29 (by decide) rfl i_651 rfl d_M_pop_15 ?_
  rw [h1]
  refine fk_ia S E G 109 (by decide) (congrArg (fk_ce g ov 109 (M1 109)) kd_109) t rfl (by omega) (by decide) (v := M 109 t) (by rw [e9]) d_M_pop_18 ?_
  exact fk_iret S hr hlk E G (by rw [hM1, Nat.add_sub_cancel]; rfl) rfl d_M_pop_19
theorem d_M_many_0 : decode b_M_many 0 = .ok (.iload_n 0, 1) := by decide +kernel
theorem d_M_many_1 : decode b_M_many 1 = .ok (.iconst 4, 1) := by decide +kernel
theorem d_M_many_2 : decode b_M_many 2 = .ok (.if_icmp .ge 5, 3) := by decide +kernel
theorem d_M_many_5 : decode b_M_many 5 = .ok (.iconst 0, 1) := by decide +kernel
theorem d_M_many_6 : decode b_M_many 6 = .ok (.ireturn, 1) := by decide +kernel
theorem d_M_many_7 : decode b_M_many 7 = .ok (.iload_n 0, 1) := by decide +kernel
theorem d_M_many_8 : decode b_M_many 8 = .ok (.bipush 6, 2) := by decide +kernel
theorem d_M_many_10 : decode b_M_many 10 = .ok (.if_icmp .lt 21, 3) := by decide +kernel
theorem d_M_many_13 : decode b_M_many 13 = .ok (.iload_n 0, 1) := by decide +kernel
theorem d_M_many_14 : decode b_M_many 14 = .ok (.bipush 14, 2) := by decide +kernel
theorem d_M_many_16 : decode b_M_many 16 = .ok (.if_icmp .eq 15, 3) := by decide +kernel
theorem d_M_many_19 : decode b_M_many 19 = .ok (.iload_n 0, 1) := by decide +kernel
theorem d_M_many_20 : decode b_M_many 20 = .ok (.bipush 16, 2) := by decide +kernel
theorem d_M_many_22 : decode b_M_many 22 = .ok (.if_icmp .eq 9, 3) := by decide +kernel
theorem d_M_many_25 : decode b_M_many 25 = .ok (.iload_n 0, 1) := by decide +kernel
theorem d_M_many_26 : decode b_M_many 26 = .ok (.bipush 17, 2) := by decide +kernel
theorem d_M_many_28 : decode b_M_many 28 = .ok (.if_icmp .ne 5, 3) := by decide +kernel
theorem d_M_many_31 : decode b_M_many 31 = .ok (.iconst 1, 1) := by decide +kernel
theorem d_M_many_32 : decode b_M_many 32 = .ok (.ireturn, 1) := by decide +kernel
theorem d_M_many_33 : decode b_M_many 33 = .ok (.iload_n 0, 1) := by decide +kernel
theorem d_M_many_34 : decode b_M_many 34 = .ok (.bipush 13, 2) := by decide +kernel
theorem d_M_many_36 : decode b_M_many 36 = .ok (.if_icmp .ne 7, 3) := by decide +kernel
theorem d_M_many_39 : decode b_M_many 39 = .ok (.iconst 3, 1) := by decide +kernel
theorem d_M_many_40 : decode b_M_many 40 = .ok (.goto 4, 3) := by decide +kernel
theorem d_M_many_43 : decode b_M_many 43 = .ok (.iconst 2, 1) := by decide +kernel
theorem d_M_many_44 : decode b_M_many 44 = .ok (.ireturn, 1) := by decide +kernel
theorem m_M_many : fk_MS y_M_many b_M_many 1 (some .int) 1 := ⟨i_759, i_758, i_8, by decide +kernel⟩
set_option maxHeartbeats 4000000 in
set_option maxRecDepth 100000 in
theorem c_M_many (l : Launch) (g : fk_G) (ov : Int64) (M : fk_M) (k : Nat) (hk : k ≤ 18) : fk_CI l y_M_many b_M_many 1 (some .int) (fk_rm 0) g ov M M [.int (nI k)] (nI (fk_ar k)) := by
  refine fk_ofI rfl (Nat.le_of_ble_eq_true rfl) ?_
  intro p e s m args below meth c ls S hr hlk E G hl
  have hl : lv_has ls 1 [(0, .int (nI k))] := hl
  refine lv_iload_n S.1 S.2.1 d_M_many_0 rfl (lv_at hl 0 rfl) ?_
  refine lv_iconst (v := nI 4) S.1 S.2.1 d_M_many_1 (by decide +kernel) ?_
  refine fk_cge (tgt := 7) S.1 S.2.1 (by omega) (by omega) d_M_many_2 rfl (fun hc1 => ?_) (fun hc1 => ?_)
  · refine lv_iload_n S.1 S.2.1 d_M_many_7 rfl (lv_at hl 0 rfl) ?_
    refine lv_bipush (v := nI 6) S.1 S.2.1 d_M_many_8 (by decide +kernel) ?_
    refine fk_clt (tgt := 31) S.1 S.2.1 (by omega) (by omega) d_M_many_10 rfl (fun hc2 => ?_) (fun hc2 => ?_)
    · refine lv_iconst (v := nI 1) S.1 S.2.1 d_M_many_31 (by decide +kernel) ?_
      exact fk_iret S hr hlk E G rfl (by unfold fk_ar; (first | rw [if_pos (by omega)] | rw [if_neg (by omega), if_pos (by omega)] | rw [if_neg (by omega), if_neg (by omega), if_pos (by omega)] | rw [if_neg (by omega), if_neg (by omega), if_neg (by omega)])) d_M_many_32
    · refine lv_iload_n S.1 S.2.1 d_M_many_13 rfl (lv_at hl 0 rfl) ?_
      refine lv_bipush (v := nI 14) S.1 S.2.1 d_M_many_14 (by decide +kernel) ?_
      refine fk_ceq (tgt := 31) S.1 S.2.1 (by omega) (by omega) d_M_many_16 rfl (fun hc3 => ?_) (fun hc3 => ?_)
      · refine lv_iconst (v := nI 1) S.1 S.2.1 d_M_many_31 (by decide +kernel) ?_
        exact fk_iret S hr hlk E G rfl (by unfold fk_ar; (first | rw [if_pos (by omega)] | rw [if_neg (by omega), if_pos (by omega)] | rw [if_neg (by omega), if_neg (by omega), if_pos (by omega)] | rw [if_neg (by omega), if_neg (by omega), if_neg (by omega)])) d_M_many_32
      · refine lv_iload_n S.1 S.2.1 d_M_many_19 rfl (lv_at hl 0 rfl) ?_
        refine lv_bipush (v := nI 16) S.1 S.2.1 d_M_many_20 (by decide +kernel) ?_
        refine fk_ceq (tgt := 31) S.1 S.2.1 (by omega) (by omega) d_M_many_22 rfl (fun hc4 => ?_) (fun hc4 => ?_)
        · refine lv_iconst (v := nI 1) S.1 S.2.1 d_M_many_31 (by decide +kernel) ?_
          exact fk_iret S hr hlk E G rfl (by unfold fk_ar; (first | rw [if_pos (by omega)] | rw [if_neg (by omega), if_pos (by omega)] | rw [if_neg (by omega), if_neg (by omega), if_pos (by omega)] | rw [if_neg (by omega), if_neg (by omega), if_neg (by omega)])) d_M_many_32
        · refine lv_iload_n S.1 S.2.1 d_M_many_25 rfl (lv_at hl 0 rfl) ?_
          refine lv_bipush (v := nI 17) S.1 S.2.1 d_M_many_26 (by decide +kernel) ?_
          refine fk_cne (tgt := 33) S.1 S.2.1 (by omega) (by omega) d_M_many_28 rfl (fun hc5 => ?_) (fun hc5 => ?_)
          · refine lv_iload_n S.1 S.2.1 d_M_many_33 rfl (lv_at hl 0 rfl) ?_
            refine lv_bipush (v := nI 13) S.1 S.2.1 d_M_many_34 (by decide +kernel) ?_
            refine fk_cne (tgt := 43) S.1 S.2.1 (by omega) (by omega) d_M_many_36 rfl (fun hc6 => ?_) (fun hc6 => ?_)
            · refine lv_iconst (v := nI 2) S.1 S.2.1 d_M_many_43 (by decide +kernel) ?_
              exact fk_iret S hr hlk E G rfl (by unfold fk_ar; (first | rw [if_pos (by omega)] | rw [if_neg (by omega), if_pos (by omega)] | rw [if_neg (by omega), if_neg (by omega), if_pos (by omega)] | rw [if_neg (by omega), if_neg (by omega), if_neg (by omega)])) d_M_many_44
            · refine lv_iconst (v := nI 3) S.1 S.2.1 d_M_many_39 (by decide +kernel) ?_
              refine lv_goto (tgt := 44) S.1 S.2.1 d_M_many_40 rfl ?_
              exact fk_iret S hr hlk E G rfl (by unfold fk_ar; (first | rw [if_pos (by omega)] | rw [if_neg (by omega), if_pos (by omega)] | rw [if_neg (by omega), if_neg (by omega), if_pos (by omega)] | rw [if_neg (by omega), if_neg (by omega), if_neg (by omega)])) d_M_many_44
          · refine lv_iconst (v := nI 1) S.1 S.2.1 d_M_many_31 (by decide +kernel) ?_
            exact fk_iret S hr hlk E G rfl (by unfold fk_ar; (first | rw [if_pos (by omega)] | rw [if_neg (by omega), if_pos (by omega)] | rw [if_neg (by omega), if_neg (by omega), if_pos (by omega)] | rw [if_neg (by omega), if_neg (by omega), if_neg (by omega)])) d_M_many_32
  · refine lv_iconst (v := nI 0) S.1 S.2.1 d_M_many_5 (by decide +kernel) ?_
    exact fk_iret S hr hlk E G rfl (by unfold fk_ar; (first | rw [if_pos (by omega)] | rw [if_neg (by omega), if_pos (by omega)] | rw [if_neg (by omega), if_neg (by omega), if_pos (by omega)] | rw [if_neg (by omega), if_neg (by omega), if_neg (by omega)])) d_M_many_6
theorem d_M_restart_0 : decode b_M_restart 0 = .ok (.aload_n 0, 1) := by decide +kernel
theorem d_M_restart_1 : decode b_M_restart 1 = .ok (.iconst 0, 1) := by decide +kernel
theorem d_M_restart_2 : decode b_M_restart 2 = .ok (.putfield 84, 3) := by decide +kernel
theorem d_M_restart_5 : decode b_M_restart 5 = .ok (.iconst 0, 1) := by decide +kernel
theorem d_M_restart_6 : decode b_M_restart 6 = .ok (.istore_n 1, 1) := by decide +kernel
theorem d_M_restart_7 : decode b_M_restart 7 = .ok (.iload_n 1, 1) := by decide +kernel
theorem d_M_restart_8 : decode b_M_restart 8 = .ok (.bipush 12, 2) := by decide +kernel
theorem d_M_restart_10 : decode b_M_restart 10 = .ok (.if_icmp .ge 30, 3) := by decide +kernel
theorem d_M_restart_13 : decode b_M_restart 13 = .ok (.aload_n 0, 1) := by decide +kernel
theorem d_M_restart_14 : decode b_M_restart 14 = .ok (.getfield 23, 3) := by decide +kernel
theorem d_M_restart_17 : decode b_M_restart 17 = .ok (.iload_n 1, 1) := by decide +kernel
theorem d_M_restart_18 : decode b_M_restart 18 = .ok (.iconst 0, 1) := by decide +kernel
theorem d_M_restart_19 : decode b_M_restart 19 = .ok (.iastore, 1) := by decide +kernel
theorem d_M_restart_20 : decode b_M_restart 20 = .ok (.aload_n 0, 1) := by decide +kernel
theorem d_M_restart_21 : decode b_M_restart 21 = .ok (.getfield 26, 3) := by decide +kernel
theorem d_M_restart_24 : decode b_M_restart 24 = .ok (.iload_n 1, 1) := by decide +kernel
theorem d_M_restart_25 : decode b_M_restart 25 = .ok (.iconst 0, 1) := by decide +kernel
theorem d_M_restart_26 : decode b_M_restart 26 = .ok (.iastore, 1) := by decide +kernel
theorem d_M_restart_27 : decode b_M_restart 27 = .ok (.aload_n 0, 1) := by decide +kernel
theorem d_M_restart_28 : decode b_M_restart 28 = .ok (.getfield 29, 3) := by decide +kernel
theorem d_M_restart_31 : decode b_M_restart 31 = .ok (.iload_n 1, 1) := by decide +kernel
theorem d_M_restart_32 : decode b_M_restart 32 = .ok (.iconst 0, 1) := by decide +kernel
theorem d_M_restart_33 : decode b_M_restart 33 = .ok (.bastore, 1) := by decide +kernel
theorem d_M_restart_34 : decode b_M_restart 34 = .ok (.iinc 1 1, 3) := by decide +kernel
theorem d_M_restart_37 : decode b_M_restart 37 = .ok (.goto (-30), 3) := by decide +kernel
theorem d_M_restart_40 : decode b_M_restart 40 = .ok (.iconst 0, 1) := by decide +kernel
theorem d_M_restart_41 : decode b_M_restart 41 = .ok (.istore_n 1, 1) := by decide +kernel
theorem d_M_restart_42 : decode b_M_restart 42 = .ok (.iload_n 1, 1) := by decide +kernel
theorem d_M_restart_43 : decode b_M_restart 43 = .ok (.sipush 480, 3) := by decide +kernel
theorem d_M_restart_46 : decode b_M_restart 46 = .ok (.if_icmp .ge 23, 3) := by decide +kernel
theorem d_M_restart_49 : decode b_M_restart 49 = .ok (.aload_n 0, 1) := by decide +kernel
theorem d_M_restart_50 : decode b_M_restart 50 = .ok (.getfield 50, 3) := by decide +kernel
theorem d_M_restart_53 : decode b_M_restart 53 = .ok (.iload_n 1, 1) := by decide +kernel
theorem d_M_restart_54 : decode b_M_restart 54 = .ok (.iconst 0, 1) := by decide +kernel
theorem d_M_restart_55 : decode b_M_restart 55 = .ok (.iastore, 1) := by decide +kernel
theorem d_M_restart_56 : decode b_M_restart 56 = .ok (.aload_n 0, 1) := by decide +kernel
theorem d_M_restart_57 : decode b_M_restart 57 = .ok (.getfield 56, 3) := by decide +kernel
theorem d_M_restart_60 : decode b_M_restart 60 = .ok (.iload_n 1, 1) := by decide +kernel
theorem d_M_restart_61 : decode b_M_restart 61 = .ok (.iconst 0, 1) := by decide +kernel
theorem d_M_restart_62 : decode b_M_restart 62 = .ok (.bastore, 1) := by decide +kernel
theorem d_M_restart_63 : decode b_M_restart 63 = .ok (.iinc 1 1, 3) := by decide +kernel
theorem d_M_restart_66 : decode b_M_restart 66 = .ok (.goto (-24), 3) := by decide +kernel
theorem d_M_restart_69 : decode b_M_restart 69 = .ok (.return_, 1) := by decide +kernel
theorem m_M_restart : fk_MI y_M_restart b_M_restart 2 none 0 := ⟨i_735, i_734, fk_mp (q := (y_M_restart, 31)) (by decide +kernel), i_8, by decide +kernel⟩
set_option maxHeartbeats 4000000 in
set_option maxRecDepth 100000 in
theorem c_M_restart (l : Launch) (g : fk_G) (ov : Int64) (M : fk_M)  : fk_CV l y_M_restart b_M_restart 2 (fk_rm 0) g ov M (fk_mr M) [.ref (fk_a g 89)] := by
  refine fk_ofV rfl (Nat.le_of_ble_eq_true rfl) ?_
  intro p e s m args below meth c ls S hr hlk E G hl
  have hl : lv_has ls 2 [(0, .ref (fk_a g 89))] := hl
  refine lv_aload_n S.1 S.2.1 d_M_restart_0 rfl (lv_at hl 0 rfl) ?_
  refine lv_iconst (v := nI 0) S.1 S.2.1 d_M_restart_1 (by decide +kernel) ?_
  refine fk_pf S E G 89 (by decide) (congrArg (fk_ce g ov 89 (M 89)) kd_89) rfl 22 (by decide) rfl i_644 (upd (M 89) 22 (nI 0)) (congrArg (fk_ce g ov 89 (upd (M 89) 22 (nI 0))) kd_89) rfl (ty := (.int)) (by decide +kernel) rfl rfl (Nat.le_of_ble_eq_true rfl) d_M_restart_2 (fun H locs G => ?_)
  obtain ⟨M1, hM1⟩ : ∃ z : fk_M, z = va_up M 89 (upd (M 89) 22 (nI 0)) := ⟨_, rfl⟩
  rw [← hM1] at G
  refine lv_iconst (v := nI 0) S.1 S.2.1 d_M_restart_5 (by decide +kernel) ?_
  refine lv_istore_n (lv' := [(1, .int (nI 0)), (0, .ref (fk_a g 89))]) S.1 S.2.1 d_M_restart_6 rfl hl (by decide) rfl (fun ls hl => ?_)
  have loop2 : ∀ (d : Nat) (i : Nat) (H : Heap) (locs : List Loc) (ls : Array Slot), i + d = 480 → fk_H g ov (fk_m2 (fk_m1 M1 12) i) s H locs → lv_has ls 2 [(1, .int (nI i)), (0, .ref (fk_a g 89))] → W p l e (fk_rm (0)) s m args below meth c H locs 0 0 (MQ below (va_Qv (fun (_ : Unit) => True) (fun _ t9 => fk_Wd g ov (fk_mr M) t9) (fk_A g)) args s 0 0 (fk_A g)) (F0 m 42 ls []) := by
    intro d
    induction d with
    | zero =>
      intro i H locs ls hv0 G hl
      obtain ⟨Mi, hMi⟩ : ∃ z : fk_M, z = fk_m2 (fk_m1 M1 12) i := ⟨_, rfl⟩
      rw [← hMi] at G
      refine lv_iload_n S.1 S.2.1 d_M_restart_42 rfl (lv_at hl 0 rfl) ?_
      refine lv_sipush (v := nI 480) S.1 S.2.1 d_M_restart_43 (by decide +kernel) ?_
      refine fk_cge (tgt := 69) S.1 S.2.1 (by omega) (by omega) d_M_restart_46 rfl (fun hc2 => ?_) (fun hc2 => ?_)
      · have hi : i = 480 := by omega
        exact fk_vret S hr hlk E G (by rw [hMi, hi, hM1]; rfl) d_M_restart_69
      · exact absurd hv0 (by omega)
    | succ d ih =>
      intro i H locs ls hv0 G hl
      obtain ⟨Mi, hMi⟩ : ∃ z : fk_M, z = fk_m2 (fk_m1 M1 12) i := ⟨_, rfl⟩
      rw [← hMi] at G
      refine lv_iload_n S.1 S.2.1 d_M_restart_42 rfl (lv_at hl 0 rfl) ?_
      refine lv_sipush (v := nI 480) S.1 S.2.1 d_M_restart_43 (by decide +kernel) ?_
      refine fk_cge (tgt := 69) S.1 S.2.1 (by omega) (by omega) d_M_restart_46 rfl (fun hc3 => ?_) (fun hc3 => ?_)
      · exact absurd hv0 (by omega)
      · refine lv_aload_n S.1 S.2.1 d_M_restart_49 rfl (lv_at hl 1 rfl) ?_
        refine fk_gf S E G 89 (by decide) (v := .ref (fk_a g 103)) (congrArg (fk_ce g ov 89 (Mi 89)) kd_89) rfl 15 (by decide) rfl i_637 rfl d_M_restart_50 ?_
        refine lv_iload_n S.1 S.2.1 d_M_restart_53 rfl (lv_at hl 0 rfl) ?_
        refine lv_iconst (v := nI 0) S.1 S.2.1 d_M_restart_54 (by decide +kernel) ?_
        refine fk_is S E G 103 (by decide) (fun r => congrArg (fk_ce g ov 103 r) kd_103) i rfl (by omega) (by decide) d_M_restart_55 (fun H locs G => ?_)
        obtain ⟨M4, hM4⟩ : ∃ z : fk_M, z = va_up Mi 103 (upd (Mi 103) i (nI 0)) := ⟨_, rfl⟩
        rw [← hM4] at G
        refine lv_aload_n S.1 S.2.1 d_M_restart_56 rfl (lv_at hl 1 rfl) ?_
        refine fk_gf S E G 89 (by decide) (v := .ref (fk_a g 105)) (congrArg (fk_ce g ov 89 (M4 89)) kd_89) rfl 17 (by decide) rfl i_639 rfl d_M_restart_57 ?_
        refine lv_iload_n S.1 S.2.1 d_M_restart_60 rfl (lv_at hl 0 rfl) ?_
        refine lv_iconst (v := nI 0) S.1 S.2.1 d_M_restart_61 (by decide +kernel) ?_
        refine fk_zs S E G 105 (by decide) (fun r => congrArg (fk_ce g ov 105 r) kd_105) i rfl (by omega) (by decide) (Or.inl nI_0) d_M_restart_62 (fun H locs G => ?_)
        obtain ⟨M5, hM5⟩ : ∃ z : fk_M, z = va_up M4 105 (upd (M4 105) i (nI 0)) := ⟨_, rfl⟩
        rw [← hM5] at G
        refine lv_iinc (k := 0) (v := nI (i + 1)) (lv' := [(1, .int (nI (i + 1))), (0, .ref (fk_a g 89))]) S.1 S.2.1 d_M_restart_63 hl rfl (nI_1 i) (by decide) rfl (fun ls hl => ?_)
        refine lv_goto (tgt := 42) S.1 S.2.1 d_M_restart_66 rfl ?_
        refine ih (i + 1) H locs ls (by omega) ?_ hl
        rw [hM5, hM4, nI_0, va_up_ne _ _ (show (105 : Nat) ≠ 103 by decide), hMi, (fk_m2_at _ i).1, (fk_m2_at _ i).2, fk_m2_S] at G
        exact G
  have loop1 : ∀ (d : Nat) (i : Nat) (H : Heap) (locs : List Loc) (ls : Array Slot), i + d = 12 → fk_H g ov (fk_m1 M1 i) s H locs → lv_has ls 2 [(1, .int (nI i)), (0, .ref (fk_a g 89))] → W p l e (fk_rm (0)) s m args below meth c H locs 0 0 (MQ below (va_Qv (fun (_ : Unit) => True) (fun _ t9 => fk_Wd g ov (fk_mr M) t9) (fk_A g)) args s 0 0 (fk_A g)) (F0 m 7 ls []) := by
    intro d
    induction d with
    | zero =>
      intro i H locs ls hv0 G hl
      obtain ⟨Mi, hMi⟩ : ∃ z : fk_M, z = fk_m1 M1 i := ⟨_, rfl⟩
      rw [← hMi] at G
      refine lv_iload_n S.1 S.2.1 d_M_restart_7 rfl (lv_at hl 0 rfl) ?_
      refine lv_bipush (v := nI 12) S.1 S.2.1 d_M_restart_8 (by decide +kernel) ?_
      refine fk_cge (tgt := 40) S.1 S.2.1 (by omega) (by omega) d_M_restart_10 rfl (fun hc6 => ?_) (fun hc6 => ?_)
      · refine lv_iconst (v := nI 0) S.1 S.2.1 d_M_restart_40 (by decide +kernel) ?_
        refine lv_istore_n (lv' := [(1, .int (nI 0)), (0, .ref (fk_a g 89))]) S.1 S.2.1 d_M_restart_41 rfl hl (by decide) rfl (fun ls hl => ?_)
        have hi : i = 12 := by omega
        rw [hMi, hi] at G
        exact loop2 480 0 H locs ls (by omega) (by rw [fk_m2_0]; exact G) hl
      · exact absurd hv0 (by omega)
    | succ d ih =>
      intro i H locs ls hv0 G hl
      obtain ⟨Mi, hMi⟩ : ∃ z : fk_M, z = fk_m1 M1 i := ⟨_, rfl⟩
      rw [← hMi] at G
      refine lv_iload_n S.1 S.2.1 d_M_restart_7 rfl (lv_at hl 0 rfl) ?_
      refine lv_bipush (v := nI 12) S.1 S.2.1 d_M_restart_8 (by decide +kernel) ?_
      refine fk_cge (tgt := 40) S.1 S.2.1 (by omega) (by omega) d_M_restart_10 rfl (fun hc7 => ?_) (fun hc7 => ?_)
      · exact absurd hv0 (by omega)
      · refine lv_aload_n S.1 S.2.1 d_M_restart_13 rfl (lv_at hl 1 rfl) ?_
        refine fk_gf S E G 89 (by decide) (v := .ref (fk_a g 94)) (congrArg (fk_ce g ov 89 (Mi 89)) kd_89) rfl 6 (by decide) rfl i_628 rfl d_M_restart_14 ?_
        refine lv_iload_n S.1 S.2.1 d_M_restart_17 rfl (lv_at hl 0 rfl) ?_
        refine lv_iconst (v := nI 0) S.1 S.2.1 d_M_restart_18 (by decide +kernel) ?_
        refine fk_is S E G 94 (by decide) (fun r => congrArg (fk_ce g ov 94 r) kd_94) i rfl (by omega) (by decide) d_M_restart_19 (fun H locs G => ?_)
        obtain ⟨M8, hM8⟩ : ∃ z : fk_M, z = va_up Mi 94 (upd (Mi 94) i (nI 0)) := ⟨_, rfl⟩
        rw [← hM8] at G
        refine lv_aload_n S.1 S.2.1 d_M_restart_20 rfl (lv_at hl 1 rfl) ?_
        refine fk_gf S E G 89 (by decide) (v := .ref (fk_a g 95)) (congrArg (fk_ce g ov 89 (M8 89)) kd_89) rfl 7 (by decide) rfl i_629 rfl d_M_restart_21 ?_
        refine lv_iload_n S.1 S.2.1 d_M_restart_24 rfl (lv_at hl 0 rfl) ?_
        refine lv_iconst (v := nI 0) S.1 S.2.1 d_M_restart_25 (by decide +kernel) ?_
        refine fk_is S E G 95 (by decide) (fun r => congrArg (fk_ce g ov 95 r) kd_95) i rfl (by omega) (by decide) d_M_restart_26 (fun H locs G => ?_)
        obtain ⟨M9, hM9⟩ : ∃ z : fk_M, z = va_up M8 95 (upd (M8 95) i (nI 0)) := ⟨_, rfl⟩
        rw [← hM9] at G
        refine lv_aload_n S.1 S.2.1 d_M_restart_27 rfl (lv_at hl 1 rfl) ?_
        refine fk_gf S E G 89 (by decide) (v := .ref (fk_a g 96)) (congrArg (fk_ce g ov 89 (M9 89)) kd_89) rfl 8 (by decide) rfl i_630 rfl d_M_restart_28 ?_
        refine lv_iload_n S.1 S.2.1 d_M_restart_31 rfl (lv_at hl 0 rfl) ?_
        refine lv_iconst (v := nI 0) S.1 S.2.1 d_M_restart_32 (by decide +kernel) ?_
        refine fk_zs S E G 96 (by decide) (fun r => congrArg (fk_ce g ov 96 r) kd_96) i rfl (by omega) (by decide) (Or.inl nI_0) d_M_restart_33 (fun H locs G => ?_)
        obtain ⟨M10, hM10⟩ : ∃ z : fk_M, z = va_up M9 96 (upd (M9 96) i (nI 0)) := ⟨_, rfl⟩
        rw [← hM10] at G
        refine lv_iinc (k := 0) (v := nI (i + 1)) (lv' := [(1, .int (nI (i + 1))), (0, .ref (fk_a g 89))]) S.1 S.2.1 d_M_restart_34 hl rfl (nI_1 i) (by decide) rfl (fun ls hl => ?_)
        refine lv_goto (tgt := 7) S.1 S.2.1 d_M_restart_37 rfl ?_
        refine ih (i + 1) H locs ls (by omega) ?_ hl
        rw [hM10, hM9, va_up_ne _ _ (show (96 : Nat) ≠ 95 by decide), hM8, nI_0, va_up_ne _ _ (show (96 : Nat) ≠ 94 by decide), va_up_ne _ _ (show (95 : Nat) ≠ 94 by decide), hMi, (fk_m1_at _ i).1, (fk_m1_at _ i).2.1, (fk_m1_at _ i).2.2, fk_m1_S] at G
        exact G
  exact loop1 12 0 H locs ls (by omega) (by rw [fk_m1_0]; exact G) hl
theorem d_M_again_0 : decode b_M_again 0 = .ok (.aload_n 0, 1) := by decide +kernel
theorem d_M_again_1 : decode b_M_again 1 = .ok (.iconst 0, 1) := by decide +kernel
theorem d_M_again_2 : decode b_M_again 2 = .ok (.putfield 87, 3) := by decide +kernel
theorem d_M_again_5 : decode b_M_again 5 = .ok (.aload_n 0, 1) := by decide +kernel
theorem d_M_again_6 : decode b_M_again 6 = .ok (.iconst (-1), 1) := by decide +kernel
theorem d_M_again_7 : decode b_M_again 7 = .ok (.putfield 65, 3) := by decide +kernel
theorem d_M_again_10 : decode b_M_again 10 = .ok (.aload_n 0, 1) := by decide +kernel
theorem d_M_again_11 : decode b_M_again 11 = .ok (.iconst (-1), 1) := by decide +kernel
theorem d_M_again_12 : decode b_M_again 12 = .ok (.putfield 69, 3) := by decide +kernel
theorem d_M_again_15 : decode b_M_again 15 = .ok (.aload_n 0, 1) := by decide +kernel
theorem d_M_again_16 : decode b_M_again 16 = .ok (.invokevirtual 91, 3) := by decide +kernel
theorem d_M_again_19 : decode b_M_again 19 = .ok (.return_, 1) := by decide +kernel
theorem m_M_again : fk_MI y_M_again b_M_again 1 none 0 := ⟨i_731, i_730, fk_mp (q := (y_M_again, 31)) (by decide +kernel), i_8, by decide +kernel⟩
set_option maxHeartbeats 4000000 in
set_option maxRecDepth 100000 in
theorem c_M_again (l : Launch) (g : fk_G) (ov : Int64) (M : fk_M)  : fk_CV l y_M_again b_M_again 1 (fk_rm 1) g ov M (fk_ma M) [.ref (fk_a g 89)] := by
  refine fk_ofV rfl (Nat.le_of_ble_eq_true rfl) ?_
  intro p e s m args below meth c ls S hr hlk E G hl
  have hl : lv_has ls 1 [(0, .ref (fk_a g 89))] := hl
  refine lv_aload_n S.1 S.2.1 d_M_again_0 rfl (lv_at hl 0 rfl) ?_
  refine lv_iconst (v := nI 0) S.1 S.2.1 d_M_again_1 (by decide +kernel) ?_
  refine fk_pf S E G 89 (by decide) (congrArg (fk_ce g ov 89 (M 89)) kd_89) rfl 23 (by decide) rfl i_645 (upd (M 89) 23 (nI 0)) (congrArg (fk_ce g ov 89 (upd (M 89) 23 (nI 0))) kd_89) rfl (ty := (.boolean)) (by decide +kernel) (fk_nb (Or.inl nI_0)) (fk_fb (Or.inl nI_0)) (Nat.le_of_ble_eq_true rfl) d_M_again_2 (fun H locs G => ?_)
  obtain ⟨M1, hM1⟩ : ∃ z : fk_M, z = va_up M 89 (upd (M 89) 23 (nI 0)) := ⟨_, rfl⟩
  rw [← hM1] at G
  refine lv_aload_n S.1 S.2.1 d_M_again_5 rfl (lv_at hl 0 rfl) ?_
  refine lv_iconst (v := -1) S.1 S.2.1 d_M_again_6 (by decide +kernel) ?_
  refine fk_pf S E G 89 (by decide) (congrArg (fk_ce g ov 89 (M1 89)) kd_89) rfl 24 (by decide) rfl i_646 (upd (M1 89) 24 (-1)) (congrArg (fk_ce g ov 89 (upd (M1 89) 24 (-1))) kd_89) rfl (ty := (.int)) (by decide +kernel) rfl rfl (Nat.le_of_ble_eq_true rfl) d_M_again_7 (fun H locs G => ?_)
  obtain ⟨M2, hM2⟩ : ∃ z : fk_M, z = va_up M1 89 (upd (M1 89) 24 (-1)) := ⟨_, rfl⟩
  rw [← hM2] at G
  refine lv_aload_n S.1 S.2.1 d_M_again_10 rfl (lv_at hl 0 rfl) ?_
  refine lv_iconst (v := -1) S.1 S.2.1 d_M_again_11 (by decide +kernel) ?_
  refine fk_pf S E G 89 (by decide) (congrArg (fk_ce g ov 89 (M2 89)) kd_89) rfl 25 (by decide) rfl i_647 (upd (M2 89) 25 (-1)) (congrArg (fk_ce g ov 89 (upd (M2 89) 25 (-1))) kd_89) rfl (ty := (.int)) (by decide +kernel) rfl rfl (Nat.le_of_ble_eq_true rfl) d_M_again_12 (fun H locs G => ?_)
  obtain ⟨M3, hM3⟩ : ∃ z : fk_M, z = va_up M2 89 (upd (M2 89) 25 (-1)) := ⟨_, rfl⟩
  rw [← hM3] at G
  refine lv_aload_n S.1 S.2.1 d_M_again_15 rfl (lv_at hl 0 rfl) ?_
  refine fk_cvv S E G 89 (by decide) (congrArg (fk_ce g ov 89 (M3 89)) kd_89) rfl (rest := []) (c_M_restart l g ov M3) m_M_restart i_732 ⟨rfl, rfl⟩ ⟨by decide, by decide⟩ rfl rfl hl.1 (Nat.le_of_ble_eq_true rfl) d_M_again_16 ⟨Nat.zero_le _, Nat.zero_le _⟩ (fun H locs G => ?_)
  exact fk_vret S hr hlk E G (by rw [hM3, hM2, hM1, bx_uu, va_up_self, bx_uu, va_up_self]; rfl) d_M_again_19
theorem d_M_time_0 : decode b_M_time 0 = .ok (.aload_n 0, 1) := by decide +kernel
theorem d_M_time_1 : decode b_M_time 1 = .ok (.iconst 0, 1) := by decide +kernel
theorem d_M_time_2 : decode b_M_time 2 = .ok (.putfield 78, 3) := by decide +kernel
theorem d_M_time_5 : decode b_M_time 5 = .ok (.aload_n 0, 1) := by decide +kernel
theorem d_M_time_6 : decode b_M_time 6 = .ok (.getfield 84, 3) := by decide +kernel
theorem d_M_time_9 : decode b_M_time 9 = .ok (.ireturn, 1) := by decide +kernel
theorem m_M_time : fk_MI y_M_time b_M_time 1 (some .int) 0 := ⟨i_841, i_839, i_840, i_8, by decide +kernel⟩
set_option maxHeartbeats 4000000 in
set_option maxRecDepth 100000 in
theorem c_M_time (l : Launch) (g : fk_G) (ov : Int64) (M : fk_M)  : fk_CI l y_M_time b_M_time 1 (some .int) (fk_rm 0) g ov M (fk_th M 0) [.ref (fk_a g 89)] (M 89 22) := by
  refine fk_ofI rfl (Nat.le_of_ble_eq_true rfl) ?_
  intro p e s m args below meth c ls S hr hlk E G hl
  have hl : lv_has ls 1 [(0, .ref (fk_a g 89))] := hl
  refine lv_aload_n S.1 S.2.1 d_M_time_0 rfl (lv_at hl 0 rfl) ?_
  refine lv_iconst (v := nI 0) S.1 S.2.1 d_M_time_1 (by decide +kernel) ?_
  refine fk_pf S E G 89 (by decide) (congrArg (fk_ce g ov 89 (M 89)) kd_89) rfl 0 (by decide) rfl i_622 (upd (M 89) 0 (nI 0)) (congrArg (fk_ce g ov 89 (upd (M 89) 0 (nI 0))) kd_89) rfl (ty := (.int)) (by decide +kernel) rfl rfl (Nat.le_of_ble_eq_true rfl) d_M_time_2 (fun H locs G => ?_)
  obtain ⟨M1, hM1⟩ : ∃ z : fk_M, z = va_up M 89 (upd (M 89) 0 (nI 0)) := ⟨_, rfl⟩
  rw [← hM1] at G
  refine lv_aload_n S.1 S.2.1 d_M_time_5 rfl (lv_at hl 0 rfl) ?_
  refine fk_gf S E G 89 (by decide) (v := .int (M1 89 22)) (congrArg (fk_ce g ov 89 (M1 89)) kd_89) rfl 22 (by decide) rfl i_644 rfl d_M_time_6 ?_
  exact fk_iret S hr hlk E G (by rw [hM1]; rfl) (by rw [hM1, va_up_self, pk_un (by decide)]) d_M_time_9
theorem d_M_flows_0 : decode b_M_flows 0 = .ok (.aload_n 0, 1) := by decide +kernel
theorem d_M_flows_1 : decode b_M_flows 1 = .ok (.iconst 0, 1) := by decide +kernel
theorem d_M_flows_2 : decode b_M_flows 2 = .ok (.putfield 78, 3) := by decide +kernel
theorem d_M_flows_5 : decode b_M_flows 5 = .ok (.aload_n 0, 1) := by decide +kernel
theorem d_M_flows_6 : decode b_M_flows 6 = .ok (.getfield 94, 3) := by decide +kernel
theorem d_M_flows_9 : decode b_M_flows 9 = .ok (.ireturn, 1) := by decide +kernel
theorem m_M_flows : fk_MI y_M_flows b_M_flows 1 (some .int) 0 := ⟨i_857, i_855, i_856, i_8, by decide +kernel⟩
set_option maxHeartbeats 4000000 in
set_option maxRecDepth 100000 in
theorem c_M_flows (l : Launch) (g : fk_G) (ov : Int64) (M : fk_M)  : fk_CI l y_M_flows b_M_flows 1 (some .int) (fk_rm 0) g ov M (fk_th M 0) [.ref (fk_a g 89)] (M 89 1) := by
  refine fk_ofI rfl (Nat.le_of_ble_eq_true rfl) ?_
  intro p e s m args below meth c ls S hr hlk E G hl
  have hl : lv_has ls 1 [(0, .ref (fk_a g 89))] := hl
  refine lv_aload_n S.1 S.2.1 d_M_flows_0 rfl (lv_at hl 0 rfl) ?_
  refine lv_iconst (v := nI 0) S.1 S.2.1 d_M_flows_1 (by decide +kernel) ?_
  refine fk_pf S E G 89 (by decide) (congrArg (fk_ce g ov 89 (M 89)) kd_89) rfl 0 (by decide) rfl i_622 (upd (M 89) 0 (nI 0)) (congrArg (fk_ce g ov 89 (upd (M 89) 0 (nI 0))) kd_89) rfl (ty := (.int)) (by decide +kernel) rfl rfl (Nat.le_of_ble_eq_true rfl) d_M_flows_2 (fun H locs G => ?_)
  obtain ⟨M1, hM1⟩ : ∃ z : fk_M, z = va_up M 89 (upd (M 89) 0 (nI 0)) := ⟨_, rfl⟩
  rw [← hM1] at G
  refine lv_aload_n S.1 S.2.1 d_M_flows_5 rfl (lv_at hl 0 rfl) ?_
  refine fk_gf S E G 89 (by decide) (v := .int (M1 89 1)) (congrArg (fk_ce g ov 89 (M1 89)) kd_89) rfl 1 (by decide) rfl i_623 rfl d_M_flows_6 ?_
  exact fk_iret S hr hlk E G (by rw [hM1]; rfl) (by rw [hM1, va_up_self, pk_un (by decide)]) d_M_flows_9
theorem d_M_fault_0 : decode b_M_fault 0 = .ok (.aload_n 0, 1) := by decide +kernel
theorem d_M_fault_1 : decode b_M_fault 1 = .ok (.iload_n 1, 1) := by decide +kernel
theorem d_M_fault_2 : decode b_M_fault 2 = .ok (.iconst 2, 1) := by decide +kernel
theorem d_M_fault_3 : decode b_M_fault 3 = .ok (.invokestatic 128, 3) := by decide +kernel
theorem d_M_fault_6 : decode b_M_fault 6 = .ok (.iconst 0, 1) := by decide +kernel
theorem d_M_fault_7 : decode b_M_fault 7 = .ok (.invokevirtual 97, 3) := by decide +kernel
theorem d_M_fault_10 : decode b_M_fault 10 = .ok (.ifCond .eq 7, 3) := by decide +kernel
theorem d_M_fault_13 : decode b_M_fault 13 = .ok (.iconst 0, 1) := by decide +kernel
theorem d_M_fault_14 : decode b_M_fault 14 = .ok (.goto 18, 3) := by decide +kernel
theorem d_M_fault_17 : decode b_M_fault 17 = .ok (.iload_n 1, 1) := by decide +kernel
theorem d_M_fault_18 : decode b_M_fault 18 = .ok (.ifCond .ne 10, 3) := by decide +kernel
theorem d_M_fault_21 : decode b_M_fault 21 = .ok (.aload_n 0, 1) := by decide +kernel
theorem d_M_fault_22 : decode b_M_fault 22 = .ok (.getfield 65, 3) := by decide +kernel
theorem d_M_fault_25 : decode b_M_fault 25 = .ok (.goto 7, 3) := by decide +kernel
theorem d_M_fault_28 : decode b_M_fault 28 = .ok (.aload_n 0, 1) := by decide +kernel
theorem d_M_fault_29 : decode b_M_fault 29 = .ok (.getfield 69, 3) := by decide +kernel
theorem d_M_fault_32 : decode b_M_fault 32 = .ok (.ireturn, 1) := by decide +kernel
theorem m_M_fault : fk_MI y_M_fault b_M_fault 2 (some .int) 1 := ⟨i_806, i_804, i_805, i_8, by decide +kernel⟩
set_option maxHeartbeats 4000000 in
set_option maxRecDepth 100000 in
theorem c_M_fault (l : Launch) (g : fk_G) (ov : Int64) (M : fk_M) (v : Int32) : fk_CI l y_M_fault b_M_fault 2 (some .int) (fk_rm 1) g ov M (fk_th M (fk_tc (fk_ou v 2).toNat 0)) [.ref (fk_a g 89), .int v] (if (fk_ou v 2) = true then nI 0 else if v = 0 then M 89 24 else M 89 25) := by
  refine fk_ofI rfl (Nat.le_of_ble_eq_true rfl) ?_
  intro p e s m args below meth c ls S hr hlk E G hl
  have hl : lv_has ls 2 [(0, .ref (fk_a g 89)), (1, .int v)] := hl
  refine lv_aload_n S.1 S.2.1 d_M_fault_0 rfl (lv_at hl 0 rfl) ?_
  refine lv_iload_n S.1 S.2.1 d_M_fault_1 rfl (lv_at hl 1 rfl) ?_
  refine lv_iconst (v := nI 2) S.1 S.2.1 d_M_fault_2 (by decide +kernel) ?_
  refine fk_csi S E G (rest := [.ref (fk_a g 89)]) (c_M_out l g ov M v 2) m_M_out i_760 ⟨rfl, rfl⟩ ⟨by decide, by decide⟩ rfl rfl hl.1 (Nat.le_of_ble_eq_true rfl) d_M_fault_3 ⟨Nat.zero_le _, Nat.zero_le _⟩ (fun H locs G => ?_)
  refine lv_iconst (v := nI 0) S.1 S.2.1 d_M_fault_6 (by decide +kernel) ?_
  refine fk_cvi S E G 89 (by decide) (congrArg (fk_ce g ov 89 (M 89)) kd_89) rfl (rest := []) (c_M_throwing l g ov M ((fk_ou v 2).toNat) 0 (fk_bl _) (by decide)) m_M_throwing i_724 ⟨rfl, rfl⟩ ⟨by decide, by decide⟩ rfl rfl hl.1 (Nat.le_of_ble_eq_true rfl) d_M_fault_7 ⟨Nat.zero_le _, Nat.zero_le _⟩ (fun H locs G => ?_)
  obtain ⟨M1, hM1⟩ : ∃ z : fk_M, z = fk_th M (fk_tc (fk_ou v 2).toNat 0) := ⟨_, rfl⟩
  rw [← hM1] at G
  refine fk_zeq (tgt := 17) S.1 S.2.1 (fk_bl _) d_M_fault_10 rfl (fun hc1 => ?_) (fun hc1 => ?_)
  · have hz := of_decide_eq_false (fk_bf hc1)
    have hno : ¬ (fk_ou v 2) = true := fun q => by
      rw [q] at hz
      exact absurd hz (by decide)
    have e89 : ∀ t, t ≠ 0 → M1 89 t = M 89 t := fun t ht => by rw [hM1]; exact fk_th_s ht
    refine lv_iload_n S.1 S.2.1 d_M_fault_17 rfl (lv_at hl 1 rfl) ?_
    refine lv_if_ne (tgt := 28) S.1 S.2.1 d_M_fault_18 rfl (fun hc2 => ?_) (fun hc2 => ?_)
    · refine lv_aload_n S.1 S.2.1 d_M_fault_28 rfl (lv_at hl 0 rfl) ?_
      refine fk_gf S E G 89 (by decide) (v := .int (M1 89 25)) (congrArg (fk_ce g ov 89 (M1 89)) kd_89) rfl 25 (by decide) rfl i_647 rfl d_M_fault_29 ?_
      exact fk_iret S hr hlk E G hM1 (by rw [e89 _ (by decide), if_neg hno, if_neg hc2]) d_M_fault_32
    · refine lv_aload_n S.1 S.2.1 d_M_fault_21 rfl (lv_at hl 0 rfl) ?_
      refine fk_gf S E G 89 (by decide) (v := .int (M1 89 24)) (congrArg (fk_ce g ov 89 (M1 89)) kd_89) rfl 24 (by decide) rfl i_646 rfl d_M_fault_22 ?_
      refine lv_goto (tgt := 32) S.1 S.2.1 d_M_fault_25 rfl ?_
      exact fk_iret S hr hlk E G hM1 (by rw [e89 _ (by decide), if_neg hno, if_pos hc2]) d_M_fault_32
  · have hz := of_decide_eq_true (fk_bt hc1)
    have hyes : (fk_ou v 2) = true := by
      cases hq : (fk_ou v 2) with
      | true => rfl
      | false => rw [hq] at hz; exact absurd hz (by decide)
    refine lv_iconst (v := nI 0) S.1 S.2.1 d_M_fault_13 (by decide +kernel) ?_
    refine lv_goto (tgt := 32) S.1 S.2.1 d_M_fault_14 rfl ?_
    exact fk_iret S hr hlk E G hM1 (by rw [if_pos hyes]) d_M_fault_32
theorem d_M_seen_0 : decode b_M_seen 0 = .ok (.aload_n 0, 1) := by decide +kernel
theorem d_M_seen_1 : decode b_M_seen 1 = .ok (.iload_n 1, 1) := by decide +kernel
theorem d_M_seen_2 : decode b_M_seen 2 = .ok (.aload_n 0, 1) := by decide +kernel
theorem d_M_seen_3 : decode b_M_seen 3 = .ok (.getfield 94, 3) := by decide +kernel
theorem d_M_seen_6 : decode b_M_seen 6 = .ok (.invokestatic 128, 3) := by decide +kernel
theorem d_M_seen_9 : decode b_M_seen 9 = .ok (.iconst 0, 1) := by decide +kernel
theorem d_M_seen_10 : decode b_M_seen 10 = .ok (.invokevirtual 97, 3) := by decide +kernel
theorem d_M_seen_13 : decode b_M_seen 13 = .ok (.ifCond .eq 7, 3) := by decide +kernel
theorem d_M_seen_16 : decode b_M_seen 16 = .ok (.iconst 0, 1) := by decide +kernel
theorem d_M_seen_17 : decode b_M_seen 17 = .ok (.goto 9, 3) := by decide +kernel
theorem d_M_seen_20 : decode b_M_seen 20 = .ok (.aload_n 0, 1) := by decide +kernel
theorem d_M_seen_21 : decode b_M_seen 21 = .ok (.getfield 26, 3) := by decide +kernel
theorem d_M_seen_24 : decode b_M_seen 24 = .ok (.iload_n 1, 1) := by decide +kernel
theorem d_M_seen_25 : decode b_M_seen 25 = .ok (.iaload, 1) := by decide +kernel
theorem d_M_seen_26 : decode b_M_seen 26 = .ok (.ireturn, 1) := by decide +kernel
theorem m_M_seen : fk_MI y_M_seen b_M_seen 2 (some .int) 1 := ⟨i_853, i_851, i_852, i_8, by decide +kernel⟩
set_option maxHeartbeats 4000000 in
set_option maxRecDepth 100000 in
theorem c_M_seen (l : Launch) (g : fk_G) (ov : Int64) (M : fk_M) (v : Int32) (n : Nat) (hn : M 89 1 = nI n) (h12 : n ≤ 12) : fk_CI l y_M_seen b_M_seen 2 (some .int) (fk_rm 1) g ov M (fk_th M (fk_tc (fk_ou v n).toNat 0)) [.ref (fk_a g 89), .int v] (if (fk_ou v n) = true then nI 0 else M 95 v.toNatClampNeg) := by
  refine fk_ofI rfl (Nat.le_of_ble_eq_true rfl) ?_
  intro p e s m args below meth c ls S hr hlk E G hl
  have hl : lv_has ls 2 [(0, .ref (fk_a g 89)), (1, .int v)] := hl
  refine lv_aload_n S.1 S.2.1 d_M_seen_0 rfl (lv_at hl 0 rfl) ?_
  refine lv_iload_n S.1 S.2.1 d_M_seen_1 rfl (lv_at hl 1 rfl) ?_
  refine lv_aload_n S.1 S.2.1 d_M_seen_2 rfl (lv_at hl 0 rfl) ?_
  refine fk_gf S E G 89 (by decide) (v := .int (M 89 1)) (congrArg (fk_ce g ov 89 (M 89)) kd_89) rfl 1 (by decide) rfl i_623 rfl d_M_seen_3 ?_
  rw [hn]
  refine fk_csi S E G (rest := [.ref (fk_a g 89)]) (c_M_out l g ov M v n) m_M_out i_760 ⟨rfl, rfl⟩ ⟨by decide, by decide⟩ rfl rfl hl.1 (Nat.le_of_ble_eq_true rfl) d_M_seen_6 ⟨Nat.zero_le _, Nat.zero_le _⟩ (fun H locs G => ?_)
  refine lv_iconst (v := nI 0) S.1 S.2.1 d_M_seen_9 (by decide +kernel) ?_
  refine fk_cvi S E G 89 (by decide) (congrArg (fk_ce g ov 89 (M 89)) kd_89) rfl (rest := []) (c_M_throwing l g ov M ((fk_ou v n).toNat) 0 (fk_bl _) (by decide)) m_M_throwing i_724 ⟨rfl, rfl⟩ ⟨by decide, by decide⟩ rfl rfl hl.1 (Nat.le_of_ble_eq_true rfl) d_M_seen_10 ⟨Nat.zero_le _, Nat.zero_le _⟩ (fun H locs G => ?_)
  obtain ⟨M1, hM1⟩ : ∃ z : fk_M, z = fk_th M (fk_tc (fk_ou v n).toNat 0) := ⟨_, rfl⟩
  rw [← hM1] at G
  refine fk_zeq (tgt := 20) S.1 S.2.1 (fk_bl _) d_M_seen_13 rfl (fun hc1 => ?_) (fun hc1 => ?_)
  · have hz := of_decide_eq_false (fk_bf hc1)
    have hno : ¬ (fk_ou v n) = true := fun q => by
      rw [q] at hz
      exact absurd hz (by decide)
    have hin : ¬ (v < 0 ∨ ¬ v < nI n) := fun q => hno (decide_eq_true q)
    obtain ⟨j, hj1, hj2⟩ : ∃ j : Nat, j < 2 ^ 31 ∧ v = nI j := nI_of (fun q => hin (Or.inl q))
    have hj3 : j < n := by
      have h9 : v < nI n := Decidable.byContradiction (fun q => hin (Or.inr q))
      rw [hj2] at h9
      exact (nI_ltI hj1 (by omega)).mp h9
    have ec : M1 95 = M 95 := by rw [hM1]; exact fk_th_ne (by decide)
    refine lv_aload_n S.1 S.2.1 d_M_seen_20 rfl (lv_at hl 0 rfl) ?_
    refine fk_gf S E G 89 (by decide) (v := .ref (fk_a g 95)) (congrArg (fk_ce g ov 89 (M1 89)) kd_89) rfl 7 (by decide) rfl i_629 rfl d_M_seen_21 ?_
    refine lv_iload_n S.1 S.2.1 d_M_seen_24 rfl (lv_at hl 1 rfl) ?_
    subst hj2
    refine fk_ia S E G 95 (by decide) (congrArg (fk_ce g ov 95 (M1 95)) kd_95) j rfl (by omega) (by decide) (v := M 95 j) (by rw [ec]) d_M_seen_25 ?_
    exact fk_iret S hr hlk E G hM1 (by rw [if_neg hno, nI_clamp hj1]) d_M_seen_26
  · have hz := of_decide_eq_true (fk_bt hc1)
    have hyes : (fk_ou v n) = true := by
      cases hq : (fk_ou v n) with
      | true => rfl
      | false => rw [hq] at hz; exact absurd hz (by decide)
    refine lv_iconst (v := nI 0) S.1 S.2.1 d_M_seen_16 (by decide +kernel) ?_
    refine lv_goto (tgt := 26) S.1 S.2.1 d_M_seen_17 rfl ?_
    exact fk_iret S hr hlk E G hM1 (by rw [if_pos hyes]) d_M_seen_26
theorem d_M_present_0 : decode b_M_present 0 = .ok (.aload_n 0, 1) := by decide +kernel
theorem d_M_present_1 : decode b_M_present 1 = .ok (.iload_n 1, 1) := by decide +kernel
theorem d_M_present_2 : decode b_M_present 2 = .ok (.aload_n 0, 1) := by decide +kernel
theorem d_M_present_3 : decode b_M_present 3 = .ok (.getfield 94, 3) := by decide +kernel
theorem d_M_present_6 : decode b_M_present 6 = .ok (.invokestatic 128, 3) := by decide +kernel
theorem d_M_present_9 : decode b_M_present 9 = .ok (.iconst 0, 1) := by decide +kernel
theorem d_M_present_10 : decode b_M_present 10 = .ok (.invokevirtual 97, 3) := by decide +kernel
theorem d_M_present_13 : decode b_M_present 13 = .ok (.ifCond .ne 16, 3) := by decide +kernel
theorem d_M_present_16 : decode b_M_present 16 = .ok (.aload_n 0, 1) := by decide +kernel
theorem d_M_present_17 : decode b_M_present 17 = .ok (.getfield 29, 3) := by decide +kernel
theorem d_M_present_20 : decode b_M_present 20 = .ok (.iload_n 1, 1) := by decide +kernel
theorem d_M_present_21 : decode b_M_present 21 = .ok (.baload, 1) := by decide +kernel
theorem d_M_present_22 : decode b_M_present 22 = .ok (.ifCond .eq 7, 3) := by decide +kernel
theorem d_M_present_25 : decode b_M_present 25 = .ok (.iconst 1, 1) := by decide +kernel
theorem d_M_present_26 : decode b_M_present 26 = .ok (.goto 4, 3) := by decide +kernel
theorem d_M_present_29 : decode b_M_present 29 = .ok (.iconst 0, 1) := by decide +kernel
theorem d_M_present_30 : decode b_M_present 30 = .ok (.ireturn, 1) := by decide +kernel
theorem m_M_present : fk_MI y_M_present b_M_present 2 (some .boolean) 1 := ⟨i_845, i_843, i_844, i_8, by decide +kernel⟩
set_option maxHeartbeats 4000000 in
set_option maxRecDepth 100000 in
theorem c_M_present (l : Launch) (g : fk_G) (ov : Int64) (M : fk_M) (v : Int32) (n : Nat) (hn : M 89 1 = nI n) (h12 : n ≤ 12) : fk_CI l y_M_present b_M_present 2 (some .boolean) (fk_rm 1) g ov M (fk_th M (fk_tc (fk_ou v n).toNat 0)) [.ref (fk_a g 89), .int v] (if (fk_ou v n) = true then nI 0 else nI (decide (¬ M 96 v.toNatClampNeg = 0)).toNat) := by
  refine fk_ofI rfl (Nat.le_of_ble_eq_true rfl) ?_
  intro p e s m args below meth c ls S hr hlk E G hl
  have hl : lv_has ls 2 [(0, .ref (fk_a g 89)), (1, .int v)] := hl
  refine lv_aload_n S.1 S.2.1 d_M_present_0 rfl (lv_at hl 0 rfl) ?_
  refine lv_iload_n S.1 S.2.1 d_M_present_1 rfl (lv_at hl 1 rfl) ?_
  refine lv_aload_n S.1 S.2.1 d_M_present_2 rfl (lv_at hl 0 rfl) ?_
  refine fk_gf S E G 89 (by decide) (v := .int (M 89 1)) (congrArg (fk_ce g ov 89 (M 89)) kd_89) rfl 1 (by decide) rfl i_623 rfl d_M_present_3 ?_
  rw [hn]
  refine fk_csi S E G (rest := [.ref (fk_a g 89)]) (c_M_out l g ov M v n) m_M_out i_760 ⟨rfl, rfl⟩ ⟨by decide, by decide⟩ rfl rfl hl.1 (Nat.le_of_ble_eq_true rfl) d_M_present_6 ⟨Nat.zero_le _, Nat.zero_le _⟩ (fun H locs G => ?_)
  refine lv_iconst (v := nI 0) S.1 S.2.1 d_M_present_9 (by decide +kernel) ?_
  refine fk_cvi S E G 89 (by decide) (congrArg (fk_ce g ov 89 (M 89)) kd_89) rfl (rest := []) (c_M_throwing l g ov M ((fk_ou v n).toNat) 0 (fk_bl _) (by decide)) m_M_throwing i_724 ⟨rfl, rfl⟩ ⟨by decide, by decide⟩ rfl rfl hl.1 (Nat.le_of_ble_eq_true rfl) d_M_present_10 ⟨Nat.zero_le _, Nat.zero_le _⟩ (fun H locs G => ?_)
  obtain ⟨M1, hM1⟩ : ∃ z : fk_M, z = fk_th M (fk_tc (fk_ou v n).toNat 0) := ⟨_, rfl⟩
  rw [← hM1] at G
  refine fk_zne (tgt := 29) S.1 S.2.1 (fk_bl _) d_M_present_13 rfl (fun hc1 => ?_) (fun hc1 => ?_)
  · have hz := of_decide_eq_true (fk_bt hc1)
    have hyes : (fk_ou v n) = true := by
      cases hq : (fk_ou v n) with
      | true => rfl
      | false => rw [hq] at hz; exact absurd hz (by decide)
    refine lv_iconst (v := nI 0) S.1 S.2.1 d_M_present_29 (by decide +kernel) ?_
    exact fk_zret S hr hlk E G hM1 (by rw [if_pos hyes]) (by rw [if_pos hyes]; exact Or.inl nI_0) d_M_present_30
  · have hz := of_decide_eq_false (fk_bf hc1)
    have hno : ¬ (fk_ou v n) = true := fun q => by
      rw [q] at hz
      exact absurd hz (by decide)
    have hin : ¬ (v < 0 ∨ ¬ v < nI n) := fun q => hno (decide_eq_true q)
    obtain ⟨j, hj1, hj2⟩ : ∃ j : Nat, j < 2 ^ 31 ∧ v = nI j := nI_of (fun q => hin (Or.inl q))
    have hj3 : j < n := by
      have h9 : v < nI n := Decidable.byContradiction (fun q => hin (Or.inr q))
      rw [hj2] at h9
      exact (nI_ltI hj1 (by omega)).mp h9
    have ec : M1 96 = M 96 := by rw [hM1]; exact fk_th_ne (by decide)
    refine lv_aload_n S.1 S.2.1 d_M_present_16 rfl (lv_at hl 0 rfl) ?_
    refine fk_gf S E G 89 (by decide) (v := .ref (fk_a g 96)) (congrArg (fk_ce g ov 89 (M1 89)) kd_89) rfl 8 (by decide) rfl i_630 rfl d_M_present_17 ?_
    refine lv_iload_n S.1 S.2.1 d_M_present_20 rfl (lv_at hl 1 rfl) ?_
    subst hj2
    refine fk_za S E G 96 (by decide) (congrArg (fk_ce g ov 96 (M1 96)) kd_96) j rfl (by omega) (by decide) (v := M 96 j) (by rw [ec]) d_M_present_21 ?_
    refine lv_if_eq (tgt := 29) S.1 S.2.1 d_M_present_22 rfl (fun hc2 => ?_) (fun hc2 => ?_)
    · refine lv_iconst (v := nI 0) S.1 S.2.1 d_M_present_29 (by decide +kernel) ?_
      exact fk_zret S hr hlk E G hM1 (by rw [if_neg hno, nI_clamp hj1]; exact fk_b0 (decide_eq_false (fun q => q hc2))) (by rw [if_neg hno]; exact fk_bz _) d_M_present_30
    · refine lv_iconst (v := nI 1) S.1 S.2.1 d_M_present_25 (by decide +kernel) ?_
      refine lv_goto (tgt := 30) S.1 S.2.1 d_M_present_26 rfl ?_
      exact fk_zret S hr hlk E G hM1 (by rw [if_neg hno, nI_clamp hj1]; exact fk_b1 (decide_eq_true hc2)) (by rw [if_neg hno]; exact fk_bz _) d_M_present_30
