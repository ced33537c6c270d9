/-! Kinds of cells; small rows; decode rows and contracts of the static helpers. Written by wip/gen. -/
theorem kd_0 : fk_kd 0 = 0 := by decide +kernel
theorem kd_1 : fk_kd 1 = 1 := by decide +kernel
theorem kd_2 : fk_kd 2 = 2 := by decide +kernel
theorem kd_75 : fk_kd 75 = 6 := by decide +kernel
theorem kd_76 : fk_kd 76 = 7 := by decide +kernel
theorem kd_77 : fk_kd 77 = 7 := by decide +kernel
theorem kd_78 : fk_kd 78 = 7 := by decide +kernel
theorem kd_79 : fk_kd 79 = 8 := by decide +kernel
theorem kd_80 : fk_kd 80 = 5 := by decide +kernel
theorem kd_81 : fk_kd 81 = 9 := by decide +kernel
theorem kd_82 : fk_kd 82 = 10 := by decide +kernel
theorem kd_83 : fk_kd 83 = 11 := by decide +kernel
theorem kd_84 : fk_kd 84 = 4 := by decide +kernel
theorem kd_85 : fk_kd 85 = 5 := by decide +kernel
theorem kd_86 : fk_kd 86 = 5 := by decide +kernel
theorem kd_87 : fk_kd 87 = 5 := by decide +kernel
theorem kd_88 : fk_kd 88 = 5 := by decide +kernel
theorem kd_89 : fk_kd 89 = 12 := by decide +kernel
theorem kd_90 : fk_kd 90 = 13 := by decide +kernel
theorem kd_91 : fk_kd 91 = 13 := by decide +kernel
theorem kd_92 : fk_kd 92 = 7 := by decide +kernel
theorem kd_93 : fk_kd 93 = 7 := by decide +kernel
theorem kd_94 : fk_kd 94 = 7 := by decide +kernel
theorem kd_95 : fk_kd 95 = 7 := by decide +kernel
theorem kd_96 : fk_kd 96 = 13 := by decide +kernel
theorem kd_97 : fk_kd 97 = 7 := by decide +kernel
theorem kd_98 : fk_kd 98 = 7 := by decide +kernel
theorem kd_99 : fk_kd 99 = 7 := by decide +kernel
theorem kd_100 : fk_kd 100 = 14 := by decide +kernel
theorem kd_101 : fk_kd 101 = 14 := by decide +kernel
theorem kd_102 : fk_kd 102 = 14 := by decide +kernel
theorem kd_103 : fk_kd 103 = 14 := by decide +kernel
theorem kd_104 : fk_kd 104 = 14 := by decide +kernel
theorem kd_105 : fk_kd 105 = 15 := by decide +kernel
theorem kd_106 : fk_kd 106 = 5 := by decide +kernel
theorem kd_107 : fk_kd 107 = 5 := by decide +kernel
theorem kd_108 : fk_kd 108 = 7 := by decide +kernel
theorem kd_109 : fk_kd 109 = 16 := by decide +kernel
theorem kd_110 : fk_kd 110 = 17 := by decide +kernel
/-- x is the cell of an expression; its four rows lie behind it -/
def fk_X (x : Nat) : Prop := x = 84 ∨ ∃ i, i < 12 ∧ x = 4 + 6 * i
theorem fk_Xlt {x : Nat} (h : fk_X x) : x + 4 < 89 := by
  rcases h with rfl | ⟨i, hi, rfl⟩ <;> omega
theorem fk_Xb {x : Nat} (h : fk_X x) : x < 2 ^ 31 := by
  have := fk_Xlt h
  omega
theorem fk_kf {j : Nat} (h : j < 12) : fk_kd (3 + 6 * j) = 3 := by
  revert j
  decide +kernel
theorem fk_kxA : ∀ i, i < 12 → fk_kd (4 + 6 * i) = 4 ∧ fk_kd (4 + 6 * i + 1) = 5 ∧ fk_kd (4 + 6 * i + 2) = 5 ∧ fk_kd (4 + 6 * i + 3) = 5 ∧ fk_kd (4 + 6 * i + 4) = 5 := by decide +kernel
theorem fk_kxB : fk_kd 84 = 4 ∧ fk_kd (84 + 1) = 5 ∧ fk_kd (84 + 2) = 5 ∧ fk_kd (84 + 3) = 5 ∧ fk_kd (84 + 4) = 5 := by decide +kernel
theorem fk_kxC {x : Nat} (h : fk_X x) : fk_kd x = 4 ∧ fk_kd (x + 1) = 5 ∧ fk_kd (x + 2) = 5 ∧ fk_kd (x + 3) = 5 ∧ fk_kd (x + 4) = 5 := by
  rcases h with rfl | ⟨i, hi, rfl⟩
  · exact fk_kxB
  · exact fk_kxA i hi
theorem fk_kx0 {x : Nat} (h : fk_X x) : fk_kd x = 4 := (fk_kxC h).1
theorem fk_kx1 {x : Nat} (h : fk_X x) : fk_kd (x + 1) = 5 := (fk_kxC h).2.1
theorem fk_kx2 {x : Nat} (h : fk_X x) : fk_kd (x + 2) = 5 := (fk_kxC h).2.2.1
theorem fk_kx3 {x : Nat} (h : fk_X x) : fk_kd (x + 3) = 5 := (fk_kxC h).2.2.2.1
theorem fk_kx4 {x : Nat} (h : fk_X x) : fk_kd (x + 4) = 5 := (fk_kxC h).2.2.2.2
theorem fk_desk {g : fk_G} {ov : Int64} {M : fk_M} {d : Nat} (hd : M 0 4 = nI d) (h : d < 2 ^ 31) : fk_cell g ov 0 (M 0) = .inr (6, [.ref (fk_a g 1), .ref (fk_a g 75), .ref (fk_a g 79), .ref (fk_a g 82), .ref (fk_a g d)]) := by
  refine (congrArg (fk_ce g ov 0 (M 0)) kd_0).trans ?_
  show Sum.inr (6, [_, _, _, _, Value.ref (fk_a g (M 0 4).toNatClampNeg)]) = _
  rw [hd, nI_clamp h]
theorem fk_flow {g : fk_G} {ov : Int64} {M : fk_M} {j q : Nat} (hj : j < 12) (hq : M (3 + 6 * j) 0 = nI q) (h : q < 2 ^ 31) : fk_cell g ov (3 + 6 * j) (M (3 + 6 * j)) = .inr (3, [.ref (fk_a g q), .int (M (3 + 6 * j) 1), .int (M (3 + 6 * j) 2), .int (M (3 + 6 * j) 3), .int (M (3 + 6 * j) 4), .int (M (3 + 6 * j) 5), .int (M (3 + 6 * j) 6)]) := by
  refine (congrArg (fk_ce g ov (3 + 6 * j) (M (3 + 6 * j))) (fk_kf hj)).trans ?_
  show Sum.inr (3, [Value.ref (fk_a g (M (3 + 6 * j) 0).toNatClampNeg), _, _, _, _, _, _]) = _
  rw [hq, nI_clamp h]
theorem fk_b1 {b : Bool} (h : b = true) : nI 1 = nI b.toNat := by rw [h]; rfl
theorem fk_b0 {b : Bool} (h : b = false) : nI 0 = nI b.toNat := by rw [h]; rfl
theorem fk_bl (b : Bool) : b.toNat < 2 ^ 31 := by cases b <;> decide
theorem fk_bf {b : Bool} (h : b.toNat = 0) : b = false := by cases b <;> simp_all
theorem fk_bt {b : Bool} (h : 0 < b.toNat) : b = true := by cases b <;> simp_all
theorem fk_bz (b : Bool) : nI b.toNat = 0 ∨ nI b.toNat = 1 := by cases b <;> decide +kernel
theorem fk_dt {p : Prop} (inst : Decidable p) (h : p) : @decide p inst = true := decide_eq_true h
theorem fk_df {p : Prop} (inst : Decidable p) (h : ¬ p) : @decide p inst = false := decide_eq_false h
section FKL
variable {p : Program} {l : Launch} {e : Env} {R : Room} {s : State} {m : MethodId} {args : Array Value} {below : List Frame} {meth : Method} {c : Code} {H : Heap} {locs : List Loc} {cells slots : Nat} {Q : State → Prop}
variable {cc : ByteArray} {nL : Nat} {own : String} {pc : Nat} {ls : Array Slot} {rest : List Value} {g : fk_G} {ov : Int64} {M : fk_M}
theorem fk_al (S : fk_S p m c cc nL s args own) (E : fk_E g s s.heap) (G : fk_H g ov M s H locs) (k : Nat) (hk : k < 111) {n : Nat} (he : ∀ r, fk_cell g ov k r = .inl (g.2.1 0, n, .inl r)) (hdg : decode cc pc = .ok (.arraylength, 1))
    (kk : W p l e R s m args below meth c H locs cells slots Q (F0 m (pc + 1) ls (.int (nI n) :: rest))) : W p l e R s m args below meth c H locs cells slots Q (F0 m pc ls (.ref (fk_a g k) :: rest)) :=
  va_alen (D := g.1) (x := (n, Sum.inl (M k))) (v := nI n) S.1 S.2.1 E.2.1 G.1 k 0 ((fk_wl_at hk).trans (by rw [he])) rfl rfl hdg kk
theorem fk_idiv (hexec : p.tables.exec = Jvm.exec) (hb : c.code = cc) {x y : Nat} (hx : x < 2 ^ 31) (h0 : 0 < y) (hy : y < 2 ^ 31) (hdg : decode cc pc = .ok (.idiv, 1)) (k : W p l e R s m args below meth c H locs cells slots Q (F0 m (pc + 1) ls (.int (nI (x / y)) :: rest))) : W p l e R s m args below meth c H locs cells slots Q (F0 m pc ls (.int (nI y) :: .int (nI x) :: rest)) := by
  refine lv_idiv hexec hb hdg (nI_ne0 h0 hy) ?_
  rw [pk_div hx h0 hy]
  exact k
theorem fk_irem (hexec : p.tables.exec = Jvm.exec) (hb : c.code = cc) {x y : Nat} (hx : x < 2 ^ 31) (h0 : 0 < y) (hy : y < 2 ^ 31) (hdg : decode cc pc = .ok (.irem, 1)) (k : W p l e R s m args below meth c H locs cells slots Q (F0 m (pc + 1) ls (.int (nI (x % y)) :: rest))) : W p l e R s m args below meth c H locs cells slots Q (F0 m pc ls (.int (nI y) :: .int (nI x) :: rest)) := by
  refine lv_irem hexec hb hdg (nI_ne0 h0 hy) ?_
  rw [pk_rem hx h0 hy]
  exact k
end FKL
theorem d_D_isSampling_0 : decode b_D_isSampling 0 = .ok (.iload_n 0, 1) := by decide +kernel
theorem d_D_isSampling_1 : decode b_D_isSampling 1 = .ok (.bipush 16, 2) := by decide +kernel
theorem d_D_isSampling_3 : decode b_D_isSampling 3 = .ok (.if_icmp .eq 15, 3) := by decide +kernel
theorem d_D_isSampling_6 : decode b_D_isSampling 6 = .ok (.iload_n 0, 1) := by decide +kernel
theorem d_D_isSampling_7 : decode b_D_isSampling 7 = .ok (.bipush 17, 2) := by decide +kernel
theorem d_D_isSampling_9 : decode b_D_isSampling 9 = .ok (.if_icmp .eq 9, 3) := by decide +kernel
theorem d_D_isSampling_12 : decode b_D_isSampling 12 = .ok (.iload_n 0, 1) := by decide +kernel
theorem d_D_isSampling_13 : decode b_D_isSampling 13 = .ok (.bipush 18, 2) := by decide +kernel
theorem d_D_isSampling_15 : decode b_D_isSampling 15 = .ok (.if_icmp .ne 7, 3) := by decide +kernel
theorem d_D_isSampling_18 : decode b_D_isSampling 18 = .ok (.iconst 1, 1) := by decide +kernel
theorem d_D_isSampling_19 : decode b_D_isSampling 19 = .ok (.goto 4, 3) := by decide +kernel
theorem d_D_isSampling_22 : decode b_D_isSampling 22 = .ok (.iconst 0, 1) := by decide +kernel
theorem d_D_isSampling_23 : decode b_D_isSampling 23 = .ok (.ireturn, 1) := by decide +kernel
theorem m_D_isSampling : fk_MS y_D_isSampling b_D_isSampling 1 (some .boolean) 1 := ⟨i_256, i_255, i_1, by decide +kernel⟩
set_option maxHeartbeats 4000000 in
set_option maxRecDepth 100000 in
theorem c_D_isSampling (l : Launch) (g : fk_G) (ov : Int64) (M : fk_M) (k : Nat) (hk : k ≤ 18) : fk_CI l y_D_isSampling b_D_isSampling 1 (some .boolean) (fk_rm 0) g ov M M [.int (nI k)] (nI (decide (15 < k)).toNat) := by
  refine fk_ofI rfl (Nat.le_of_ble_eq_true rfl) ?_
  intro p e s m args below meth c ls S hr hlk E G hl
  have hl : lv_has ls 1 [(0, .int (nI k))] := hl
  refine lv_iload_n S.1 S.2.1 d_D_isSampling_0 rfl (lv_at hl 0 rfl) ?_
  refine lv_bipush (v := nI 16) S.1 S.2.1 d_D_isSampling_1 (by decide +kernel) ?_
  refine fk_ceq (tgt := 18) S.1 S.2.1 (by omega) (by omega) d_D_isSampling_3 rfl (fun hc1 => ?_) (fun hc1 => ?_)
  · refine lv_iconst (v := nI 1) S.1 S.2.1 d_D_isSampling_18 (by decide +kernel) ?_
    refine lv_goto (tgt := 23) S.1 S.2.1 d_D_isSampling_19 rfl ?_
    exact fk_zret S hr hlk E G rfl (fk_b1 (decide_eq_true (by omega))) (fk_bz _) d_D_isSampling_23
  · refine lv_iload_n S.1 S.2.1 d_D_isSampling_6 rfl (lv_at hl 0 rfl) ?_
    refine lv_bipush (v := nI 17) S.1 S.2.1 d_D_isSampling_7 (by decide +kernel) ?_
    refine fk_ceq (tgt := 18) S.1 S.2.1 (by omega) (by omega) d_D_isSampling_9 rfl (fun hc2 => ?_) (fun hc2 => ?_)
    · refine lv_iconst (v := nI 1) S.1 S.2.1 d_D_isSampling_18 (by decide +kernel) ?_
      refine lv_goto (tgt := 23) S.1 S.2.1 d_D_isSampling_19 rfl ?_
      exact fk_zret S hr hlk E G rfl (fk_b1 (decide_eq_true (by omega))) (fk_bz _) d_D_isSampling_23
    · refine lv_iload_n S.1 S.2.1 d_D_isSampling_12 rfl (lv_at hl 0 rfl) ?_
      refine lv_bipush (v := nI 18) S.1 S.2.1 d_D_isSampling_13 (by decide +kernel) ?_
      refine fk_cne (tgt := 22) S.1 S.2.1 (by omega) (by omega) d_D_isSampling_15 rfl (fun hc3 => ?_) (fun hc3 => ?_)
      · refine lv_iconst (v := nI 0) S.1 S.2.1 d_D_isSampling_22 (by decide +kernel) ?_
        exact fk_zret S hr hlk E G rfl (fk_b0 (decide_eq_false (by omega))) (fk_bz _) d_D_isSampling_23
      · refine lv_iconst (v := nI 1) S.1 S.2.1 d_D_isSampling_18 (by decide +kernel) ?_
        refine lv_goto (tgt := 23) S.1 S.2.1 d_D_isSampling_19 rfl ?_
        exact fk_zret S hr hlk E G rfl (fk_b1 (decide_eq_true (by omega))) (fk_bz _) d_D_isSampling_23
theorem d_D_namesFlow_0 : decode b_D_namesFlow 0 = .ok (.iload_n 0, 1) := by decide +kernel
theorem d_D_namesFlow_1 : decode b_D_namesFlow 1 = .ok (.iconst 3, 1) := by decide +kernel
theorem d_D_namesFlow_2 : decode b_D_namesFlow 2 = .ok (.if_icmp .eq 10, 3) := by decide +kernel
theorem d_D_namesFlow_5 : decode b_D_namesFlow 5 = .ok (.iload_n 0, 1) := by decide +kernel
theorem d_D_namesFlow_6 : decode b_D_namesFlow 6 = .ok (.invokestatic 171, 3) := by decide +kernel
theorem d_D_namesFlow_9 : decode b_D_namesFlow 9 = .ok (.ifCond .eq 7, 3) := by decide +kernel
theorem d_D_namesFlow_12 : decode b_D_namesFlow 12 = .ok (.iconst 1, 1) := by decide +kernel
theorem d_D_namesFlow_13 : decode b_D_namesFlow 13 = .ok (.goto 4, 3) := by decide +kernel
theorem d_D_namesFlow_16 : decode b_D_namesFlow 16 = .ok (.iconst 0, 1) := by decide +kernel
theorem d_D_namesFlow_17 : decode b_D_namesFlow 17 = .ok (.ireturn, 1) := by decide +kernel
theorem m_D_namesFlow : fk_MS y_D_namesFlow b_D_namesFlow 1 (some .boolean) 1 := ⟨i_253, i_252, i_1, by decide +kernel⟩
set_option maxHeartbeats 4000000 in
set_option maxRecDepth 100000 in
theorem c_D_namesFlow (l : Launch) (g : fk_G) (ov : Int64) (M : fk_M) (k : Nat) (hk : k ≤ 18) : fk_CI l y_D_namesFlow b_D_namesFlow 1 (some .boolean) (fk_rm 1) g ov M M [.int (nI k)] (nI (decide (k = 3 ∨ 15 < k)).toNat) := by
  refine fk_ofI rfl (Nat.le_of_ble_eq_true rfl) ?_
  intro p e s m args below meth c ls S hr hlk E G hl
  have hl : lv_has ls 1 [(0, .int (nI k))] := hl
  refine lv_iload_n S.1 S.2.1 d_D_namesFlow_0 rfl (lv_at hl 0 rfl) ?_
  refine lv_iconst (v := nI 3) S.1 S.2.1 d_D_namesFlow_1 (by decide +kernel) ?_
  refine fk_ceq (tgt := 12) S.1 S.2.1 (by omega) (by omega) d_D_namesFlow_2 rfl (fun hc1 => ?_) (fun hc1 => ?_)
  · refine lv_iconst (v := nI 1) S.1 S.2.1 d_D_namesFlow_12 (by decide +kernel) ?_
    refine lv_goto (tgt := 17) S.1 S.2.1 d_D_namesFlow_13 rfl ?_
    exact fk_zret S hr hlk E G rfl (fk_b1 (decide_eq_true (by omega))) (fk_bz _) d_D_namesFlow_17
  · refine lv_iload_n S.1 S.2.1 d_D_namesFlow_5 rfl (lv_at hl 0 rfl) ?_
    refine fk_csi S E G (rest := []) (c_D_isSampling l g ov M k hk) m_D_isSampling i_254 ⟨rfl, rfl⟩ ⟨by decide, by decide⟩ rfl rfl hl.1 (by decide) d_D_namesFlow_6 ⟨Nat.zero_le _, Nat.zero_le _⟩ (fun H locs G => ?_)
    refine fk_zeq (tgt := 16) S.1 S.2.1 (fk_bl _) d_D_namesFlow_9 rfl (fun hc2 => ?_) (fun hc2 => ?_)
    · have hc2 := of_decide_eq_false (fk_bf hc2)
      refine lv_iconst (v := nI 0) S.1 S.2.1 d_D_namesFlow_16 (by decide +kernel) ?_
      exact fk_zret S hr hlk E G rfl (fk_b0 (decide_eq_false (by omega))) (fk_bz _) d_D_namesFlow_17
    · have hc2 := of_decide_eq_true (fk_bt hc2)
      refine lv_iconst (v := nI 1) S.1 S.2.1 d_D_namesFlow_12 (by decide +kernel) ?_
      refine lv_goto (tgt := 17) S.1 S.2.1 d_D_namesFlow_13 rfl ?_
      exact fk_zret S hr hlk E G rfl (fk_b1 (decide_eq_true (by omega))) (fk_bz _) d_D_namesFlow_17
theorem d_D_clockWhere_0 : decode b_D_clockWhere 0 = .ok (.iconst 2, 1) := by decide +kernel
theorem d_D_clockWhere_1 : decode b_D_clockWhere 1 = .ok (.iload_n 0, 1) := by decide +kernel
theorem d_D_clockWhere_2 : decode b_D_clockWhere 2 = .ok (.imul, 1) := by decide +kernel
theorem d_D_clockWhere_3 : decode b_D_clockWhere 3 = .ok (.iload_n 1, 1) := by decide +kernel
theorem d_D_clockWhere_4 : decode b_D_clockWhere 4 = .ok (.ifCond .eq 7, 3) := by decide +kernel
theorem d_D_clockWhere_7 : decode b_D_clockWhere 7 = .ok (.iconst 1, 1) := by decide +kernel
theorem d_D_clockWhere_8 : decode b_D_clockWhere 8 = .ok (.goto 4, 3) := by decide +kernel
theorem d_D_clockWhere_11 : decode b_D_clockWhere 11 = .ok (.iconst 2, 1) := by decide +kernel
theorem d_D_clockWhere_12 : decode b_D_clockWhere 12 = .ok (.iadd, 1) := by decide +kernel
theorem d_D_clockWhere_13 : decode b_D_clockWhere 13 = .ok (.ireturn, 1) := by decide +kernel
theorem m_D_clockWhere : fk_MS y_D_clockWhere b_D_clockWhere 2 (some .int) 2 := ⟨i_319, i_318, i_1, by decide +kernel⟩
set_option maxHeartbeats 4000000 in
set_option maxRecDepth 100000 in
theorem c_D_clockWhere (l : Launch) (g : fk_G) (ov : Int64) (M : fk_M) (n t : Nat) (ht : t < 2 ^ 31) : fk_CI l y_D_clockWhere b_D_clockWhere 2 (some .int) (fk_rm 0) g ov M M [.int (nI n), .int (nI t)] (nI (2 * n + if t = 0 then 2 else 1)) := by
  refine fk_ofI rfl (Nat.le_of_ble_eq_true rfl) ?_
  intro p e s m args below meth c ls S hr hlk E G hl
  have hl : lv_has ls 2 [(0, .int (nI n)), (1, .int (nI t))] := hl
  refine lv_iconst (v := nI 2) S.1 S.2.1 d_D_clockWhere_0 (by decide +kernel) ?_
  refine lv_iload_n S.1 S.2.1 d_D_clockWhere_1 rfl (lv_at hl 0 rfl) ?_
  refine fk_imul S.1 S.2.1 d_D_clockWhere_2 ?_
  refine lv_iload_n S.1 S.2.1 d_D_clockWhere_3 rfl (lv_at hl 1 rfl) ?_
  refine fk_zeq (tgt := 11) S.1 S.2.1 ht d_D_clockWhere_4 rfl (fun hc1 => ?_) (fun hc1 => ?_)
  · refine lv_iconst (v := nI 2) S.1 S.2.1 d_D_clockWhere_11 (by decide +kernel) ?_
    refine fk_iadd S.1 S.2.1 d_D_clockWhere_12 ?_
    exact fk_iret S hr hlk E G rfl (by rw [if_pos hc1]) d_D_clockWhere_13
  · refine lv_iconst (v := nI 1) S.1 S.2.1 d_D_clockWhere_7 (by decide +kernel) ?_
    refine lv_goto (tgt := 12) S.1 S.2.1 d_D_clockWhere_8 rfl ?_
    refine fk_iadd S.1 S.2.1 d_D_clockWhere_12 ?_
    exact fk_iret S hr hlk E G rfl (by rw [if_neg (by omega)]) d_D_clockWhere_13
theorem d_D_flowBehind_0 : decode b_D_flowBehind 0 = .ok (.iload_n 0, 1) := by decide +kernel
theorem d_D_flowBehind_1 : decode b_D_flowBehind 1 = .ok (.iconst 1, 1) := by decide +kernel
theorem d_D_flowBehind_2 : decode b_D_flowBehind 2 = .ok (.isub, 1) := by decide +kernel
theorem d_D_flowBehind_3 : decode b_D_flowBehind 3 = .ok (.iconst 2, 1) := by decide +kernel
theorem d_D_flowBehind_4 : decode b_D_flowBehind 4 = .ok (.idiv, 1) := by decide +kernel
theorem d_D_flowBehind_5 : decode b_D_flowBehind 5 = .ok (.ireturn, 1) := by decide +kernel
theorem m_D_flowBehind : fk_MS y_D_flowBehind b_D_flowBehind 1 (some .int) 1 := ⟨i_246, i_245, i_1, by decide +kernel⟩
set_option maxHeartbeats 4000000 in
set_option maxRecDepth 100000 in
theorem c_D_flowBehind (l : Launch) (g : fk_G) (ov : Int64) (M : fk_M) (k : Nat) (h0 : 0 < k) (hk : k < 2 ^ 31) : fk_CI l y_D_flowBehind b_D_flowBehind 1 (some .int) (fk_rm 0) g ov M M [.int (nI k)] (nI ((k - 1) / 2)) := by
  refine fk_ofI rfl (Nat.le_of_ble_eq_true rfl) ?_
  intro p e s m args below meth c ls S hr hlk E G hl
  have hl : lv_has ls 1 [(0, .int (nI k))] := hl
  refine lv_iload_n S.1 S.2.1 d_D_flowBehind_0 rfl (lv_at hl 0 rfl) ?_
  refine lv_iconst (v := nI 1) S.1 S.2.1 d_D_flowBehind_1 (by decide +kernel) ?_
  refine fk_isub S.1 S.2.1 (by omega) d_D_flowBehind_2 ?_
  refine lv_iconst (v := nI 2) S.1 S.2.1 d_D_flowBehind_3 (by decide +kernel) ?_
  refine fk_idiv S.1 S.2.1 (by omega) (by decide) (by decide) d_D_flowBehind_4 ?_
  exact fk_iret S hr hlk E G rfl rfl d_D_flowBehind_5
theorem d_D_truth_0 : decode b_D_truth 0 = .ok (.iload_n 0, 1) := by decide +kernel
theorem d_D_truth_1 : decode b_D_truth 1 = .ok (.ifCond .eq 7, 3) := by decide +kernel
theorem d_D_truth_4 : decode b_D_truth 4 = .ok (.iconst 1, 1) := by decide +kernel
theorem d_D_truth_5 : decode b_D_truth 5 = .ok (.goto 4, 3) := by decide +kernel
theorem d_D_truth_8 : decode b_D_truth 8 = .ok (.iconst 0, 1) := by decide +kernel
theorem d_D_truth_9 : decode b_D_truth 9 = .ok (.ireturn, 1) := by decide +kernel
theorem m_D_truth : fk_MS y_D_truth b_D_truth 1 (some .int) 1 := ⟨i_583, i_582, i_1, by decide +kernel⟩
set_option maxHeartbeats 4000000 in
set_option maxRecDepth 100000 in
theorem c_D_truth (l : Launch) (g : fk_G) (ov : Int64) (M : fk_M) (t : Nat) (ht : t ≤ 1) : fk_CI l y_D_truth b_D_truth 1 (some .int) (fk_rm 0) g ov M M [.int (nI t)] (nI t) := by
  refine fk_ofI rfl (Nat.le_of_ble_eq_true rfl) ?_
  intro p e s m args below meth c ls S hr hlk E G hl
  have hl : lv_has ls 1 [(0, .int (nI t))] := hl
  refine lv_iload_n S.1 S.2.1 d_D_truth_0 rfl (lv_at hl 0 rfl) ?_
  refine fk_zeq (tgt := 8) S.1 S.2.1 (by omega) d_D_truth_1 rfl (fun hc1 => ?_) (fun hc1 => ?_)
  · refine lv_iconst (v := nI 0) S.1 S.2.1 d_D_truth_8 (by decide +kernel) ?_
    exact fk_iret S hr hlk E G rfl (by rw [hc1]) d_D_truth_9
  · refine lv_iconst (v := nI 1) S.1 S.2.1 d_D_truth_4 (by decide +kernel) ?_
    refine lv_goto (tgt := 9) S.1 S.2.1 d_D_truth_5 rfl ?_
    exact fk_iret S hr hlk E G rfl (by rw [show t = 1 by omega]) d_D_truth_9
theorem d_A_fill_0 : decode b_A_fill 0 = .ok (.iconst 0, 1) := by decide +kernel
theorem d_A_fill_1 : decode b_A_fill 1 = .ok (.istore_n 2, 1) := by decide +kernel
theorem d_A_fill_2 : decode b_A_fill 2 = .ok (.aload_n 0, 1) := by decide +kernel
theorem d_A_fill_3 : decode b_A_fill 3 = .ok (.arraylength, 1) := by decide +kernel
theorem d_A_fill_4 : decode b_A_fill 4 = .ok (.istore_n 3, 1) := by decide +kernel
theorem d_A_fill_5 : decode b_A_fill 5 = .ok (.iload_n 2, 1) := by decide +kernel
theorem d_A_fill_6 : decode b_A_fill 6 = .ok (.iload_n 3, 1) := by decide +kernel
theorem d_A_fill_7 : decode b_A_fill 7 = .ok (.if_icmp .ge 13, 3) := by decide +kernel
theorem d_A_fill_10 : decode b_A_fill 10 = .ok (.aload_n 0, 1) := by decide +kernel
theorem d_A_fill_11 : decode b_A_fill 11 = .ok (.iload_n 2, 1) := by decide +kernel
theorem d_A_fill_12 : decode b_A_fill 12 = .ok (.iload_n 1, 1) := by decide +kernel
theorem d_A_fill_13 : decode b_A_fill 13 = .ok (.iastore, 1) := by decide +kernel
theorem d_A_fill_14 : decode b_A_fill 14 = .ok (.iinc 2 1, 3) := by decide +kernel
theorem d_A_fill_17 : decode b_A_fill 17 = .ok (.goto (-12), 3) := by decide +kernel
theorem d_A_fill_20 : decode b_A_fill 20 = .ok (.return_, 1) := by decide +kernel
theorem m_A_fill : fk_MS y_A_fill b_A_fill 4 none 2 := ⟨i_227, i_226, i_14, by decide +kernel⟩
/-- the first n places hold v -/
def fk_fl (r : Nat → Int32) (n : Nat) (v : Int32) : Nat → Int32 := fun j => if j < n then v else r j
theorem fk_fl0 (r : Nat → Int32) (v : Int32) : fk_fl r 0 v = r := by
  funext j
  simp [fk_fl]
theorem fk_flS (r : Nat → Int32) (n : Nat) (v : Int32) : upd (fk_fl r n v) n v = fk_fl r (n + 1) v := by
  funext j
  unfold upd fk_fl
  by_cases h : j = n
  · subst h; simp
  · by_cases h2 : j < n
    · rw [if_neg h, if_pos h2, if_pos (by omega)]
    · rw [if_neg h, if_neg h2, if_neg (by omega)]
set_option maxHeartbeats 4000000 in
set_option maxRecDepth 100000 in
theorem c_A_fill (l : Launch) (g : fk_G) (ov : Int64) (M : fk_M) (k n : Nat) (hk : k < 111) (hn : n < 2 ^ 31) (v : Int32) (he : ∀ r, fk_cell g ov k r = .inl (g.2.1 0, n, .inl r)) : fk_CV l y_A_fill b_A_fill 4 (fk_rm 0) g ov M (va_up M k (fk_fl (M k) n v)) [.ref (fk_a g k), .int v] := by
  refine fk_ofV rfl (Nat.le_of_ble_eq_true rfl) ?_
  intro p e s m args below meth c ls S hr hlk E G hl
  have hl : lv_has ls 4 [(0, .ref (fk_a g k)), (1, .int v)] := hl
  refine lv_iconst (v := nI 0) S.1 S.2.1 d_A_fill_0 (by decide +kernel) ?_
  refine lv_istore_n (lv' := [(2, .int (nI 0)), (0, .ref (fk_a g k)), (1, .int v)]) S.1 S.2.1 d_A_fill_1 rfl hl (by decide) rfl (fun ls hl => ?_)
  refine lv_aload_n S.1 S.2.1 d_A_fill_2 rfl (lv_at hl 1 rfl) ?_
  refine fk_al S E G k hk he d_A_fill_3 ?_
  refine lv_istore_n (lv' := [(3, .int (nI n)), (2, .int (nI 0)), (0, .ref (fk_a g k)), (1, .int v)]) S.1 S.2.1 d_A_fill_4 rfl hl (by decide) rfl (fun ls hl => ?_)
  have loop : ∀ (d i : Nat) (H : Heap) (locs : List Loc) (ls : Array Slot), i + d = n → fk_H g ov (va_up M k (fk_fl (M k) i v)) s H locs → lv_has ls 4 [(3, .int (nI n)), (2, .int (nI i)), (0, .ref (fk_a g k)), (1, .int v)] → W p l e (fk_rm 0) s m args below meth c H locs 0 0 (MQ below (va_Qv (fun (_ : Unit) => True) (fun _ t => fk_Wd g ov (va_up M k (fk_fl (M k) n v)) t) (fk_A g)) args s 0 0 (fk_A g)) (F0 m 5 ls []) := by
    intro d
    induction d with
    | zero =>
      intro i H locs ls hi G hl
      refine lv_iload_n S.1 S.2.1 d_A_fill_5 rfl (lv_at hl 1 rfl) ?_
      refine lv_iload_n S.1 S.2.1 d_A_fill_6 rfl (lv_at hl 0 rfl) ?_
      refine fk_cge (tgt := 20) S.1 S.2.1 (by omega) (by omega) d_A_fill_7 rfl (fun hc1 => ?_) (fun hc1 => ?_)
      · have hi : i = n := by omega
        subst hi
        exact fk_vret S hr hlk E G rfl d_A_fill_20
      · exact absurd hi (by omega)
    | succ d ih =>
      intro i H locs ls hi G hl
      refine lv_iload_n S.1 S.2.1 d_A_fill_5 rfl (lv_at hl 1 rfl) ?_
      refine lv_iload_n S.1 S.2.1 d_A_fill_6 rfl (lv_at hl 0 rfl) ?_
      refine fk_cge (tgt := 20) S.1 S.2.1 (by omega) (by omega) d_A_fill_7 rfl (fun hc2 => ?_) (fun hc2 => ?_)
      · exact absurd hi (by omega)
      · refine lv_aload_n S.1 S.2.1 d_A_fill_10 rfl (lv_at hl 2 rfl) ?_
        refine lv_iload_n S.1 S.2.1 d_A_fill_11 rfl (lv_at hl 1 rfl) ?_
        refine lv_iload_n S.1 S.2.1 d_A_fill_12 rfl (lv_at hl 3 rfl) ?_
        refine fk_is S E G k hk he i rfl (by omega) hn d_A_fill_13 (fun H locs G => ?_)
        have hM : va_up (va_up M k (fk_fl (M k) i v)) k (upd (va_up M k (fk_fl (M k) i v) k) i v) = va_up M k (fk_fl (M k) (i + 1) v) := by rw [bx_uu, va_up_self, fk_flS]
        rw [hM] at G
        refine lv_iinc (k := 1) (v := nI (i + 1)) (lv' := [(2, .int (nI (i + 1))), (3, .int (nI n)), (0, .ref (fk_a g k)), (1, .int v)]) S.1 S.2.1 d_A_fill_14 hl rfl (nI_1 i) (by decide) rfl (fun ls hl => ?_)
        refine lv_goto (tgt := 5) S.1 S.2.1 d_A_fill_17 rfl ?_
        exact ih (i + 1) H locs ls (by omega) G (lv_sub hl [1, 0, 2, 3] rfl)
  refine loop n 0 s.heap [] ls (by omega) ?_ (lv_sub hl [0, 1, 2, 3] rfl)
  rw [fk_fl0, show va_up M k (M k) = M from ?_]
  · exact G
  · funext j
    unfold va_up
    by_cases h : j = k
    · rw [if_pos h, h]
    · rw [if_neg h]
