/-! FlowDesk: equation, where it answers. Written by wip/gen/s_desk5.py. -/
theorem fk_flow_put {g : fk_G} {ov : Int64} {A : Nat → Int32} {j x : Nat} (hj : j < 12) (hx : x < 2 ^ 31) : fk_cell g ov (3 + 6 * j) (upd A 0 (nI x)) = .inr (3, [.ref (fk_a g x), .int (A 1), .int (A 2), .int (A 3), .int (A 4), .int (A 5), .int (A 6)]) := by
  refine (congrArg (fk_ce g ov (3 + 6 * j) (upd A 0 (nI x))) (fk_kf hj)).trans ?_
  show Sum.inr (3, [Value.ref (fk_a g (upd A 0 (nI x) 0).toNatClampNeg), _, _, _, _, _, _]) = _
  rw [pk_us, nI_clamp hx]
  rfl
theorem fk_desk_put {g : fk_G} {ov : Int64} {A : Nat → Int32} {x : Nat} (hx : x < 2 ^ 31) : fk_cell g ov 0 (upd A 4 (nI x)) = .inr (6, [.ref (fk_a g 1), .ref (fk_a g 75), .ref (fk_a g 79), .ref (fk_a g 82), .ref (fk_a g x)]) := by
  refine (congrArg (fk_ce g ov 0 (upd A 4 (nI x))) kd_0).trans ?_
  show Sum.inr (6, [_, _, _, _, Value.ref (fk_a g (upd A 4 (nI x) 4).toNatClampNeg)]) = _
  rw [pk_us, nI_clamp hx]
def fk_q1 (M : fk_M) (j x : Nat) : fk_M := va_up M (3 + 6 * j) (upd (M (3 + 6 * j)) 0 (nI x))
def fk_q2 (M : fk_M) (y : Nat) : fk_M := va_up M 0 (upd (M 0) 4 (nI y))
def fk_q3 (M : fk_M) (y : Nat) : fk_M := va_up M y (upd (M y) 4 (nI 0))
/-- the draft x, well formed, becomes flow j's equation; the old one y the draft -/
def fk_eqm (bf : Nat → Nat) (nb n : Nat) (M : fk_M) (j x y : Nat) : fk_M := fk_q3 (fk_q2 (fk_q1 (va_up M (x + 2) (fk_we bf nb n 11 0 (fk_fl (M (x + 2)) 40 0))) j x) y) y
theorem d_D_equation_0 : decode b_D_equation 0 = .ok (.aload_n 0, 1) := by decide +kernel
theorem d_D_equation_1 : decode b_D_equation 1 = .ok (.getfield 12, 3) := by decide +kernel
theorem d_D_equation_4 : decode b_D_equation 4 = .ok (.iload_n 1, 1) := by decide +kernel
theorem d_D_equation_5 : decode b_D_equation 5 = .ok (.invokevirtual 85, 3) := by decide +kernel
theorem d_D_equation_8 : decode b_D_equation 8 = .ok (.ifCond .eq 39, 3) := by decide +kernel
theorem d_D_equation_11 : decode b_D_equation 11 = .ok (.aload_n 0, 1) := by decide +kernel
theorem d_D_equation_12 : decode b_D_equation 12 = .ok (.getfield 12, 3) := by decide +kernel
theorem d_D_equation_15 : decode b_D_equation 15 = .ok (.getfield 88, 3) := by decide +kernel
theorem d_D_equation_18 : decode b_D_equation 18 = .ok (.iload_n 1, 1) := by decide +kernel
theorem d_D_equation_19 : decode b_D_equation 19 = .ok (.aaload, 1) := by decide +kernel
theorem d_D_equation_20 : decode b_D_equation 20 = .ok (.getfield 92, 3) := by decide +kernel
theorem d_D_equation_23 : decode b_D_equation 23 = .ok (.ifCond .ne 24, 3) := by decide +kernel
theorem d_D_equation_26 : decode b_D_equation 26 = .ok (.aload_n 0, 1) := by decide +kernel
theorem d_D_equation_27 : decode b_D_equation 27 = .ok (.getfield 44, 3) := by decide +kernel
theorem d_D_equation_30 : decode b_D_equation 30 = .ok (.aload_n 0, 1) := by decide +kernel
theorem d_D_equation_31 : decode b_D_equation 31 = .ok (.getfield 12, 3) := by decide +kernel
theorem d_D_equation_34 : decode b_D_equation 34 = .ok (.getfield 59, 3) := by decide +kernel
theorem d_D_equation_37 : decode b_D_equation 37 = .ok (.invokevirtual 98, 3) := by decide +kernel
theorem d_D_equation_40 : decode b_D_equation 40 = .ok (.ifCond .eq 7, 3) := by decide +kernel
theorem d_D_equation_43 : decode b_D_equation 43 = .ok (.iconst 1, 1) := by decide +kernel
theorem d_D_equation_44 : decode b_D_equation 44 = .ok (.goto 4, 3) := by decide +kernel
theorem d_D_equation_47 : decode b_D_equation 47 = .ok (.iconst 0, 1) := by decide +kernel
theorem d_D_equation_48 : decode b_D_equation 48 = .ok (.istore_n 2, 1) := by decide +kernel
theorem d_D_equation_49 : decode b_D_equation 49 = .ok (.iload_n 2, 1) := by decide +kernel
theorem d_D_equation_50 : decode b_D_equation 50 = .ok (.ifCond .ne 21, 3) := by decide +kernel
theorem d_D_equation_53 : decode b_D_equation 53 = .ok (.aload_n 0, 1) := by decide +kernel
theorem d_D_equation_54 : decode b_D_equation 54 = .ok (.getfield 44, 3) := by decide +kernel
theorem d_D_equation_57 : decode b_D_equation 57 = .ok (.iconst 0, 1) := by decide +kernel
theorem d_D_equation_58 : decode b_D_equation 58 = .ok (.putfield 77, 3) := by decide +kernel
theorem d_D_equation_61 : decode b_D_equation 61 = .ok (.new 52, 3) := by decide +kernel
theorem d_D_equation_64 : decode b_D_equation 64 = .ok (.dup, 1) := by decide +kernel
theorem d_D_equation_65 : decode b_D_equation 65 = .ok (.ldc 101, 2) := by decide +kernel
theorem d_D_equation_67 : decode b_D_equation 67 = .ok (.invokespecial 56, 3) := by decide +kernel
theorem d_D_equation_70 : decode b_D_equation 70 = .ok (.athrow, 1) := by decide +kernel
theorem d_D_equation_71 : decode b_D_equation 71 = .ok (.aload_n 0, 1) := by decide +kernel
theorem d_D_equation_72 : decode b_D_equation 72 = .ok (.getfield 12, 3) := by decide +kernel
theorem d_D_equation_75 : decode b_D_equation 75 = .ok (.getfield 88, 3) := by decide +kernel
theorem d_D_equation_78 : decode b_D_equation 78 = .ok (.iload_n 1, 1) := by decide +kernel
theorem d_D_equation_79 : decode b_D_equation 79 = .ok (.aaload, 1) := by decide +kernel
theorem d_D_equation_80 : decode b_D_equation 80 = .ok (.getfield 103, 3) := by decide +kernel
theorem d_D_equation_83 : decode b_D_equation 83 = .ok (.astore_n 3, 1) := by decide +kernel
theorem d_D_equation_84 : decode b_D_equation 84 = .ok (.aload_n 0, 1) := by decide +kernel
theorem d_D_equation_85 : decode b_D_equation 85 = .ok (.getfield 12, 3) := by decide +kernel
theorem d_D_equation_88 : decode b_D_equation 88 = .ok (.getfield 88, 3) := by decide +kernel
theorem d_D_equation_91 : decode b_D_equation 91 = .ok (.iload_n 1, 1) := by decide +kernel
theorem d_D_equation_92 : decode b_D_equation 92 = .ok (.aaload, 1) := by decide +kernel
theorem d_D_equation_93 : decode b_D_equation 93 = .ok (.aload_n 0, 1) := by decide +kernel
theorem d_D_equation_94 : decode b_D_equation 94 = .ok (.getfield 44, 3) := by decide +kernel
theorem d_D_equation_97 : decode b_D_equation 97 = .ok (.putfield 103, 3) := by decide +kernel
theorem d_D_equation_100 : decode b_D_equation 100 = .ok (.aload_n 0, 1) := by decide +kernel
theorem d_D_equation_101 : decode b_D_equation 101 = .ok (.aload_n 3, 1) := by decide +kernel
theorem d_D_equation_102 : decode b_D_equation 102 = .ok (.putfield 44, 3) := by decide +kernel
theorem d_D_equation_105 : decode b_D_equation 105 = .ok (.aload_n 0, 1) := by decide +kernel
theorem d_D_equation_106 : decode b_D_equation 106 = .ok (.getfield 44, 3) := by decide +kernel
theorem d_D_equation_109 : decode b_D_equation 109 = .ok (.iconst 0, 1) := by decide +kernel
theorem d_D_equation_110 : decode b_D_equation 110 = .ok (.putfield 77, 3) := by decide +kernel
theorem d_D_equation_113 : decode b_D_equation 113 = .ok (.aload_n 0, 1) := by decide +kernel
theorem d_D_equation_114 : decode b_D_equation 114 = .ok (.invokevirtual 72, 3) := by decide +kernel
theorem d_D_equation_117 : decode b_D_equation 117 = .ok (.return_, 1) := by decide +kernel
theorem m_D_equation : fk_MI y_D_equation b_D_equation 4 none 1 := ⟨i_482, i_480, i_481, i_1, by decide +kernel⟩
set_option maxHeartbeats 4000000 in
set_option maxRecDepth 100000 in
theorem c_D_equation (l : Launch) (g : fk_G) (ov : Int64) (M : fk_M) (n j : Nat) (hn : M 1 1 = nI n) (h12 : n ≤ 12) (hj : j < n) (hin : M (3 + 6 * j) 2 = 0) (x y : Nat) (hX : fk_X x) (hY : fk_X y) (hd : M 0 4 = nI x) (hy : M (3 + 6 * j) 0 = nI y) (bf : Nat → Nat) (nb : Nat) (hn40 : nb ≤ 40) (hlen : M x 4 = nI nb) (hb : ∀ i, i < nb → M (x + 1) i = nI (bf i)) (hb2 : ∀ i, i < nb → bf i < 256) (hwf : fk_pe bf nb n 11 0 = some nb) (ck P sz : Nat → Nat) (bb : Nat → Nat → Nat) (hs : fk_Sh n ck P sz bb (fk_eqm bf nb n M j x y)) : fk_CV l y_D_equation b_D_equation 4 (fk_rm 15) g ov M (fk_rs P (fk_fg (fk_eqm bf nb n M j x y)) n) [.ref (fk_a g 0), .int (nI j)] := by
  refine fk_ofV rfl (Nat.le_of_ble_eq_true rfl) ?_
  intro p e s m args below meth c ls S hr hlk E G hl
  have hl : lv_has ls 4 [(0, .ref (fk_a g 0)), (1, .int (nI j))] := hl
  have hh := fk_hs_in hj h12
  have hxx : x ≠ 0 ∧ x + 2 ≠ 0 ∧ x + 2 ≠ 3 + 6 * j := by rcases hX with h9 | ⟨z, h8, h9⟩ <;> omega
  refine lv_aload_n S.1 S.2.1 d_D_equation_0 rfl (lv_at hl 0 rfl) ?_
  refine fk_gf S E G 0 (by decide) (v := .ref (fk_a g 1)) (congrArg (fk_ce g ov 0 (M 0)) kd_0) rfl 0 (by decide) rfl i_201 rfl d_D_equation_1 ?_
  refine lv_iload_n S.1 S.2.1 d_D_equation_4 rfl (lv_at hl 1 rfl) ?_
  refine fk_cni S E G 1 (by decide) (congrArg (fk_ce g ov 1 (M 1)) kd_1) rfl (rest := []) (c_N_has l g ov M (nI j) n hn) m_N_has (List.mem_of_getElem? (i := 28) rfl) ⟨rfl, rfl⟩ ⟨by decide, by decide⟩ rfl rfl hl.1 (Nat.le_of_ble_eq_true rfl) d_D_equation_5 ⟨Nat.zero_le _, Nat.zero_le _⟩ (fun H locs G => ?_)
  refine fk_zeq (tgt := 47) S.1 S.2.1 (fk_bl _) d_D_equation_8 rfl (fun hc1 => ?_) (fun hc1 => ?_)
  · have hf := fk_bf hc1
    rw [hh] at hf
    exact absurd hf (by decide)
  · refine lv_aload_n S.1 S.2.1 d_D_equation_11 rfl (lv_at hl 0 rfl) ?_
    refine fk_gf S E G 0 (by decide) (v := .ref (fk_a g 1)) (congrArg (fk_ce g ov 0 (M 0)) kd_0) rfl 0 (by decide) rfl i_201 rfl d_D_equation_12 ?_
    refine fk_gn S E G 1 (by decide) (v := .ref (fk_a g 2)) (congrArg (fk_ce g ov 1 (M 1)) kd_1) rfl 0 (by decide) rfl (List.mem_of_getElem? (i := 36) rfl) rfl d_D_equation_15 ?_
    refine lv_iload_n S.1 S.2.1 d_D_equation_18 rfl (lv_at hl 1 rfl) ?_
    refine fk_rw S E G j rfl (by omega) d_D_equation_19 ?_
    refine fk_gn S E G (3 + 6 * j) (by omega) (v := .int (M (3 + 6 * j) 2)) (congrArg (fk_ce g ov (3 + 6 * j) (M (3 + 6 * j))) (fk_kf (show j < 12 by omega))) rfl 2 (by decide) rfl (List.mem_of_getElem? (i := 19) rfl) rfl d_D_equation_20 ?_
    refine lv_if_ne (tgt := 47) S.1 S.2.1 d_D_equation_23 rfl (fun hc2 => ?_) (fun hc2 => ?_)
    · exact absurd hin hc2
    · refine lv_aload_n S.1 S.2.1 d_D_equation_26 rfl (lv_at hl 0 rfl) ?_
      refine fk_gf S E G 0 (by decide) (v := .ref (fk_a g x)) (fk_desk hd (fk_Xb hX)) rfl 4 (by decide) rfl i_205 rfl d_D_equation_27 ?_
      refine lv_aload_n S.1 S.2.1 d_D_equation_30 rfl (lv_at hl 0 rfl) ?_
      refine fk_gf S E G 0 (by decide) (v := .ref (fk_a g 1)) (congrArg (fk_ce g ov 0 (M 0)) kd_0) rfl 0 (by decide) rfl i_201 rfl d_D_equation_31 ?_
      refine fk_gn S E G 1 (by decide) (v := .int (M 1 1)) (congrArg (fk_ce g ov 1 (M 1)) kd_1) rfl 1 (by decide) rfl (List.mem_of_getElem? (i := 40) rfl) rfl d_D_equation_34 ?_
      rw [hn]
      refine fk_cni S E G x (by have := fk_Xlt hX; omega) (congrArg (fk_ce g ov x (M x)) (fk_kx0 hX)) rfl (rest := []) (c_E_isWellFormed l g ov M x hX bf nb n hn40 (by omega) hlen hb hb2) m_E_isWellFormed (List.mem_of_getElem? (i := 29) rfl) ⟨rfl, rfl⟩ ⟨by decide, by decide⟩ rfl rfl hl.1 (Nat.le_of_ble_eq_true rfl) d_D_equation_37 ⟨Nat.zero_le _, Nat.zero_le _⟩ (fun H locs G => ?_)
      obtain ⟨Mw, hMw⟩ : ∃ z : fk_M, z = va_up M (x + 2) (fk_we bf nb n 11 0 (fk_fl (M (x + 2)) 40 0)) := ⟨_, rfl⟩
      rw [← hMw] at G
      refine fk_zeq (tgt := 47) S.1 S.2.1 (fk_bl _) d_D_equation_40 rfl (fun hc3 => ?_) (fun hc3 => ?_)
      · have hw9 := decide_eq_true hwf
        have hf := fk_bf hc3
        rw [hw9] at hf
        exact absurd hf (by decide)
      · refine lv_iconst (v := nI 1) S.1 S.2.1 d_D_equation_43 (by decide +kernel) ?_
        refine lv_goto (tgt := 48) S.1 S.2.1 d_D_equation_44 rfl ?_
        refine lv_istore_n (lv' := [(2, .int (nI 1)), (0, .ref (fk_a g 0)), (1, .int (nI j))]) S.1 S.2.1 d_D_equation_48 rfl hl (by decide) rfl (fun ls hl => ?_)
        refine lv_iload_n S.1 S.2.1 d_D_equation_49 rfl (lv_at hl 0 rfl) ?_
        refine fk_zne (tgt := 71) S.1 S.2.1 (by decide) d_D_equation_50 rfl (fun hc4 => ?_) (fun hc4 => ?_)
        · have hyw : Mw (3 + 6 * j) 0 = nI y := by rw [hMw, va_up_ne _ _ (by omega)]; exact hy
          have hdw : Mw 0 4 = nI x := by rw [hMw, va_up_ne _ _ (by omega)]; exact hd
          refine lv_aload_n S.1 S.2.1 d_D_equation_71 rfl (lv_at hl 1 rfl) ?_
          refine fk_gf S E G 0 (by decide) (v := .ref (fk_a g 1)) (congrArg (fk_ce g ov 0 (Mw 0)) kd_0) rfl 0 (by decide) rfl i_201 rfl d_D_equation_72 ?_
          refine fk_gn S E G 1 (by decide) (v := .ref (fk_a g 2)) (congrArg (fk_ce g ov 1 (Mw 1)) kd_1) rfl 0 (by decide) rfl (List.mem_of_getElem? (i := 36) rfl) rfl d_D_equation_75 ?_
          refine lv_iload_n S.1 S.2.1 d_D_equation_78 rfl (lv_at hl 2 rfl) ?_
          refine fk_rw S E G j rfl (by omega) d_D_equation_79 ?_
          refine fk_gn S E G (3 + 6 * j) (by omega) (v := .ref (fk_a g y)) (fk_flow (show j < 12 by omega) hyw (fk_Xb hY)) rfl 0 (by decide) rfl (List.mem_of_getElem? (i := 15) rfl) rfl d_D_equation_80 ?_
          refine lv_astore_n (lv' := [(3, .ref (fk_a g y)), (2, .int (nI 1)), (0, .ref (fk_a g 0)), (1, .int (nI j))]) S.1 S.2.1 d_D_equation_83 rfl hl (by decide) rfl (fun ls hl => ?_)
          refine lv_aload_n S.1 S.2.1 d_D_equation_84 rfl (lv_at hl 2 rfl) ?_
          refine fk_gf S E G 0 (by decide) (v := .ref (fk_a g 1)) (congrArg (fk_ce g ov 0 (Mw 0)) kd_0) rfl 0 (by decide) rfl i_201 rfl d_D_equation_85 ?_
          refine fk_gn S E G 1 (by decide) (v := .ref (fk_a g 2)) (congrArg (fk_ce g ov 1 (Mw 1)) kd_1) rfl 0 (by decide) rfl (List.mem_of_getElem? (i := 36) rfl) rfl d_D_equation_88 ?_
          refine lv_iload_n S.1 S.2.1 d_D_equation_91 rfl (lv_at hl 3 rfl) ?_
          refine fk_rw S E G j rfl (by omega) d_D_equation_92 ?_
          refine lv_aload_n S.1 S.2.1 d_D_equation_93 rfl (lv_at hl 2 rfl) ?_
          refine fk_gf S E G 0 (by decide) (v := .ref (fk_a g x)) (fk_desk hdw (fk_Xb hX)) rfl 4 (by decide) rfl i_205 rfl d_D_equation_94 ?_
          refine fk_pn S E G (3 + 6 * j) (by omega) (fk_flow (show j < 12 by omega) hyw (fk_Xb hY)) rfl 0 (by decide) rfl (List.mem_of_getElem? (i := 15) rfl) (upd (Mw (3 + 6 * j)) 0 (nI x)) (fk_flow_put (show j < 12 by omega) (fk_Xb hX)) rfl (ty := (.object "FlowDesk$Expression")) (by decide +kernel) rfl rfl (Nat.le_of_ble_eq_true rfl) d_D_equation_97 (fun H locs G => ?_)
          change fk_H g ov (fk_q1 Mw j x) s H locs at G
          obtain ⟨Mx, hMx⟩ : ∃ z : fk_M, z = fk_q1 Mw j x := ⟨_, rfl⟩
          rw [← hMx] at G
          have hdx : Mx 0 4 = nI x := by rw [hMx]; unfold fk_q1; rw [va_up_ne _ _ (by omega)]; exact hdw
          refine lv_aload_n S.1 S.2.1 d_D_equation_100 rfl (lv_at hl 2 rfl) ?_
          refine lv_aload_n S.1 S.2.1 d_D_equation_101 rfl (lv_at hl 0 rfl) ?_
          refine fk_pf S E G 0 (by decide) (fk_desk hdx (fk_Xb hX)) rfl 4 (by decide) rfl i_205 (upd (Mx 0) 4 (nI y)) (fk_desk_put (fk_Xb hY)) rfl (ty := (.object "FlowDesk$Expression")) (by decide +kernel) rfl rfl (Nat.le_of_ble_eq_true rfl) d_D_equation_102 (fun H locs G => ?_)
          change fk_H g ov (fk_q2 Mx y) s H locs at G
          obtain ⟨My, hMy⟩ : ∃ z : fk_M, z = fk_q2 Mx y := ⟨_, rfl⟩
          rw [← hMy] at G
          have hdy : My 0 4 = nI y := by rw [hMy]; unfold fk_q2; rw [va_up_self, pk_us]
          refine lv_aload_n S.1 S.2.1 d_D_equation_105 rfl (lv_at hl 2 rfl) ?_
          refine fk_gf S E G 0 (by decide) (v := .ref (fk_a g y)) (fk_desk hdy (fk_Xb hY)) rfl 4 (by decide) rfl i_205 rfl d_D_equation_106 ?_
          refine lv_iconst (v := nI 0) S.1 S.2.1 d_D_equation_109 (by decide +kernel) ?_
          refine fk_pn S E G y (by have := fk_Xlt hY; omega) (congrArg (fk_ce g ov y (My y)) (fk_kx0 hY)) rfl 4 (by decide) rfl (List.mem_of_getElem? (i := 9) rfl) (upd (My y) 4 (nI 0)) (congrArg (fk_ce g ov y (upd (My y) 4 (nI 0))) (fk_kx0 hY)) rfl (ty := (.int)) (by decide +kernel) rfl rfl (Nat.le_of_ble_eq_true rfl) d_D_equation_110 (fun H locs G => ?_)
          obtain ⟨M5, hM5⟩ : ∃ z : fk_M, z = va_up My y (upd (My y) 4 (nI 0)) := ⟨_, rfl⟩
          rw [← hM5] at G
          have hm3 : fk_eqm bf nb n M j x y = M5 := by
            rw [hM5, hMy, hMx, hMw]
            rfl
          rw [hm3] at hs ⊢
          refine lv_aload_n S.1 S.2.1 d_D_equation_113 rfl (lv_at hl 2 rfl) ?_
          refine fk_cvv S E G 0 (by decide) (congrArg (fk_ce g ov 0 (M5 0)) kd_0) rfl (rest := []) (c_D_beginUnchecked l g ov M5 n ck P sz bb hs) m_D_beginUnchecked i_458 ⟨rfl, rfl⟩ ⟨by decide, by decide⟩ rfl rfl hl.1 (Nat.le_of_ble_eq_true rfl) d_D_equation_114 ⟨Nat.zero_le _, Nat.zero_le _⟩ (fun H locs G => ?_)
          exact fk_vret S hr hlk E G rfl d_D_equation_117
        · exact absurd hc4 (by decide)
