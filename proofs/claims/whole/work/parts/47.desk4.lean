/-! FlowDesk: type, where it answers. Written by wip/gen/s_desk4.py. -/
/-- the byte d of a row, as the class takes it -/
def fk_yc (w : Int64) (d : Nat) : Int32 := ((w.toUInt64 >>> ((nI (8 * d)).toInt64.toUInt64 &&& Int64.toUInt64 63)).toInt64).toInt32 &&& nI 255
def fk_dap (x u : Nat) (v : Int32) (M : fk_M) : fk_M := va_up (va_up M (x + 1) (upd (M (x + 1)) u v)) x (upd (M x) 4 (nI (u + 1)))
/-- d bytes appended to the draft x of u bytes -/
def fk_dty (x : Nat) (w : Int64) : Nat → Nat → fk_M → fk_M
  | 0, _, M => M
  | d + 1, u, M => fk_dty x w d (u + 1) (fk_dap x u (fk_yc w d) M)
theorem d_D_type_0 : decode b_D_type 0 = .ok (.iload_n 3, 1) := by decide +kernel
theorem d_D_type_1 : decode b_D_type 1 = .ok (.iconst 1, 1) := by decide +kernel
theorem d_D_type_2 : decode b_D_type 2 = .ok (.if_icmp .lt 9, 3) := by decide +kernel
theorem d_D_type_5 : decode b_D_type 5 = .ok (.iload_n 3, 1) := by decide +kernel
theorem d_D_type_6 : decode b_D_type 6 = .ok (.bipush 8, 2) := by decide +kernel
theorem d_D_type_8 : decode b_D_type 8 = .ok (.if_icmp .le 13, 3) := by decide +kernel
theorem d_D_type_11 : decode b_D_type 11 = .ok (.new 52, 3) := by decide +kernel
theorem d_D_type_14 : decode b_D_type 14 = .ok (.dup, 1) := by decide +kernel
theorem d_D_type_15 : decode b_D_type 15 = .ok (.ldc 75, 2) := by decide +kernel
theorem d_D_type_17 : decode b_D_type 17 = .ok (.invokespecial 56, 3) := by decide +kernel
theorem d_D_type_20 : decode b_D_type 20 = .ok (.athrow, 1) := by decide +kernel
theorem d_D_type_21 : decode b_D_type 21 = .ok (.aload_n 0, 1) := by decide +kernel
theorem d_D_type_22 : decode b_D_type 22 = .ok (.getfield 44, 3) := by decide +kernel
theorem d_D_type_25 : decode b_D_type 25 = .ok (.getfield 77, 3) := by decide +kernel
theorem d_D_type_28 : decode b_D_type 28 = .ok (.iload_n 3, 1) := by decide +kernel
theorem d_D_type_29 : decode b_D_type 29 = .ok (.iadd, 1) := by decide +kernel
theorem d_D_type_30 : decode b_D_type 30 = .ok (.bipush 40, 2) := by decide +kernel
theorem d_D_type_32 : decode b_D_type 32 = .ok (.if_icmp .le 13, 3) := by decide +kernel
theorem d_D_type_35 : decode b_D_type 35 = .ok (.new 63, 3) := by decide +kernel
theorem d_D_type_38 : decode b_D_type 38 = .ok (.dup, 1) := by decide +kernel
theorem d_D_type_39 : decode b_D_type 39 = .ok (.ldc 80, 2) := by decide +kernel
theorem d_D_type_41 : decode b_D_type 41 = .ok (.invokespecial 67, 3) := by decide +kernel
theorem d_D_type_44 : decode b_D_type 44 = .ok (.athrow, 1) := by decide +kernel
theorem d_D_type_45 : decode b_D_type 45 = .ok (.iload_n 3, 1) := by decide +kernel
theorem d_D_type_46 : decode b_D_type 46 = .ok (.iconst 1, 1) := by decide +kernel
theorem d_D_type_47 : decode b_D_type 47 = .ok (.isub, 1) := by decide +kernel
theorem d_D_type_48 : decode b_D_type 48 = .ok (.istore 4, 2) := by decide +kernel
theorem d_D_type_50 : decode b_D_type 50 = .ok (.iload 4, 2) := by decide +kernel
theorem d_D_type_52 : decode b_D_type 52 = .ok (.ifCond .lt 28, 3) := by decide +kernel
theorem d_D_type_55 : decode b_D_type 55 = .ok (.aload_n 0, 1) := by decide +kernel
theorem d_D_type_56 : decode b_D_type 56 = .ok (.getfield 44, 3) := by decide +kernel
theorem d_D_type_59 : decode b_D_type 59 = .ok (.lload_n 1, 1) := by decide +kernel
theorem d_D_type_60 : decode b_D_type 60 = .ok (.bipush 8, 2) := by decide +kernel
theorem d_D_type_62 : decode b_D_type 62 = .ok (.iload 4, 2) := by decide +kernel
theorem d_D_type_64 : decode b_D_type 64 = .ok (.imul, 1) := by decide +kernel
theorem d_D_type_65 : decode b_D_type 65 = .ok (.lushr, 1) := by decide +kernel
theorem d_D_type_66 : decode b_D_type 66 = .ok (.l2i, 1) := by decide +kernel
theorem d_D_type_67 : decode b_D_type 67 = .ok (.sipush 255, 3) := by decide +kernel
theorem d_D_type_70 : decode b_D_type 70 = .ok (.iand, 1) := by decide +kernel
theorem d_D_type_71 : decode b_D_type 71 = .ok (.invokevirtual 82, 3) := by decide +kernel
theorem d_D_type_74 : decode b_D_type 74 = .ok (.iinc 4 (-1), 3) := by decide +kernel
theorem d_D_type_77 : decode b_D_type 77 = .ok (.goto (-27), 3) := by decide +kernel
theorem d_D_type_80 : decode b_D_type 80 = .ok (.return_, 1) := by decide +kernel
theorem m_D_type : fk_MI y_D_type b_D_type 5 none 2 := ⟨i_469, i_467, i_468, i_1, by decide +kernel⟩
set_option maxHeartbeats 4000000 in
set_option maxRecDepth 100000 in
theorem c_D_type (l : Launch) (g : fk_G) (ov : Int64) (M : fk_M) (x : Nat) (hX : fk_X x) (hd : M 0 4 = nI x) (u0 k : Nat) (hn : M x 4 = nI u0) (h1 : 1 ≤ k) (h8 : k ≤ 8) (h40 : u0 + k ≤ 40) (w : Int64) : fk_CV l y_D_type b_D_type 5 (fk_rm 1) g ov M (fk_dty x w k u0 M) [.ref (fk_a g 0), .long w, .int (nI k)] := by
  refine fk_ofV rfl (Nat.le_of_ble_eq_true rfl) ?_
  intro p e s m args below meth c ls S hr hlk E G hl
  have hl : lv_has ls 5 [(0, .ref (fk_a g 0)), (1, .long w), (3, .int (nI k))] := hl
  have hx0 : x ≠ 0 := by rcases hX with h9 | ⟨z, h8, h9⟩ <;> omega
  have loop : ∀ (d : Nat) (u : Nat) (Mc : fk_M) (H : Heap) (locs : List Loc) (ls : Array Slot), u + d ≤ 40 → Mc 0 4 = nI x → Mc x 4 = nI u → fk_dty x w d u Mc = fk_dty x w k u0 M → fk_H g ov (Mc) s H locs → lv_has ls 5 [(4, .int (nI d - 1)), (0, .ref (fk_a g 0)), (1, .long w), (3, .int (nI k))] → W p l e (fk_rm (1)) s m args below meth c H locs 0 0 (MQ below (va_Qv (fun (_ : Unit) => True) (fun _ t9 => fk_Wd g ov (fk_dty x w k u0 M) t9) (fk_A g)) args s 0 0 (fk_A g)) (F0 m 50 ls []) := by
    intro d
    induction d with
    | zero =>
      intro u Mc H locs ls hv0 hv1 hv2 hv3 G hl
      refine lv_iload S.1 S.2.1 d_D_type_50 (lv_at hl 0 rfl) ?_
      refine lv_if_lt (tgt := 80) S.1 S.2.1 d_D_type_52 rfl (fun hc1 => ?_) (fun hc1 => ?_)
      · exact fk_vret S hr hlk E G hv3 d_D_type_80
      · exact absurd (by decide +kernel) hc1
    | succ d ih =>
      intro u Mc H locs ls hv0 hv1 hv2 hv3 G hl
      rw [nI_pred] at hl
      refine lv_iload S.1 S.2.1 d_D_type_50 (lv_at hl 0 rfl) ?_
      refine lv_if_lt (tgt := 80) S.1 S.2.1 d_D_type_52 rfl (fun hc2 => ?_) (fun hc2 => ?_)
      · exact absurd hc2 (nI_pos (by omega))
      · refine lv_aload_n S.1 S.2.1 d_D_type_55 rfl (lv_at hl 1 rfl) ?_
        refine fk_gf S E G 0 (by decide) (v := .ref (fk_a g x)) (fk_desk hv1 (fk_Xb hX)) rfl 4 (by decide) rfl i_205 rfl d_D_type_56 ?_
        refine lv_lload_n S.1 S.2.1 d_D_type_59 rfl (lv_at hl 2 rfl) ?_
        refine lv_bipush (v := nI 8) S.1 S.2.1 d_D_type_60 (by decide +kernel) ?_
        refine lv_iload S.1 S.2.1 d_D_type_62 (lv_at hl 0 rfl) ?_
        refine fk_imul S.1 S.2.1 d_D_type_64 ?_
        refine lv_lushr (v := (w.toUInt64 >>> ((nI (8 * d)).toInt64.toUInt64 &&& Int64.toUInt64 63)).toInt64) S.1 S.2.1 d_D_type_65 rfl ?_
        refine lv_l2i (v := ((w.toUInt64 >>> ((nI (8 * d)).toInt64.toUInt64 &&& Int64.toUInt64 63)).toInt64).toInt32) S.1 S.2.1 d_D_type_66 rfl ?_
        refine lv_sipush (v := nI 255) S.1 S.2.1 d_D_type_67 (by decide +kernel) ?_
        refine lv_iand S.1 S.2.1 d_D_type_70 ?_
        refine fk_cnv S E G x (by have := fk_Xlt hX; omega) (congrArg (fk_ce g ov x (Mc x)) (fk_kx0 hX)) rfl (rest := []) (c_E_append l g ov Mc x hX u hv2 (by omega) (fk_yc w d)) m_E_append (List.mem_of_getElem? (i := 27) rfl) ⟨rfl, rfl⟩ ⟨by decide, by decide⟩ rfl rfl hl.1 (Nat.le_of_ble_eq_true rfl) d_D_type_71 ⟨Nat.zero_le _, Nat.zero_le _⟩ (fun H locs G => ?_)
        change fk_H g ov (fk_dap x u (fk_yc w d) Mc) s H locs at G
        obtain ⟨Mn, hMn⟩ : ∃ z : fk_M, z = fk_dap x u (fk_yc w d) Mc := ⟨_, rfl⟩
        rw [← hMn] at G
        refine lv_iinc (k := 0) (v := nI d - 1) (lv' := [(4, .int (nI d - 1)), (0, .ref (fk_a g 0)), (1, .long w), (3, .int (nI k))]) S.1 S.2.1 d_D_type_74 hl rfl (fk_dec _) (by decide) rfl (fun ls hl => ?_)
        refine lv_goto (tgt := 50) S.1 S.2.1 d_D_type_77 rfl ?_
        exact ih (u + 1) Mn H locs ls (by omega) (by rw [hMn]; unfold fk_dap; rw [va_up_ne _ _ (by omega), va_up_ne _ _ (by omega)]; exact hv1) (by rw [hMn]; unfold fk_dap; rw [va_up_self, pk_us]) (by rw [← hv3, hMn]; rfl) G (lv_sub hl [0, 1, 2, 3] rfl)
  refine lv_iload_n S.1 S.2.1 d_D_type_0 rfl (lv_at hl 2 rfl) ?_
  refine lv_iconst (v := nI 1) S.1 S.2.1 d_D_type_1 (by decide +kernel) ?_
  refine fk_clt (tgt := 11) S.1 S.2.1 (by omega) (by omega) d_D_type_2 rfl (fun hc3 => ?_) (fun hc3 => ?_)
  · exact absurd hc3 (by omega)
  · refine lv_iload_n S.1 S.2.1 d_D_type_5 rfl (lv_at hl 2 rfl) ?_
    refine lv_bipush (v := nI 8) S.1 S.2.1 d_D_type_6 (by decide +kernel) ?_
    refine fk_cle (tgt := 21) S.1 S.2.1 (by omega) (by omega) d_D_type_8 rfl (fun hc4 => ?_) (fun hc4 => ?_)
    · refine lv_aload_n S.1 S.2.1 d_D_type_21 rfl (lv_at hl 0 rfl) ?_
      refine fk_gf S E G 0 (by decide) (v := .ref (fk_a g x)) (fk_desk hd (fk_Xb hX)) rfl 4 (by decide) rfl i_205 rfl d_D_type_22 ?_
      refine fk_gn S E G x (by have := fk_Xlt hX; omega) (v := .int (M x 4)) (congrArg (fk_ce g ov x (M x)) (fk_kx0 hX)) rfl 4 (by decide) rfl (List.mem_of_getElem? (i := 9) rfl) rfl d_D_type_25 ?_
      rw [hn]
      refine lv_iload_n S.1 S.2.1 d_D_type_28 rfl (lv_at hl 2 rfl) ?_
      refine fk_iadd S.1 S.2.1 d_D_type_29 ?_
      refine lv_bipush (v := nI 40) S.1 S.2.1 d_D_type_30 (by decide +kernel) ?_
      refine fk_cle (tgt := 45) S.1 S.2.1 (by omega) (by omega) d_D_type_32 rfl (fun hc5 => ?_) (fun hc5 => ?_)
      · refine lv_iload_n S.1 S.2.1 d_D_type_45 rfl (lv_at hl 2 rfl) ?_
        refine lv_iconst (v := nI 1) S.1 S.2.1 d_D_type_46 (by decide +kernel) ?_
        refine lv_isub S.1 S.2.1 d_D_type_47 ?_
        refine lv_istore (lv' := [(4, .int ((nI k) - (nI 1))), (0, .ref (fk_a g 0)), (1, .long w), (3, .int (nI k))]) S.1 S.2.1 d_D_type_48 hl (by decide) rfl (fun ls hl => ?_)
        exact loop k u0 M s.heap [] ls h40 hd hn rfl G (lv_sub hl [0, 1, 2, 3] rfl)
      · exact absurd hc5 (by omega)
    · exact absurd hc4 (by omega)
