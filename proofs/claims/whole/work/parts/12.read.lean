/-! Expression.readOne (a recursion over the levels that are left) and isWellFormed. Written by wip/gen/s_read.py. -/
/-- what readOne hands back -/
def fk_rv : Option Nat → Int32
  | none => -1
  | some e => nI e
theorem fk_nm1 {e : Nat} (h : e < 2 ^ 31) : ¬ nI e = -1 := by
  intro q
  have h1 := congrArg Int32.toInt q
  rw [nI_toInt h] at h1
  have h2 : ((-1 : Int32)).toInt = -1 := by decide +kernel
  omega
theorem fk_hd2 {k : Nat} (h : k = 3 ∨ 15 < k) : fk_hd k = 2 := by
  unfold fk_hd
  rw [if_pos (by omega)]
def fk_wx (P : Option Nat) (w : Nat → Int32) (i : Nat) : Nat → Int32 := match P with
  | none => w
  | some e => upd w i (nI e)
theorem fk_pe_no {b : Nat → Nat} {n cnt r x : Nat} (h : ¬ fk_ok b n cnt x) : fk_pe b n cnt (r + 1) x = none := if_neg h
theorem fk_we_no {b : Nat → Nat} {n cnt r x : Nat} {E : Nat → Int32} (h : ¬ fk_ok b n cnt x) : fk_we b n cnt (r + 1) x E = E := if_neg h
theorem d_E_readOne_0 : decode b_E_readOne 0 = .ok (.iload_n 1, 1) := by decide +kernel
theorem d_E_readOne_1 : decode b_E_readOne 1 = .ok (.aload_n 0, 1) := by decide +kernel
theorem d_E_readOne_2 : decode b_E_readOne 2 = .ok (.getfield 24, 3) := by decide +kernel
theorem d_E_readOne_5 : decode b_E_readOne 5 = .ok (.if_icmp .ge 20, 3) := by decide +kernel
theorem d_E_readOne_8 : decode b_E_readOne 8 = .ok (.iload_n 2, 1) := by decide +kernel
theorem d_E_readOne_9 : decode b_E_readOne 9 = .ok (.bipush 10, 2) := by decide +kernel
theorem d_E_readOne_11 : decode b_E_readOne 11 = .ok (.if_icmp .gt 14, 3) := by decide +kernel
theorem d_E_readOne_14 : decode b_E_readOne 14 = .ok (.aload_n 0, 1) := by decide +kernel
theorem d_E_readOne_15 : decode b_E_readOne 15 = .ok (.getfield 9, 3) := by decide +kernel
theorem d_E_readOne_18 : decode b_E_readOne 18 = .ok (.iload_n 1, 1) := by decide +kernel
theorem d_E_readOne_19 : decode b_E_readOne 19 = .ok (.iaload, 1) := by decide +kernel
theorem d_E_readOne_20 : decode b_E_readOne 20 = .ok (.bipush 18, 2) := by decide +kernel
theorem d_E_readOne_22 : decode b_E_readOne 22 = .ok (.if_icmp .le 5, 3) := by decide +kernel
theorem d_E_readOne_25 : decode b_E_readOne 25 = .ok (.iconst (-1), 1) := by decide +kernel
theorem d_E_readOne_26 : decode b_E_readOne 26 = .ok (.ireturn, 1) := by decide +kernel
theorem d_E_readOne_27 : decode b_E_readOne 27 = .ok (.aload_n 0, 1) := by decide +kernel
theorem d_E_readOne_28 : decode b_E_readOne 28 = .ok (.getfield 9, 3) := by decide +kernel
theorem d_E_readOne_31 : decode b_E_readOne 31 = .ok (.iload_n 1, 1) := by decide +kernel
theorem d_E_readOne_32 : decode b_E_readOne 32 = .ok (.iaload, 1) := by decide +kernel
theorem d_E_readOne_33 : decode b_E_readOne 33 = .ok (.istore 4, 2) := by decide +kernel
theorem d_E_readOne_35 : decode b_E_readOne 35 = .ok (.iload_n 1, 1) := by decide +kernel
theorem d_E_readOne_36 : decode b_E_readOne 36 = .ok (.getstatic 38, 3) := by decide +kernel
theorem d_E_readOne_39 : decode b_E_readOne 39 = .ok (.iload 4, 2) := by decide +kernel
theorem d_E_readOne_41 : decode b_E_readOne 41 = .ok (.iaload, 1) := by decide +kernel
theorem d_E_readOne_42 : decode b_E_readOne 42 = .ok (.iadd, 1) := by decide +kernel
theorem d_E_readOne_43 : decode b_E_readOne 43 = .ok (.istore 5, 2) := by decide +kernel
theorem d_E_readOne_45 : decode b_E_readOne 45 = .ok (.iload 5, 2) := by decide +kernel
theorem d_E_readOne_47 : decode b_E_readOne 47 = .ok (.aload_n 0, 1) := by decide +kernel
theorem d_E_readOne_48 : decode b_E_readOne 48 = .ok (.getfield 24, 3) := by decide +kernel
theorem d_E_readOne_51 : decode b_E_readOne 51 = .ok (.if_icmp .gt 23, 3) := by decide +kernel
theorem d_E_readOne_54 : decode b_E_readOne 54 = .ok (.iload 4, 2) := by decide +kernel
theorem d_E_readOne_56 : decode b_E_readOne 56 = .ok (.invokestatic 41, 3) := by decide +kernel
theorem d_E_readOne_59 : decode b_E_readOne 59 = .ok (.ifCond .eq 17, 3) := by decide +kernel
theorem d_E_readOne_62 : decode b_E_readOne 62 = .ok (.aload_n 0, 1) := by decide +kernel
theorem d_E_readOne_63 : decode b_E_readOne 63 = .ok (.getfield 9, 3) := by decide +kernel
theorem d_E_readOne_66 : decode b_E_readOne 66 = .ok (.iload_n 1, 1) := by decide +kernel
theorem d_E_readOne_67 : decode b_E_readOne 67 = .ok (.iconst 1, 1) := by decide +kernel
theorem d_E_readOne_68 : decode b_E_readOne 68 = .ok (.iadd, 1) := by decide +kernel
theorem d_E_readOne_69 : decode b_E_readOne 69 = .ok (.iaload, 1) := by decide +kernel
theorem d_E_readOne_70 : decode b_E_readOne 70 = .ok (.iload_n 3, 1) := by decide +kernel
theorem d_E_readOne_71 : decode b_E_readOne 71 = .ok (.if_icmp .lt 5, 3) := by decide +kernel
theorem d_E_readOne_74 : decode b_E_readOne 74 = .ok (.iconst (-1), 1) := by decide +kernel
theorem d_E_readOne_75 : decode b_E_readOne 75 = .ok (.ireturn, 1) := by decide +kernel
theorem d_E_readOne_76 : decode b_E_readOne 76 = .ok (.iconst 0, 1) := by decide +kernel
theorem d_E_readOne_77 : decode b_E_readOne 77 = .ok (.istore 6, 2) := by decide +kernel
theorem d_E_readOne_79 : decode b_E_readOne 79 = .ok (.iload 6, 2) := by decide +kernel
theorem d_E_readOne_81 : decode b_E_readOne 81 = .ok (.getstatic 45, 3) := by decide +kernel
theorem d_E_readOne_84 : decode b_E_readOne 84 = .ok (.iload 4, 2) := by decide +kernel
theorem d_E_readOne_86 : decode b_E_readOne 86 = .ok (.iaload, 1) := by decide +kernel
theorem d_E_readOne_87 : decode b_E_readOne 87 = .ok (.if_icmp .ge 29, 3) := by decide +kernel
theorem d_E_readOne_90 : decode b_E_readOne 90 = .ok (.aload_n 0, 1) := by decide +kernel
theorem d_E_readOne_91 : decode b_E_readOne 91 = .ok (.iload 5, 2) := by decide +kernel
theorem d_E_readOne_93 : decode b_E_readOne 93 = .ok (.iload_n 2, 1) := by decide +kernel
theorem d_E_readOne_94 : decode b_E_readOne 94 = .ok (.iconst 1, 1) := by decide +kernel
theorem d_E_readOne_95 : decode b_E_readOne 95 = .ok (.iadd, 1) := by decide +kernel
theorem d_E_readOne_96 : decode b_E_readOne 96 = .ok (.iload_n 3, 1) := by decide +kernel
theorem d_E_readOne_97 : decode b_E_readOne 97 = .ok (.invokevirtual 34, 3) := by decide +kernel
theorem d_E_readOne_100 : decode b_E_readOne 100 = .ok (.istore 5, 2) := by decide +kernel
theorem d_E_readOne_102 : decode b_E_readOne 102 = .ok (.iload 5, 2) := by decide +kernel
theorem d_E_readOne_104 : decode b_E_readOne 104 = .ok (.iconst (-1), 1) := by decide +kernel
theorem d_E_readOne_105 : decode b_E_readOne 105 = .ok (.if_icmp .ne 5, 3) := by decide +kernel
theorem d_E_readOne_108 : decode b_E_readOne 108 = .ok (.iconst (-1), 1) := by decide +kernel
theorem d_E_readOne_109 : decode b_E_readOne 109 = .ok (.ireturn, 1) := by decide +kernel
theorem d_E_readOne_110 : decode b_E_readOne 110 = .ok (.iinc 6 1, 3) := by decide +kernel
theorem d_E_readOne_113 : decode b_E_readOne 113 = .ok (.goto (-34), 3) := by decide +kernel
theorem d_E_readOne_116 : decode b_E_readOne 116 = .ok (.aload_n 0, 1) := by decide +kernel
theorem d_E_readOne_117 : decode b_E_readOne 117 = .ok (.getfield 15, 3) := by decide +kernel
theorem d_E_readOne_120 : decode b_E_readOne 120 = .ok (.iload_n 1, 1) := by decide +kernel
theorem d_E_readOne_121 : decode b_E_readOne 121 = .ok (.iload 5, 2) := by decide +kernel
theorem d_E_readOne_123 : decode b_E_readOne 123 = .ok (.iastore, 1) := by decide +kernel
theorem d_E_readOne_124 : decode b_E_readOne 124 = .ok (.iload 5, 2) := by decide +kernel
theorem d_E_readOne_126 : decode b_E_readOne 126 = .ok (.ireturn, 1) := by decide +kernel
theorem m_E_readOne : fk_MI y_E_readOne b_E_readOne 7 (some .int) 3 := ⟨i_492, i_491, fk_mp (q := (y_E_readOne, 5)) (by decide +kernel), i_4, by decide +kernel⟩
set_option maxHeartbeats 4000000 in
set_option maxRecDepth 100000 in
theorem c_E_readOne (l : Launch) (g : fk_G) (ov : Int64) (x : Nat) (hX : fk_X x) (bf : Nat → Nat) (n cnt : Nat) (hn40 : n ≤ 40) (hcnt : cnt < 2 ^ 31) (hb2 : ∀ j, j < n → bf j < 256) : ∀ (r : Nat) (M : fk_M) (i d : Nat), d + r = 11 → i ≤ 40 → M x 4 = nI n → (∀ j, j < n → M (x + 1) j = nI (bf j)) → fk_CI l y_E_readOne b_E_readOne 7 (some .int) (fk_rm (r + 2)) g ov M (va_up M (x + 2) (fk_we bf n cnt r i (M (x + 2)))) [.ref (fk_a g x), .int (nI i), .int (nI d), .int (nI cnt)] (fk_rv (fk_pe bf n cnt r i)) := by
  intro r
  induction r with
  | zero =>
    intro M i d hd hi hn hb
    refine fk_ofI rfl (Nat.le_of_ble_eq_true rfl) ?_
    intro p e s m args below meth c ls S hr hlk E G hl
    have hl : lv_has ls 7 [(0, .ref (fk_a g x)), (1, .int (nI i)), (2, .int (nI d)), (3, .int (nI cnt))] := hl
    refine lv_iload_n S.1 S.2.1 d_E_readOne_0 rfl (lv_at hl 1 rfl) ?_
    refine lv_aload_n S.1 S.2.1 d_E_readOne_1 rfl (lv_at hl 0 rfl) ?_
    refine fk_gf S E G x (by have := fk_Xlt hX; omega) (v := .int (M x 4)) (congrArg (fk_ce g ov x (M x)) (fk_kx0 hX)) rfl 4 (by decide) rfl i_56 rfl d_E_readOne_2 ?_
    rw [hn]
    refine fk_cge (tgt := 25) S.1 S.2.1 (by omega) (by omega) d_E_readOne_5 rfl (fun hc1 => ?_) (fun hc1 => ?_)
    · refine lv_iconst (v := -1) S.1 S.2.1 d_E_readOne_25 (by decide +kernel) ?_
      exact fk_iret S hr hlk E G (fk_upid M (x + 2)).symm rfl d_E_readOne_26
    · refine lv_iload_n S.1 S.2.1 d_E_readOne_8 rfl (lv_at hl 2 rfl) ?_
      refine lv_bipush (v := nI 10) S.1 S.2.1 d_E_readOne_9 (by decide +kernel) ?_
      refine fk_cgt (tgt := 25) S.1 S.2.1 (by omega) (by omega) d_E_readOne_11 rfl (fun hc2 => ?_) (fun hc2 => ?_)
      · refine lv_iconst (v := -1) S.1 S.2.1 d_E_readOne_25 (by decide +kernel) ?_
        exact fk_iret S hr hlk E G (fk_upid M (x + 2)).symm rfl d_E_readOne_26
      · exact absurd hd (by omega)
  | succ r ih =>
    intro M i d hd hi hn hb
    refine fk_ofI rfl (Nat.le_of_ble_eq_true rfl) ?_
    intro p e s m args below meth c ls S hr hlk E G hl
    have hl : lv_has ls 7 [(0, .ref (fk_a g x)), (1, .int (nI i)), (2, .int (nI d)), (3, .int (nI cnt))] := hl
    have main : ∀ (H : Heap) (locs : List Loc) (ls : Array Slot), fk_ok bf n cnt i → fk_H g ov M s H locs → lv_has ls 7 [(5, .int (nI (i + fk_hd (bf i)))), (4, .int (nI (bf i))), (0, .ref (fk_a g x)), (1, .int (nI i)), (2, .int (nI d)), (3, .int (nI cnt))] → W p l e (fk_rm (r + 1 + 2)) s m args below meth c H locs 0 0 (MQ below (va_Qi (fun rr (_ : Unit) => rr = fk_rv (fk_pe bf n cnt (r + 1) i)) (fun _ t => fk_Wd g ov (va_up M (x + 2) (fk_we bf n cnt (r + 1) i (M (x + 2)))) t) (fk_A g)) args s 0 0 (fk_A g)) (F0 m 76 ls []) := by
      intro H locs ls hk G hl
      obtain ⟨PF, hPF⟩ : ∃ z, z = fk_ps (fk_pe bf n cnt r) (fk_ar (bf i)) (i + fk_hd (bf i)) := ⟨_, rfl⟩
      obtain ⟨WF, hWF⟩ : ∃ z, z = fk_wps (fk_pe bf n cnt r) (fk_we bf n cnt r) (fk_ar (bf i)) (i + fk_hd (bf i)) (M (x + 2)) := ⟨_, rfl⟩
      have hpe : fk_pe bf n cnt (r + 1) i = PF := by rw [hPF]; exact if_pos hk
      have hwe : fk_we bf n cnt (r + 1) i (M (x + 2)) = fk_wx PF WF i := by
        rw [hWF, ← hpe]
        refine (if_pos hk).trans ?_
        cases fk_pe bf n cnt (r + 1) i <;> rfl
      have loop : ∀ (k q nx : Nat) (E0 : Nat → Int32) (H : Heap) (locs : List Loc) (ls : Array Slot), q + k = fk_ar (bf i) → nx ≤ n → fk_ps (fk_pe bf n cnt r) k nx = PF → fk_wps (fk_pe bf n cnt r) (fk_we bf n cnt r) k nx E0 = WF → fk_H g ov (va_up M (x + 2) E0) s H locs → lv_has ls 7 [(6, .int (nI q)), (5, .int (nI nx)), (4, .int (nI (bf i))), (0, .ref (fk_a g x)), (1, .int (nI i)), (2, .int (nI d)), (3, .int (nI cnt))] → W p l e (fk_rm (r + 1 + 2)) s m args below meth c H locs 0 0 (MQ below (va_Qi (fun rr (_ : Unit) => rr = fk_rv (fk_pe bf n cnt (r + 1) i)) (fun _ t => fk_Wd g ov (va_up M (x + 2) (fk_we bf n cnt (r + 1) i (M (x + 2)))) t) (fk_A g)) args s 0 0 (fk_A g)) (F0 m 79 ls []) := by
        intro k
        induction k with
        | zero =>
          intro q nx E0 H locs ls hq hnx hps hws G hl
          have har := fk_ar_le (bf i)
          obtain ⟨M1, hM1⟩ : ∃ z : fk_M, z = va_up M (x + 2) E0 := ⟨_, rfl⟩
          rw [← hM1] at G
          refine lv_iload S.1 S.2.1 d_E_readOne_79 (lv_at hl 0 rfl) ?_
          refine fk_gsn S E G 1 (by decide) (List.mem_of_getElem? (i := 53) rfl) d_E_readOne_81 ?_
          refine lv_iload S.1 S.2.1 d_E_readOne_84 (lv_at hl 2 rfl) ?_
          refine fk_ti S E G 1 (by decide) (bf i) rfl (by have := hk.2.1; omega) (v := nI (fk_ar (bf i))) (fk_tv1 _ (by have := hk.2.1; omega)) d_E_readOne_86 ?_
          refine fk_cge (tgt := 116) S.1 S.2.1 (by omega) (by omega) d_E_readOne_87 rfl (fun hc3 => ?_) (fun hc3 => ?_)
          · refine lv_aload_n S.1 S.2.1 d_E_readOne_116 rfl (lv_at hl 3 rfl) ?_
            refine fk_gf S E G x (by have := fk_Xlt hX; omega) (v := .ref (fk_a g (x + 2))) (congrArg (fk_ce g ov x (M1 x)) (fk_kx0 hX)) rfl 1 (by decide) rfl i_47 rfl d_E_readOne_117 ?_
            refine lv_iload_n S.1 S.2.1 d_E_readOne_120 rfl (lv_at hl 4 rfl) ?_
            refine lv_iload S.1 S.2.1 d_E_readOne_121 (lv_at hl 1 rfl) ?_
            refine fk_is S E G (x + 2) (by have := fk_Xlt hX; omega) (fun r => congrArg (fk_ce g ov (x + 2) r) (fk_kx2 hX)) i rfl (by have := hk.1; omega) (by decide) d_E_readOne_123 (fun H locs G => ?_)
            obtain ⟨M4, hM4⟩ : ∃ z : fk_M, z = va_up M1 (x + 2) (upd (M1 (x + 2)) i (nI nx)) := ⟨_, rfl⟩
            rw [← hM4] at G
            refine lv_iload S.1 S.2.1 d_E_readOne_124 (lv_at hl 1 rfl) ?_
            simp only [fk_ps] at hps
            simp only [fk_wps] at hws
            exact fk_iret S hr hlk E G (by rw [hM4, hM1, bx_uu, va_up_self, hwe, ← hps, hws]; rfl) (by rw [hpe, ← hps]; rfl) d_E_readOne_126
          · exact absurd hq (by omega)
        | succ k ihk =>
          intro q nx E0 H locs ls hq hnx hps hws G hl
          have har := fk_ar_le (bf i)
          obtain ⟨M1, hM1⟩ : ∃ z : fk_M, z = va_up M (x + 2) E0 := ⟨_, rfl⟩
          rw [← hM1] at G
          refine lv_iload S.1 S.2.1 d_E_readOne_79 (lv_at hl 0 rfl) ?_
          refine fk_gsn S E G 1 (by decide) (List.mem_of_getElem? (i := 53) rfl) d_E_readOne_81 ?_
          refine lv_iload S.1 S.2.1 d_E_readOne_84 (lv_at hl 2 rfl) ?_
          refine fk_ti S E G 1 (by decide) (bf i) rfl (by have := hk.2.1; omega) (v := nI (fk_ar (bf i))) (fk_tv1 _ (by have := hk.2.1; omega)) d_E_readOne_86 ?_
          refine fk_cge (tgt := 116) S.1 S.2.1 (by omega) (by omega) d_E_readOne_87 rfl (fun hc5 => ?_) (fun hc5 => ?_)
          · exact absurd hq (by omega)
          · refine lv_aload_n S.1 S.2.1 d_E_readOne_90 rfl (lv_at hl 3 rfl) ?_
            refine lv_iload S.1 S.2.1 d_E_readOne_91 (lv_at hl 1 rfl) ?_
            refine lv_iload_n S.1 S.2.1 d_E_readOne_93 rfl (lv_at hl 5 rfl) ?_
            refine lv_iconst (v := nI 1) S.1 S.2.1 d_E_readOne_94 (by decide +kernel) ?_
            refine fk_iadd S.1 S.2.1 d_E_readOne_95 ?_
            refine lv_iload_n S.1 S.2.1 d_E_readOne_96 rfl (lv_at hl 6 rfl) ?_
            have e1 : M1 x = M x := by rw [hM1, va_up_ne _ _ (by omega)]
            have e2 : M1 (x + 1) = M (x + 1) := by rw [hM1, va_up_ne _ _ (by omega)]
            have e3 : M1 (x + 2) = E0 := by rw [hM1, va_up_self]
            have hc := ih M1 nx (d + 1) (by omega) (by omega) (by rw [e1]; exact hn) (fun j hj => by rw [e2]; exact hb j hj)
            rw [e3, show va_up M1 (x + 2) (fk_we bf n cnt r nx E0) = va_up M (x + 2) (fk_we bf n cnt r nx E0) by rw [hM1, bx_uu]] at hc
            cases hp : fk_pe bf n cnt r nx with
            | none =>
              rw [hp] at hc
              refine fk_cvi S E G x (by have := fk_Xlt hX; omega) (congrArg (fk_ce g ov x (M1 x)) (fk_kx0 hX)) rfl (rest := []) hc m_E_readOne i_489 ⟨rfl, rfl⟩ ⟨by show r + 2 + 1 ≤ r + 1 + 2; omega, by show 8 + (7 + 11) + 64 * (r + 2) ≤ 64 * (r + 1 + 2); omega⟩ rfl rfl hl.1 (Nat.le_of_ble_eq_true rfl) d_E_readOne_97 ⟨Nat.zero_le _, Nat.zero_le _⟩ (fun H locs G => ?_)
              refine lv_istore (lv' := [(5, .int (-1)), (6, .int (nI q)), (4, .int (nI (bf i))), (0, .ref (fk_a g x)), (1, .int (nI i)), (2, .int (nI d)), (3, .int (nI cnt))]) S.1 S.2.1 d_E_readOne_100 hl (by decide) rfl (fun ls hl => ?_)
              refine lv_iload S.1 S.2.1 d_E_readOne_102 (lv_at hl 0 rfl) ?_
              refine lv_iconst (v := -1) S.1 S.2.1 d_E_readOne_104 (by decide +kernel) ?_
              refine lv_icmp_ne (tgt := 110) S.1 S.2.1 d_E_readOne_105 rfl (fun hc6 => ?_) (fun hc6 => ?_)
              · exact absurd rfl hc6
              · refine lv_iconst (v := -1) S.1 S.2.1 d_E_readOne_108 (by decide +kernel) ?_
                simp only [fk_ps, hp] at hps
                simp only [fk_wps, hp] at hws
                exact fk_iret S hr hlk E G (by rw [hwe, ← hps, ← hws]; rfl) (by rw [hpe, ← hps]; rfl) d_E_readOne_109
            | some y =>
              rw [hp] at hc
              have hy := fk_pe_lt _ _ _ hp
              refine fk_cvi S E G x (by have := fk_Xlt hX; omega) (congrArg (fk_ce g ov x (M1 x)) (fk_kx0 hX)) rfl (rest := []) hc m_E_readOne i_489 ⟨rfl, rfl⟩ ⟨by show r + 2 + 1 ≤ r + 1 + 2; omega, by show 8 + (7 + 11) + 64 * (r + 2) ≤ 64 * (r + 1 + 2); omega⟩ rfl rfl hl.1 (Nat.le_of_ble_eq_true rfl) d_E_readOne_97 ⟨Nat.zero_le _, Nat.zero_le _⟩ (fun H locs G => ?_)
              refine lv_istore (lv' := [(5, .int (nI y)), (6, .int (nI q)), (4, .int (nI (bf i))), (0, .ref (fk_a g x)), (1, .int (nI i)), (2, .int (nI d)), (3, .int (nI cnt))]) S.1 S.2.1 d_E_readOne_100 hl (by decide) rfl (fun ls hl => ?_)
              refine lv_iload S.1 S.2.1 d_E_readOne_102 (lv_at hl 0 rfl) ?_
              refine lv_iconst (v := -1) S.1 S.2.1 d_E_readOne_104 (by decide +kernel) ?_
              refine lv_icmp_ne (tgt := 110) S.1 S.2.1 d_E_readOne_105 rfl (fun hc7 => ?_) (fun hc7 => ?_)
              · refine lv_iinc (k := 1) (v := nI (q + 1)) (lv' := [(6, .int (nI (q + 1))), (5, .int (nI y)), (4, .int (nI (bf i))), (0, .ref (fk_a g x)), (1, .int (nI i)), (2, .int (nI d)), (3, .int (nI cnt))]) S.1 S.2.1 d_E_readOne_110 hl rfl (nI_1 q) (by decide) rfl (fun ls hl => ?_)
                refine lv_goto (tgt := 79) S.1 S.2.1 d_E_readOne_113 rfl ?_
                simp only [fk_ps, hp] at hps
                simp only [fk_wps, hp] at hws
                exact ihk (q + 1) y _ H locs ls (by omega) hy.2 hps hws G hl
              · exact absurd hc7 (fk_nm1 (by omega))
      refine lv_iconst (v := nI 0) S.1 S.2.1 d_E_readOne_76 (by decide +kernel) ?_
      refine lv_istore (lv' := [(6, .int (nI 0)), (5, .int (nI (i + fk_hd (bf i)))), (4, .int (nI (bf i))), (0, .ref (fk_a g x)), (1, .int (nI i)), (2, .int (nI d)), (3, .int (nI cnt))]) S.1 S.2.1 d_E_readOne_77 hl (by decide) rfl (fun ls hl => ?_)
      refine loop (fk_ar (bf i)) 0 (i + fk_hd (bf i)) (M (x + 2)) H locs ls (by omega) hk.2.2.1 hPF.symm hWF.symm ?_ hl
      rw [fk_upid]
      exact G
    refine lv_iload_n S.1 S.2.1 d_E_readOne_0 rfl (lv_at hl 1 rfl) ?_
    refine lv_aload_n S.1 S.2.1 d_E_readOne_1 rfl (lv_at hl 0 rfl) ?_
    refine fk_gf S E G x (by have := fk_Xlt hX; omega) (v := .int (M x 4)) (congrArg (fk_ce g ov x (M x)) (fk_kx0 hX)) rfl 4 (by decide) rfl i_56 rfl d_E_readOne_2 ?_
    rw [hn]
    refine fk_cge (tgt := 25) S.1 S.2.1 (by omega) (by omega) d_E_readOne_5 rfl (fun hc8 => ?_) (fun hc8 => ?_)
    · have hno : ¬ fk_ok bf n cnt i := fun q => by have := q.1; omega
      refine lv_iconst (v := -1) S.1 S.2.1 d_E_readOne_25 (by decide +kernel) ?_
      exact fk_iret S hr hlk E G (by rw [fk_we_no hno, fk_upid]) (by rw [fk_pe_no hno]; rfl) d_E_readOne_26
    · refine lv_iload_n S.1 S.2.1 d_E_readOne_8 rfl (lv_at hl 2 rfl) ?_
      refine lv_bipush (v := nI 10) S.1 S.2.1 d_E_readOne_9 (by decide +kernel) ?_
      refine fk_cgt (tgt := 25) S.1 S.2.1 (by omega) (by omega) d_E_readOne_11 rfl (fun hc9 => ?_) (fun hc9 => ?_)
      · exact absurd hd (by omega)
      · refine lv_aload_n S.1 S.2.1 d_E_readOne_14 rfl (lv_at hl 0 rfl) ?_
        refine fk_gf S E G x (by have := fk_Xlt hX; omega) (v := .ref (fk_a g (x + 1))) (congrArg (fk_ce g ov x (M x)) (fk_kx0 hX)) rfl 0 (by decide) rfl i_43 rfl d_E_readOne_15 ?_
        refine lv_iload_n S.1 S.2.1 d_E_readOne_18 rfl (lv_at hl 1 rfl) ?_
        have hbi := hb2 i (by omega)
        refine fk_ia S E G (x + 1) (by have := fk_Xlt hX; omega) (congrArg (fk_ce g ov (x + 1) (M (x + 1))) (fk_kx1 hX)) i rfl (by omega) (by decide) (v := nI (bf i)) (hb i (by omega)) d_E_readOne_19 ?_
        refine lv_bipush (v := nI 18) S.1 S.2.1 d_E_readOne_20 (by decide +kernel) ?_
        refine fk_cle (tgt := 27) S.1 S.2.1 (by omega) (by omega) d_E_readOne_22 rfl (fun hc10 => ?_) (fun hc10 => ?_)
        · refine lv_aload_n S.1 S.2.1 d_E_readOne_27 rfl (lv_at hl 0 rfl) ?_
          refine fk_gf S E G x (by have := fk_Xlt hX; omega) (v := .ref (fk_a g (x + 1))) (congrArg (fk_ce g ov x (M x)) (fk_kx0 hX)) rfl 0 (by decide) rfl i_43 rfl d_E_readOne_28 ?_
          refine lv_iload_n S.1 S.2.1 d_E_readOne_31 rfl (lv_at hl 1 rfl) ?_
          refine fk_ia S E G (x + 1) (by have := fk_Xlt hX; omega) (congrArg (fk_ce g ov (x + 1) (M (x + 1))) (fk_kx1 hX)) i rfl (by omega) (by decide) (v := nI (bf i)) (hb i (by omega)) d_E_readOne_32 ?_
          refine lv_istore (lv' := [(4, .int (nI (bf i))), (0, .ref (fk_a g x)), (1, .int (nI i)), (2, .int (nI d)), (3, .int (nI cnt))]) S.1 S.2.1 d_E_readOne_33 hl (by decide) rfl (fun ls hl => ?_)
          refine lv_iload_n S.1 S.2.1 d_E_readOne_35 rfl (lv_at hl 2 rfl) ?_
          refine fk_gsn S E G 0 (by decide) (List.mem_of_getElem? (i := 51) rfl) d_E_readOne_36 ?_
          refine lv_iload S.1 S.2.1 d_E_readOne_39 (lv_at hl 0 rfl) ?_
          refine fk_ti S E G 0 (by decide) (bf i) rfl (by omega) (v := nI (fk_hd (bf i))) (fk_tv0 _ (by omega)) d_E_readOne_41 ?_
          have hp2 := fk_hd_pos (bf i)
          refine fk_iadd S.1 S.2.1 d_E_readOne_42 ?_
          refine lv_istore (lv' := [(5, .int (nI (i + (fk_hd (bf i))))), (4, .int (nI (bf i))), (0, .ref (fk_a g x)), (1, .int (nI i)), (2, .int (nI d)), (3, .int (nI cnt))]) S.1 S.2.1 d_E_readOne_43 hl (by decide) rfl (fun ls hl => ?_)
          refine lv_iload S.1 S.2.1 d_E_readOne_45 (lv_at hl 0 rfl) ?_
          refine lv_aload_n S.1 S.2.1 d_E_readOne_47 rfl (lv_at hl 2 rfl) ?_
          refine fk_gf S E G x (by have := fk_Xlt hX; omega) (v := .int (M x 4)) (congrArg (fk_ce g ov x (M x)) (fk_kx0 hX)) rfl 4 (by decide) rfl i_56 rfl d_E_readOne_48 ?_
          rw [hn]
          refine fk_cgt (tgt := 74) S.1 S.2.1 (by omega) (by omega) d_E_readOne_51 rfl (fun hc11 => ?_) (fun hc11 => ?_)
          · have hno : ¬ fk_ok bf n cnt i := fun q => by have := q.2.2.1; omega
            refine lv_iconst (v := -1) S.1 S.2.1 d_E_readOne_74 (by decide +kernel) ?_
            exact fk_iret S hr hlk E G (by rw [fk_we_no hno, fk_upid]) (by rw [fk_pe_no hno]; rfl) d_E_readOne_75
          · refine lv_iload S.1 S.2.1 d_E_readOne_54 (lv_at hl 1 rfl) ?_
            refine fk_cti S E G (rest := []) (c_D_namesFlow l g ov M (bf i) (by omega)) m_D_namesFlow (List.mem_of_getElem? (i := 30) rfl) ⟨rfl, rfl⟩ ⟨by show 1 + 1 ≤ r + 1 + 2; omega, by show 8 + (1 + 11) + 64 * 1 ≤ 64 * (r + 1 + 2); omega⟩ rfl rfl hl.1 (Nat.le_of_ble_eq_true rfl) d_E_readOne_56 ⟨Nat.zero_le _, Nat.zero_le _⟩ (fun H locs G => ?_)
            refine fk_zeq (tgt := 76) S.1 S.2.1 (fk_bl _) d_E_readOne_59 rfl (fun hc12 => ?_) (fun hc12 => ?_)
            · have hc12 := of_decide_eq_false (fk_bf hc12)
              exact main H locs ls ⟨by omega, by omega, by omega, fun q => absurd q hc12⟩ G hl
            · have hc12 := of_decide_eq_true (fk_bt hc12)
              have h3 := fk_hd2 hc12
              have hb3 := hb2 (i + 1) (by omega)
              refine lv_aload_n S.1 S.2.1 d_E_readOne_62 rfl (lv_at hl 2 rfl) ?_
              refine fk_gf S E G x (by have := fk_Xlt hX; omega) (v := .ref (fk_a g (x + 1))) (congrArg (fk_ce g ov x (M x)) (fk_kx0 hX)) rfl 0 (by decide) rfl i_43 rfl d_E_readOne_63 ?_
              refine lv_iload_n S.1 S.2.1 d_E_readOne_66 rfl (lv_at hl 3 rfl) ?_
              refine lv_iconst (v := nI 1) S.1 S.2.1 d_E_readOne_67 (by decide +kernel) ?_
              refine fk_iadd S.1 S.2.1 d_E_readOne_68 ?_
              refine fk_ia S E G (x + 1) (by have := fk_Xlt hX; omega) (congrArg (fk_ce g ov (x + 1) (M (x + 1))) (fk_kx1 hX)) (i + 1) rfl (by omega) (by decide) (v := nI (bf (i + 1))) (hb (i + 1) (by omega)) d_E_readOne_69 ?_
              refine lv_iload_n S.1 S.2.1 d_E_readOne_70 rfl (lv_at hl 5 rfl) ?_
              refine fk_clt (tgt := 76) S.1 S.2.1 (by omega) (by omega) d_E_readOne_71 rfl (fun hc13 => ?_) (fun hc13 => ?_)
              · exact main H locs ls ⟨by omega, by omega, by omega, fun _ => hc13⟩ G hl
              · have hno : ¬ fk_ok bf n cnt i := fun q => by have := q.2.2.2 hc12; omega
                refine lv_iconst (v := -1) S.1 S.2.1 d_E_readOne_74 (by decide +kernel) ?_
                exact fk_iret S hr hlk E G (by rw [fk_we_no hno, fk_upid]) (by rw [fk_pe_no hno]; rfl) d_E_readOne_75
        · have hno : ¬ fk_ok bf n cnt i := fun q => by have := q.2.1; omega
          refine lv_iconst (v := -1) S.1 S.2.1 d_E_readOne_25 (by decide +kernel) ?_
          exact fk_iret S hr hlk E G (by rw [fk_we_no hno, fk_upid]) (by rw [fk_pe_no hno]; rfl) d_E_readOne_26
theorem d_E_isWellFormed_0 : decode b_E_isWellFormed 0 = .ok (.aload_n 0, 1) := by decide +kernel
theorem d_E_isWellFormed_1 : decode b_E_isWellFormed 1 = .ok (.getfield 15, 3) := by decide +kernel
theorem d_E_isWellFormed_4 : decode b_E_isWellFormed 4 = .ok (.iconst 0, 1) := by decide +kernel
theorem d_E_isWellFormed_5 : decode b_E_isWellFormed 5 = .ok (.invokestatic 28, 3) := by decide +kernel
theorem d_E_isWellFormed_8 : decode b_E_isWellFormed 8 = .ok (.aload_n 0, 1) := by decide +kernel
theorem d_E_isWellFormed_9 : decode b_E_isWellFormed 9 = .ok (.iconst 0, 1) := by decide +kernel
theorem d_E_isWellFormed_10 : decode b_E_isWellFormed 10 = .ok (.iconst 0, 1) := by decide +kernel
theorem d_E_isWellFormed_11 : decode b_E_isWellFormed 11 = .ok (.iload_n 1, 1) := by decide +kernel
theorem d_E_isWellFormed_12 : decode b_E_isWellFormed 12 = .ok (.invokevirtual 34, 3) := by decide +kernel
theorem d_E_isWellFormed_15 : decode b_E_isWellFormed 15 = .ok (.aload_n 0, 1) := by decide +kernel
theorem d_E_isWellFormed_16 : decode b_E_isWellFormed 16 = .ok (.getfield 24, 3) := by decide +kernel
theorem d_E_isWellFormed_19 : decode b_E_isWellFormed 19 = .ok (.if_icmp .ne 7, 3) := by decide +kernel
theorem d_E_isWellFormed_22 : decode b_E_isWellFormed 22 = .ok (.iconst 1, 1) := by decide +kernel
theorem d_E_isWellFormed_23 : decode b_E_isWellFormed 23 = .ok (.goto 4, 3) := by decide +kernel
theorem d_E_isWellFormed_26 : decode b_E_isWellFormed 26 = .ok (.iconst 0, 1) := by decide +kernel
theorem d_E_isWellFormed_27 : decode b_E_isWellFormed 27 = .ok (.ireturn, 1) := by decide +kernel
theorem m_E_isWellFormed : fk_MI y_E_isWellFormed b_E_isWellFormed 2 (some .boolean) 1 := ⟨i_487, i_486, fk_mp (q := (y_E_isWellFormed, 5)) (by decide +kernel), i_4, by decide +kernel⟩
set_option maxHeartbeats 4000000 in
set_option maxRecDepth 100000 in
theorem c_E_isWellFormed (l : Launch) (g : fk_G) (ov : Int64) (M : fk_M) (x : Nat) (hX : fk_X x) (bf : Nat → Nat) (n cnt : Nat) (hn40 : n ≤ 40) (hcnt : cnt < 2 ^ 31) (hn : M x 4 = nI n) (hb : ∀ j, j < n → M (x + 1) j = nI (bf j)) (hb2 : ∀ j, j < n → bf j < 256) : fk_CI l y_E_isWellFormed b_E_isWellFormed 2 (some .boolean) (fk_rm 14) g ov M (va_up M (x + 2) (fk_we bf n cnt 11 0 (fk_fl (M (x + 2)) 40 0))) [.ref (fk_a g x), .int (nI cnt)] (nI (decide (fk_pe bf n cnt 11 0 = some n)).toNat) := by
  refine fk_ofI rfl (Nat.le_of_ble_eq_true rfl) ?_
  intro p e s m args below meth c ls S hr hlk E G hl
  have hl : lv_has ls 2 [(0, .ref (fk_a g x)), (1, .int (nI cnt))] := hl
  refine lv_aload_n S.1 S.2.1 d_E_isWellFormed_0 rfl (lv_at hl 0 rfl) ?_
  refine fk_gf S E G x (by have := fk_Xlt hX; omega) (v := .ref (fk_a g (x + 2))) (congrArg (fk_ce g ov x (M x)) (fk_kx0 hX)) rfl 1 (by decide) rfl i_47 rfl d_E_isWellFormed_1 ?_
  refine lv_iconst (v := nI 0) S.1 S.2.1 d_E_isWellFormed_4 (by decide +kernel) ?_
  refine fk_csv S E G (rest := []) (c_A_fill l g ov M (x + 2) 40 (by have := fk_Xlt hX; omega) (by decide) (nI 0) (fun r => congrArg (fk_ce g ov (x + 2) r) (fk_kx2 hX))) m_A_fill i_488 ⟨rfl, rfl⟩ ⟨by decide, by decide⟩ rfl rfl hl.1 (Nat.le_of_ble_eq_true rfl) d_E_isWellFormed_5 ⟨Nat.zero_le _, Nat.zero_le _⟩ (fun H locs G => ?_)
  obtain ⟨M1, hM1⟩ : ∃ z : fk_M, z = va_up M (x + 2) (fk_fl (M (x + 2)) 40 (nI 0)) := ⟨_, rfl⟩
  rw [← hM1] at G
  have e1 : M1 x = M x := by rw [hM1, va_up_ne _ _ (by omega)]
  have e2 : M1 (x + 1) = M (x + 1) := by rw [hM1, va_up_ne _ _ (by omega)]
  have e3 : M1 (x + 2) = fk_fl (M (x + 2)) 40 0 := by rw [hM1, va_up_self, nI_0]
  refine lv_aload_n S.1 S.2.1 d_E_isWellFormed_8 rfl (lv_at hl 0 rfl) ?_
  refine lv_iconst (v := nI 0) S.1 S.2.1 d_E_isWellFormed_9 (by decide +kernel) ?_
  refine lv_iconst (v := nI 0) S.1 S.2.1 d_E_isWellFormed_10 (by decide +kernel) ?_
  refine lv_iload_n S.1 S.2.1 d_E_isWellFormed_11 rfl (lv_at hl 1 rfl) ?_
  have hc := c_E_readOne l g ov x hX bf n cnt hn40 hcnt hb2 11 M1 0 0 rfl (by omega) (by rw [e1]; exact hn) (fun j hj => by rw [e2]; exact hb j hj)
  obtain ⟨M2, hM2⟩ : ∃ z : fk_M, z = va_up M1 (x + 2) (fk_we bf n cnt 11 0 (M1 (x + 2))) := ⟨_, rfl⟩
  rw [← hM2] at hc
  have e4 : M2 x = M x := by rw [hM2, va_up_ne _ _ (by omega), e1]
  have hfin : M2 = va_up M (x + 2) (fk_we bf n cnt 11 0 (fk_fl (M (x + 2)) 40 0)) := by rw [hM2, e3, hM1, bx_uu]
  have hlt : ∀ y, fk_pe bf n cnt 11 0 = some y → y < 2 ^ 31 := fun y hy => by have := fk_pe_lt _ _ _ hy; omega
  refine fk_cvi S E G x (by have := fk_Xlt hX; omega) (congrArg (fk_ce g ov x (M1 x)) (fk_kx0 hX)) rfl (rest := []) hc m_E_readOne i_489 ⟨rfl, rfl⟩ ⟨by decide, by decide⟩ rfl rfl hl.1 (Nat.le_of_ble_eq_true rfl) d_E_isWellFormed_12 ⟨Nat.zero_le _, Nat.zero_le _⟩ (fun H locs G => ?_)
  refine lv_aload_n S.1 S.2.1 d_E_isWellFormed_15 rfl (lv_at hl 0 rfl) ?_
  refine fk_gf S E G x (by have := fk_Xlt hX; omega) (v := .int (M2 x 4)) (congrArg (fk_ce g ov x (M2 x)) (fk_kx0 hX)) rfl 4 (by decide) rfl i_56 rfl d_E_isWellFormed_16 ?_
  rw [e4, hn]
  refine lv_icmp_ne (tgt := 26) S.1 S.2.1 d_E_isWellFormed_19 rfl (fun hc1 => ?_) (fun hc1 => ?_)
  · refine lv_iconst (v := nI 0) S.1 S.2.1 d_E_isWellFormed_26 (by decide +kernel) ?_
    exact fk_zret S hr hlk E G hfin (fk_b0 (decide_eq_false (fun q => hc1 (by rw [q]; rfl)))) (fk_bz _) d_E_isWellFormed_27
  · refine lv_iconst (v := nI 1) S.1 S.2.1 d_E_isWellFormed_22 (by decide +kernel) ?_
    refine lv_goto (tgt := 27) S.1 S.2.1 d_E_isWellFormed_23 rfl ?_
    have heq : fk_pe bf n cnt 11 0 = some n := by
      cases hp : fk_pe bf n cnt 11 0 with
      | none => rw [hp] at hc1; exact absurd hc1.symm (fk_nm1 (by omega))
      | some y => rw [hp] at hc1; rw [(nI_eq (hlt y hp) (by omega)).mp hc1]
    exact fk_zret S hr hlk E G hfin (fk_b1 (decide_eq_true heq)) (fk_bz _) d_E_isWellFormed_27
