/-! The reference: equation. Written by wip/gen/s_mod5.py. -/
/-- k places of B copied to o on -/
def fk_cy (A : Nat → Int32) (o : Nat) (B : Nat → Int32) (k : Nat) : Nat → Int32 := fun q => if o ≤ q ∧ q < o + k then B (q - o) else A q
theorem fk_cy0 (A : Nat → Int32) (o : Nat) (B : Nat → Int32) : fk_cy A o B 0 = A := by
  funext q
  unfold fk_cy
  rw [if_neg (by omega)]
theorem fk_cyS (A : Nat → Int32) (o : Nat) (B : Nat → Int32) (k : Nat) : upd (fk_cy A o B k) (o + k) (B k) = fk_cy A o B (k + 1) := by
  funext q
  by_cases h : q = o + k
  · subst h
    rw [pk_us]
    unfold fk_cy
    rw [if_pos (by omega), Nat.add_sub_cancel_left]
  · rw [pk_un h]
    unfold fk_cy
    by_cases h2 : o ≤ q ∧ q < o + k
    · rw [if_pos h2, if_pos (by omega)]
    · rw [if_neg h2, if_neg (by omega)]
theorem fk_iw_f {b : Nat → Nat} {n cnt : Nat} : ∀ d S t St f i, f ≤ i → i ≤ n → (fk_iw b n cnt d S t St f i).2.2.2.2 ≤ n := by
  intro d
  induction d with
  | zero => intro S t St f i h1 h2; show f ≤ n; omega
  | succ d ih =>
    intro S t St f i h1 h2
    rw [fk_iw_S]
    by_cases c1 : t = 0
    · rw [if_pos c1]
      show f ≤ n
      omega
    · rw [if_neg c1]
      by_cases c2 : 10 < (S (t - 1)).toNatClampNeg ∨ n ≤ i ∨ 18 < b i
      · rw [if_pos c2]
        show f ≤ n
        omega
      · rw [if_neg c2]
        have hp := fk_hd_pos (b i)
        by_cases c3 : (fk_hd (b i) = 2 ∧ n ≤ i + 1) ∨ ((b i = 3 ∨ 15 < b i) ∧ cnt ≤ b (i + 1))
        · rw [if_pos c3]
          show f + 1 ≤ n
          omega
        · rw [if_neg c3]
          exact ih _ _ _ _ _ (by omega) (by omega)
/-- what isWhole leaves, and the draft emptied -/
def fk_me1 (bf : Nat → Nat) (n cnt : Nat) (M : fk_M) : fk_M := va_up (fk_wm M (fk_iw bf n cnt 42 (upd (M 109) 0 (nI 0)) 1 (M 107) 0 0).2.1 (fk_iw bf n cnt 42 (upd (M 109) 0 (nI 0)) 1 (M 107) 0 0).2.2.1 (fk_iw bf n cnt 42 (upd (M 109) 0 (nI 0)) 1 (M 107) 0 0).2.2.2.1 (fk_iw bf n cnt 42 (upd (M 109) 0 (nI 0)) 1 (M 107) 0 0).2.2.2.2) 89 (upd (fk_wm M (fk_iw bf n cnt 42 (upd (M 109) 0 (nI 0)) 1 (M 107) 0 0).2.1 (fk_iw bf n cnt 42 (upd (M 109) 0 (nI 0)) 1 (M 107) 0 0).2.2.1 (fk_iw bf n cnt 42 (upd (M 109) 0 (nI 0)) 1 (M 107) 0 0).2.2.2.1 (fk_iw bf n cnt 42 (upd (M 109) 0 (nI 0)) 1 (M 107) 0 0).2.2.2.2 89) 19 (nI 0))
def fk_me2 (bf : Nat → Nat) (n cnt : Nat) (M : fk_M) (j : Nat) : fk_M := fk_ma (va_up (va_up (va_up (va_up (fk_th (fk_me1 bf n cnt M) 0) 98 (upd (M 98) j (nI n))) 99 (upd (M 99) j (nI (fk_iw bf n cnt 42 (upd (M 109) 0 (nI 0)) 1 (M 107) 0 0).2.2.2.2))) 100 (fk_cy (M 100) (40 * j) (M 106) n)) 101 (fk_cy (M 101) (40 * j) (fk_iw bf n cnt 42 (upd (M 109) 0 (nI 0)) 1 (M 107) 0 0).2.2.2.1 (fk_iw bf n cnt 42 (upd (M 109) 0 (nI 0)) 1 (M 107) 0 0).2.2.2.2))
theorem d_M_equation_0 : decode b_M_equation 0 = .ok (.aload_n 0, 1) := by decide +kernel
theorem d_M_equation_1 : decode b_M_equation 1 = .ok (.invokevirtual 124, 3) := by decide +kernel
theorem d_M_equation_4 : decode b_M_equation 4 = .ok (.istore_n 2, 1) := by decide +kernel
theorem d_M_equation_5 : decode b_M_equation 5 = .ok (.aload_n 0, 1) := by decide +kernel
theorem d_M_equation_6 : decode b_M_equation 6 = .ok (.getfield 104, 3) := by decide +kernel
theorem d_M_equation_9 : decode b_M_equation 9 = .ok (.istore_n 3, 1) := by decide +kernel
theorem d_M_equation_10 : decode b_M_equation 10 = .ok (.aload_n 0, 1) := by decide +kernel
theorem d_M_equation_11 : decode b_M_equation 11 = .ok (.iconst 0, 1) := by decide +kernel
theorem d_M_equation_12 : decode b_M_equation 12 = .ok (.putfield 104, 3) := by decide +kernel
theorem d_M_equation_15 : decode b_M_equation 15 = .ok (.aload_n 0, 1) := by decide +kernel
theorem d_M_equation_16 : decode b_M_equation 16 = .ok (.iload_n 2, 1) := by decide +kernel
theorem d_M_equation_17 : decode b_M_equation 17 = .ok (.ifCond .eq 23, 3) := by decide +kernel
theorem d_M_equation_20 : decode b_M_equation 20 = .ok (.iload_n 1, 1) := by decide +kernel
theorem d_M_equation_21 : decode b_M_equation 21 = .ok (.aload_n 0, 1) := by decide +kernel
theorem d_M_equation_22 : decode b_M_equation 22 = .ok (.getfield 94, 3) := by decide +kernel
theorem d_M_equation_25 : decode b_M_equation 25 = .ok (.invokestatic 128, 3) := by decide +kernel
theorem d_M_equation_28 : decode b_M_equation 28 = .ok (.ifCond .ne 12, 3) := by decide +kernel
theorem d_M_equation_31 : decode b_M_equation 31 = .ok (.aload_n 0, 1) := by decide +kernel
theorem d_M_equation_32 : decode b_M_equation 32 = .ok (.getfield 13, 3) := by decide +kernel
theorem d_M_equation_35 : decode b_M_equation 35 = .ok (.iload_n 1, 1) := by decide +kernel
theorem d_M_equation_36 : decode b_M_equation 36 = .ok (.baload, 1) := by decide +kernel
theorem d_M_equation_37 : decode b_M_equation 37 = .ok (.ifCond .eq 7, 3) := by decide +kernel
theorem d_M_equation_40 : decode b_M_equation 40 = .ok (.iconst 1, 1) := by decide +kernel
theorem d_M_equation_41 : decode b_M_equation 41 = .ok (.goto 4, 3) := by decide +kernel
theorem d_M_equation_44 : decode b_M_equation 44 = .ok (.iconst 0, 1) := by decide +kernel
theorem d_M_equation_45 : decode b_M_equation 45 = .ok (.iconst 0, 1) := by decide +kernel
theorem d_M_equation_46 : decode b_M_equation 46 = .ok (.invokevirtual 97, 3) := by decide +kernel
theorem d_M_equation_49 : decode b_M_equation 49 = .ok (.ifCond .eq 4, 3) := by decide +kernel
theorem d_M_equation_52 : decode b_M_equation 52 = .ok (.return_, 1) := by decide +kernel
theorem d_M_equation_53 : decode b_M_equation 53 = .ok (.aload_n 0, 1) := by decide +kernel
theorem d_M_equation_54 : decode b_M_equation 54 = .ok (.getfield 35, 3) := by decide +kernel
theorem d_M_equation_57 : decode b_M_equation 57 = .ok (.iload_n 1, 1) := by decide +kernel
theorem d_M_equation_58 : decode b_M_equation 58 = .ok (.iload_n 3, 1) := by decide +kernel
theorem d_M_equation_59 : decode b_M_equation 59 = .ok (.iastore, 1) := by decide +kernel
theorem d_M_equation_60 : decode b_M_equation 60 = .ok (.aload_n 0, 1) := by decide +kernel
theorem d_M_equation_61 : decode b_M_equation 61 = .ok (.getfield 38, 3) := by decide +kernel
theorem d_M_equation_64 : decode b_M_equation 64 = .ok (.iload_n 1, 1) := by decide +kernel
theorem d_M_equation_65 : decode b_M_equation 65 = .ok (.aload_n 0, 1) := by decide +kernel
theorem d_M_equation_66 : decode b_M_equation 66 = .ok (.getfield 109, 3) := by decide +kernel
theorem d_M_equation_69 : decode b_M_equation 69 = .ok (.iastore, 1) := by decide +kernel
theorem d_M_equation_70 : decode b_M_equation 70 = .ok (.iconst 0, 1) := by decide +kernel
theorem d_M_equation_71 : decode b_M_equation 71 = .ok (.istore 4, 2) := by decide +kernel
theorem d_M_equation_73 : decode b_M_equation 73 = .ok (.iload 4, 2) := by decide +kernel
theorem d_M_equation_75 : decode b_M_equation 75 = .ok (.iload_n 3, 1) := by decide +kernel
theorem d_M_equation_76 : decode b_M_equation 76 = .ok (.if_icmp .ge 28, 3) := by decide +kernel
theorem d_M_equation_79 : decode b_M_equation 79 = .ok (.aload_n 0, 1) := by decide +kernel
theorem d_M_equation_80 : decode b_M_equation 80 = .ok (.getfield 41, 3) := by decide +kernel
theorem d_M_equation_83 : decode b_M_equation 83 = .ok (.bipush 40, 2) := by decide +kernel
theorem d_M_equation_85 : decode b_M_equation 85 = .ok (.iload_n 1, 1) := by decide +kernel
theorem d_M_equation_86 : decode b_M_equation 86 = .ok (.imul, 1) := by decide +kernel
theorem d_M_equation_87 : decode b_M_equation 87 = .ok (.iload 4, 2) := by decide +kernel
theorem d_M_equation_89 : decode b_M_equation 89 = .ok (.iadd, 1) := by decide +kernel
theorem d_M_equation_90 : decode b_M_equation 90 = .ok (.aload_n 0, 1) := by decide +kernel
theorem d_M_equation_91 : decode b_M_equation 91 = .ok (.getfield 59, 3) := by decide +kernel
theorem d_M_equation_94 : decode b_M_equation 94 = .ok (.iload 4, 2) := by decide +kernel
theorem d_M_equation_96 : decode b_M_equation 96 = .ok (.iaload, 1) := by decide +kernel
theorem d_M_equation_97 : decode b_M_equation 97 = .ok (.iastore, 1) := by decide +kernel
theorem d_M_equation_98 : decode b_M_equation 98 = .ok (.iinc 4 1, 3) := by decide +kernel
theorem d_M_equation_101 : decode b_M_equation 101 = .ok (.goto (-28), 3) := by decide +kernel
theorem d_M_equation_104 : decode b_M_equation 104 = .ok (.iconst 0, 1) := by decide +kernel
theorem d_M_equation_105 : decode b_M_equation 105 = .ok (.istore 4, 2) := by decide +kernel
theorem d_M_equation_107 : decode b_M_equation 107 = .ok (.iload 4, 2) := by decide +kernel
theorem d_M_equation_109 : decode b_M_equation 109 = .ok (.aload_n 0, 1) := by decide +kernel
theorem d_M_equation_110 : decode b_M_equation 110 = .ok (.getfield 109, 3) := by decide +kernel
theorem d_M_equation_113 : decode b_M_equation 113 = .ok (.if_icmp .ge 28, 3) := by decide +kernel
theorem d_M_equation_116 : decode b_M_equation 116 = .ok (.aload_n 0, 1) := by decide +kernel
theorem d_M_equation_117 : decode b_M_equation 117 = .ok (.getfield 44, 3) := by decide +kernel
theorem d_M_equation_120 : decode b_M_equation 120 = .ok (.bipush 40, 2) := by decide +kernel
theorem d_M_equation_122 : decode b_M_equation 122 = .ok (.iload_n 1, 1) := by decide +kernel
theorem d_M_equation_123 : decode b_M_equation 123 = .ok (.imul, 1) := by decide +kernel
theorem d_M_equation_124 : decode b_M_equation 124 = .ok (.iload 4, 2) := by decide +kernel
theorem d_M_equation_126 : decode b_M_equation 126 = .ok (.iadd, 1) := by decide +kernel
theorem d_M_equation_127 : decode b_M_equation 127 = .ok (.aload_n 0, 1) := by decide +kernel
theorem d_M_equation_128 : decode b_M_equation 128 = .ok (.getfield 62, 3) := by decide +kernel
theorem d_M_equation_131 : decode b_M_equation 131 = .ok (.iload 4, 2) := by decide +kernel
theorem d_M_equation_133 : decode b_M_equation 133 = .ok (.iaload, 1) := by decide +kernel
theorem d_M_equation_134 : decode b_M_equation 134 = .ok (.iastore, 1) := by decide +kernel
theorem d_M_equation_135 : decode b_M_equation 135 = .ok (.iinc 4 1, 3) := by decide +kernel
theorem d_M_equation_138 : decode b_M_equation 138 = .ok (.goto (-31), 3) := by decide +kernel
theorem d_M_equation_141 : decode b_M_equation 141 = .ok (.aload_n 0, 1) := by decide +kernel
theorem d_M_equation_142 : decode b_M_equation 142 = .ok (.invokevirtual 101, 3) := by decide +kernel
theorem d_M_equation_145 : decode b_M_equation 145 = .ok (.return_, 1) := by decide +kernel
theorem m_M_equation : fk_MI y_M_equation b_M_equation 5 none 1 := ⟨i_744, i_742, i_743, i_8, by decide +kernel⟩
set_option maxHeartbeats 4000000 in
set_option maxRecDepth 100000 in
theorem c_M_equation (l : Launch) (g : fk_G) (ov : Int64) (M : fk_M) (bf : Nat → Nat) (n cnt : Nat) (hn40 : n ≤ 40) (h12 : cnt ≤ 12) (hn : M 89 19 = nI n) (hcnt : M 89 1 = nI cnt) (hb : ∀ j, j < n → M 106 j = nI (bf j)) (hb2 : ∀ j, j < n → bf j < 256) (v : Int32) : fk_CV l y_M_equation b_M_equation 5 (fk_rm 2) g ov M (if ((fk_iw bf n cnt 42 (upd (M 109) 0 (nI 0)) 1 (M 107) 0 0).1 = false ∨ fk_ou v cnt = true ∨ ¬ M 91 v.toNatClampNeg = 0) then fk_th (fk_me1 bf n cnt M) 1 else fk_me2 bf n cnt M v.toNatClampNeg) [.ref (fk_a g 89), .int v] := by
  refine fk_ofV rfl (Nat.le_of_ble_eq_true rfl) ?_
  intro p e s m args below meth c ls S hr hlk E G hl
  have hl : lv_has ls 5 [(0, .ref (fk_a g 89)), (1, .int v)] := hl
  refine lv_aload_n S.1 S.2.1 d_M_equation_0 rfl (lv_at hl 0 rfl) ?_
  have hcon := c_M_isWhole l g ov M bf n cnt hn40 h12 hn hcnt hb hb2
  have hfN := fk_iw_f (b := bf) (cnt := cnt) 42 (upd (M 109) 0 (nI 0)) 1 (M 107) 0 0 (Nat.le_refl _) (Nat.zero_le n)
  obtain ⟨RR, hRR⟩ : ∃ z, z = fk_iw bf n cnt 42 (upd (M 109) 0 (nI 0)) 1 (M 107) 0 0 := ⟨_, rfl⟩
  rw [← hRR] at hcon hfN
  obtain ⟨Mw, hMw⟩ : ∃ z : fk_M, z = fk_wm M RR.2.1 RR.2.2.1 RR.2.2.2.1 RR.2.2.2.2 := ⟨_, rfl⟩
  rw [← hMw] at hcon
  refine fk_cvi S E G 89 (by decide) (congrArg (fk_ce g ov 89 (M 89)) kd_89) rfl (rest := []) hcon m_M_isWhole i_745 ⟨rfl, rfl⟩ ⟨by decide, by decide⟩ rfl rfl hl.1 (Nat.le_of_ble_eq_true rfl) d_M_equation_1 ⟨Nat.zero_le _, Nat.zero_le _⟩ (fun H locs G => ?_)
  have a89 : ∀ t, t ≠ 29 → t ≠ 21 → Mw 89 t = M 89 t := fun t t1 t2 => by rw [hMw]; unfold fk_wm; rw [va_up_self, pk_un t2, pk_un t1]
  have a21 : Mw 89 21 = nI RR.2.2.2.2 := by rw [hMw]; unfold fk_wm; rw [va_up_self, pk_us]
  have a107 : Mw 107 = RR.2.2.2.1 := by rw [hMw]; unfold fk_wm; rw [va_up_ne _ _ (by decide), va_up_self]
  have aK : ∀ k, k ≠ 89 → k ≠ 107 → k ≠ 109 → Mw k = M k := fun k k1 k2 k3 => by rw [hMw]; unfold fk_wm; rw [va_up_ne _ _ k1, va_up_ne _ _ k2, va_up_ne _ _ k3]
  refine lv_istore_n (lv' := [(2, .int (nI RR.1.toNat)), (0, .ref (fk_a g 89)), (1, .int v)]) S.1 S.2.1 d_M_equation_4 rfl hl (by decide) rfl (fun ls hl => ?_)
  refine lv_aload_n S.1 S.2.1 d_M_equation_5 rfl (lv_at hl 1 rfl) ?_
  refine fk_gf S E G 89 (by decide) (v := .int (Mw 89 19)) (congrArg (fk_ce g ov 89 (Mw 89)) kd_89) rfl 19 (by decide) rfl i_641 rfl d_M_equation_6 ?_
  rw [a89 19 (by decide) (by decide), hn]
  refine lv_istore_n (lv' := [(3, .int (nI n)), (2, .int (nI RR.1.toNat)), (0, .ref (fk_a g 89)), (1, .int v)]) S.1 S.2.1 d_M_equation_9 rfl hl (by decide) rfl (fun ls hl => ?_)
  refine lv_aload_n S.1 S.2.1 d_M_equation_10 rfl (lv_at hl 2 rfl) ?_
  refine lv_iconst (v := nI 0) S.1 S.2.1 d_M_equation_11 (by decide +kernel) ?_
  refine fk_pf S E G 89 (by decide) (congrArg (fk_ce g ov 89 (Mw 89)) kd_89) rfl 19 (by decide) rfl i_641 (upd (Mw 89) 19 (nI 0)) (congrArg (fk_ce g ov 89 (upd (Mw 89) 19 (nI 0))) kd_89) rfl (ty := (.int)) (by decide +kernel) rfl rfl (Nat.le_of_ble_eq_true rfl) d_M_equation_12 (fun H locs G => ?_)
  obtain ⟨M1, hM1⟩ : ∃ z : fk_M, z = va_up Mw 89 (upd (Mw 89) 19 (nI 0)) := ⟨_, rfl⟩
  rw [← hM1] at G
  have b89 : ∀ t, t ≠ 19 → M1 89 t = Mw 89 t := fun t ht => by rw [hM1, va_up_self, pk_un ht]
  have bK : ∀ k, k ≠ 89 → M1 k = Mw k := fun k hk => by rw [hM1, va_up_ne _ _ hk]
  have hme1 : fk_me1 bf n cnt M = M1 := by unfold fk_me1; rw [← hRR, ← hMw, hM1]
  refine lv_aload_n S.1 S.2.1 d_M_equation_15 rfl (lv_at hl 2 rfl) ?_
  refine lv_iload_n S.1 S.2.1 d_M_equation_16 rfl (lv_at hl 1 rfl) ?_
  refine fk_zeq (tgt := 40) S.1 S.2.1 (fk_bl _) d_M_equation_17 rfl (fun hc2 => ?_) (fun hc2 => ?_)
  · have hw := fk_bf hc2
    refine lv_iconst (v := nI 1) S.1 S.2.1 d_M_equation_40 (by decide +kernel) ?_
    refine lv_goto (tgt := 45) S.1 S.2.1 d_M_equation_41 rfl ?_
    refine lv_iconst (v := nI 0) S.1 S.2.1 d_M_equation_45 (by decide +kernel) ?_
    refine fk_cvi S E G 89 (by decide) (congrArg (fk_ce g ov 89 (M1 89)) kd_89) rfl (rest := []) (c_M_throwing l g ov M1 1 0 (by decide) (by decide)) m_M_throwing i_724 ⟨rfl, rfl⟩ ⟨by decide, by decide⟩ rfl rfl hl.1 (Nat.le_of_ble_eq_true rfl) d_M_equation_46 ⟨Nat.zero_le _, Nat.zero_le _⟩ (fun H locs G => ?_)
    change fk_H g ov (fk_th M1 1) s H locs at G
    refine fk_zeq (tgt := 53) S.1 S.2.1 (fk_bl _) d_M_equation_49 rfl (fun hc3 => ?_) (fun hc3 => ?_)
    · exact absurd hc3 (by decide)
    · exact fk_vret S hr hlk E G (by rw [← hRR, if_pos (Or.inl hw), hme1]) d_M_equation_52
  · have hw := fk_bt hc2
    refine lv_iload_n S.1 S.2.1 d_M_equation_20 rfl (lv_at hl 3 rfl) ?_
    refine lv_aload_n S.1 S.2.1 d_M_equation_21 rfl (lv_at hl 2 rfl) ?_
    refine fk_gf S E G 89 (by decide) (v := .int (M1 89 1)) (congrArg (fk_ce g ov 89 (M1 89)) kd_89) rfl 1 (by decide) rfl i_623 rfl d_M_equation_22 ?_
    rw [b89 1 (by decide), a89 1 (by decide) (by decide), hcnt]
    refine fk_csi S E G (rest := [.ref (fk_a g 89)]) (c_M_out l g ov M1 v cnt) m_M_out i_760 ⟨rfl, rfl⟩ ⟨by decide, by decide⟩ rfl rfl hl.1 (Nat.le_of_ble_eq_true rfl) d_M_equation_25 ⟨Nat.zero_le _, Nat.zero_le _⟩ (fun H locs G => ?_)
    refine fk_zne (tgt := 40) S.1 S.2.1 (fk_bl _) d_M_equation_28 rfl (fun hc4 => ?_) (fun hc4 => ?_)
    · have ho := fk_bt hc4
      refine lv_iconst (v := nI 1) S.1 S.2.1 d_M_equation_40 (by decide +kernel) ?_
      refine lv_goto (tgt := 45) S.1 S.2.1 d_M_equation_41 rfl ?_
      refine lv_iconst (v := nI 0) S.1 S.2.1 d_M_equation_45 (by decide +kernel) ?_
      refine fk_cvi S E G 89 (by decide) (congrArg (fk_ce g ov 89 (M1 89)) kd_89) rfl (rest := []) (c_M_throwing l g ov M1 1 0 (by decide) (by decide)) m_M_throwing i_724 ⟨rfl, rfl⟩ ⟨by decide, by decide⟩ rfl rfl hl.1 (Nat.le_of_ble_eq_true rfl) d_M_equation_46 ⟨Nat.zero_le _, Nat.zero_le _⟩ (fun H locs G => ?_)
      change fk_H g ov (fk_th M1 1) s H locs at G
      refine fk_zeq (tgt := 53) S.1 S.2.1 (fk_bl _) d_M_equation_49 rfl (fun hc5 => ?_) (fun hc5 => ?_)
      · exact absurd hc5 (by decide)
      · exact fk_vret S hr hlk E G (by rw [← hRR, if_pos (Or.inr (Or.inl ho)), hme1]) d_M_equation_52
    · have ho := fk_bf hc4
      obtain ⟨j, hj1, hj2⟩ := fk_ou_in (by omega) ho
      have hcl : v.toNatClampNeg = j := by rw [hj2, nI_clamp (by omega)]
      rw [hcl]
      subst hj2
      refine lv_aload_n S.1 S.2.1 d_M_equation_31 rfl (lv_at hl 2 rfl) ?_
      refine fk_gf S E G 89 (by decide) (v := .ref (fk_a g 91)) (congrArg (fk_ce g ov 89 (M1 89)) kd_89) rfl 3 (by decide) rfl i_625 rfl d_M_equation_32 ?_
      refine lv_iload_n S.1 S.2.1 d_M_equation_35 rfl (lv_at hl 3 rfl) ?_
      refine fk_za S E G 91 (by decide) (congrArg (fk_ce g ov 91 (M1 91)) kd_91) j rfl (by omega) (by decide) (v := M 91 j) (by rw [bK 91 (by decide), aK 91 (by decide) (by decide) (by decide)]) d_M_equation_36 ?_
      refine lv_if_eq (tgt := 44) S.1 S.2.1 d_M_equation_37 rfl (fun hc6 => ?_) (fun hc6 => ?_)
      · have hok : ¬ ((fk_iw bf n cnt 42 (upd (M 109) 0 (nI 0)) 1 (M 107) 0 0).1 = false ∨ fk_ou (nI j) cnt = true ∨ ¬ M 91 j = 0) := by
          rw [← hRR]
          exact fun q => q.elim (fun q => by rw [hw] at q; cases q) (fun q => q.elim (fun q => by rw [ho] at q; cases q) (fun q => q hc6))
        rw [if_neg hok]
        refine lv_iconst (v := nI 0) S.1 S.2.1 d_M_equation_44 (by decide +kernel) ?_
        refine lv_iconst (v := nI 0) S.1 S.2.1 d_M_equation_45 (by decide +kernel) ?_
        refine fk_cvi S E G 89 (by decide) (congrArg (fk_ce g ov 89 (M1 89)) kd_89) rfl (rest := []) (c_M_throwing l g ov M1 0 0 (by decide) (by decide)) m_M_throwing i_724 ⟨rfl, rfl⟩ ⟨by decide, by decide⟩ rfl rfl hl.1 (Nat.le_of_ble_eq_true rfl) d_M_equation_46 ⟨Nat.zero_le _, Nat.zero_le _⟩ (fun H locs G => ?_)
        change fk_H g ov (fk_th M1 0) s H locs at G
        obtain ⟨Mt, hMt⟩ : ∃ z : fk_M, z = fk_th M1 0 := ⟨_, rfl⟩
        rw [← hMt] at G
        refine fk_zeq (tgt := 53) S.1 S.2.1 (fk_bl _) d_M_equation_49 rfl (fun hc7 => ?_) (fun hc7 => ?_)
        · have d89 : ∀ t, t ≠ 0 → Mt 89 t = M1 89 t := fun t ht => by rw [hMt]; exact fk_th_s ht
          have dK : ∀ k, k ≠ 89 → k ≠ 107 → k ≠ 109 → Mt k = M k := fun k k1 k2 k3 => by rw [hMt, fk_th_ne k1, bK k k1, aK k k1 k2 k3]
          have d107 : Mt 107 = RR.2.2.2.1 := by rw [hMt, fk_th_ne (by decide), bK 107 (by decide), a107]
          have d21 : Mt 89 21 = nI RR.2.2.2.2 := by rw [d89 21 (by decide), b89 21 (by decide), a21]
          refine lv_aload_n S.1 S.2.1 d_M_equation_53 rfl (lv_at hl 2 rfl) ?_
          refine fk_gf S E G 89 (by decide) (v := .ref (fk_a g 98)) (congrArg (fk_ce g ov 89 (Mt 89)) kd_89) rfl 10 (by decide) rfl i_632 rfl d_M_equation_54 ?_
          refine lv_iload_n S.1 S.2.1 d_M_equation_57 rfl (lv_at hl 3 rfl) ?_
          refine lv_iload_n S.1 S.2.1 d_M_equation_58 rfl (lv_at hl 0 rfl) ?_
          refine fk_is S E G 98 (by decide) (fun r => congrArg (fk_ce g ov 98 r) kd_98) j rfl (by omega) (by decide) d_M_equation_59 (fun H locs G => ?_)
          obtain ⟨M8, hM8⟩ : ∃ z : fk_M, z = va_up Mt 98 (upd (Mt 98) j (nI n)) := ⟨_, rfl⟩
          rw [← hM8] at G
          have e21 : M8 89 21 = nI RR.2.2.2.2 := by rw [hM8, va_up_ne _ _ (by decide), d21]
          refine lv_aload_n S.1 S.2.1 d_M_equation_60 rfl (lv_at hl 2 rfl) ?_
          refine fk_gf S E G 89 (by decide) (v := .ref (fk_a g 99)) (congrArg (fk_ce g ov 89 (M8 89)) kd_89) rfl 11 (by decide) rfl i_633 rfl d_M_equation_61 ?_
          refine lv_iload_n S.1 S.2.1 d_M_equation_64 rfl (lv_at hl 3 rfl) ?_
          refine lv_aload_n S.1 S.2.1 d_M_equation_65 rfl (lv_at hl 2 rfl) ?_
          refine fk_gf S E G 89 (by decide) (v := .int (M8 89 21)) (congrArg (fk_ce g ov 89 (M8 89)) kd_89) rfl 21 (by decide) rfl i_643 rfl d_M_equation_66 ?_
          rw [e21]
          refine fk_is S E G 99 (by decide) (fun r => congrArg (fk_ce g ov 99 r) kd_99) j rfl (by omega) (by decide) d_M_equation_69 (fun H locs G => ?_)
          obtain ⟨M9, hM9⟩ : ∃ z : fk_M, z = va_up M8 99 (upd (M8 99) j (nI RR.2.2.2.2)) := ⟨_, rfl⟩
          rw [← hM9] at G
          refine lv_iconst (v := nI 0) S.1 S.2.1 d_M_equation_70 (by decide +kernel) ?_
          refine lv_istore (lv' := [(4, .int (nI 0)), (3, .int (nI n)), (2, .int (nI RR.1.toNat)), (0, .ref (fk_a g 89)), (1, .int (nI j))]) S.1 S.2.1 d_M_equation_71 hl (by decide) rfl (fun ls hl => ?_)
          have f106 : M9 106 = M 106 := by rw [hM9, va_up_ne _ _ (by decide), hM8, va_up_ne _ _ (by decide), dK 106 (by decide) (by decide) (by decide)]
          have f107 : M9 107 = RR.2.2.2.1 := by rw [hM9, va_up_ne _ _ (by decide), hM8, va_up_ne _ _ (by decide), d107]
          have f21 : M9 89 21 = nI RR.2.2.2.2 := by rw [hM9, va_up_ne _ _ (by decide), e21]
          have f100 : M9 100 = M 100 := by rw [hM9, va_up_ne _ _ (by decide), hM8, va_up_ne _ _ (by decide), dK 100 (by decide) (by decide) (by decide)]
          have f101 : M9 101 = M 101 := by rw [hM9, va_up_ne _ _ (by decide), hM8, va_up_ne _ _ (by decide), dK 101 (by decide) (by decide) (by decide)]
          have hx2 : M9 = va_up (va_up (fk_th (fk_me1 bf n cnt M) 0) 98 (upd (M 98) j (nI n))) 99 (upd (M 99) j (nI RR.2.2.2.2)) := by
            rw [hM9, hM8, va_up_ne _ _ (show (99 : Nat) ≠ 98 by decide), dK 98 (by decide) (by decide) (by decide), dK 99 (by decide) (by decide) (by decide), hMt, hme1]
          have loop2 : ∀ (d : Nat) (i : Nat) (H : Heap) (locs : List Loc) (ls : Array Slot), i + d = RR.2.2.2.2 → fk_H g ov (va_up (va_up M9 100 (fk_cy (M 100) (40 * j) (M 106) n)) 101 (fk_cy (M 101) (40 * j) RR.2.2.2.1 i)) s H locs → lv_has ls 5 [(4, .int (nI i)), (3, .int (nI n)), (0, .ref (fk_a g 89)), (1, .int (nI j)), (2, .int (nI RR.1.toNat))] → W p l e (fk_rm (2)) s m args below meth c H locs 0 0 (MQ below (va_Qv (fun (_ : Unit) => True) (fun _ t9 => fk_Wd g ov (fk_me2 bf n cnt M j) t9) (fk_A g)) args s 0 0 (fk_A g)) (F0 m 107 ls []) := by
            intro d
            induction d with
            | zero =>
              intro i H locs ls hv0 G hl
              obtain ⟨Mi, hMi⟩ : ∃ z : fk_M, z = va_up (va_up M9 100 (fk_cy (M 100) (40 * j) (M 106) n)) 101 (fk_cy (M 101) (40 * j) RR.2.2.2.1 i) := ⟨_, rfl⟩
              rw [← hMi] at G
              have e1 : Mi 89 21 = nI RR.2.2.2.2 := by rw [hMi, va_up_ne _ _ (by decide), va_up_ne _ _ (by decide), f21]
              refine lv_iload S.1 S.2.1 d_M_equation_107 (lv_at hl 0 rfl) ?_
              refine lv_aload_n S.1 S.2.1 d_M_equation_109 rfl (lv_at hl 2 rfl) ?_
              refine fk_gf S E G 89 (by decide) (v := .int (Mi 89 21)) (congrArg (fk_ce g ov 89 (Mi 89)) kd_89) rfl 21 (by decide) rfl i_643 rfl d_M_equation_110 ?_
              rw [e1]
              refine fk_cge (tgt := 141) S.1 S.2.1 (by omega) (by omega) d_M_equation_113 rfl (fun hc10 => ?_) (fun hc10 => ?_)
              · refine lv_aload_n S.1 S.2.1 d_M_equation_141 rfl (lv_at hl 2 rfl) ?_
                refine fk_cvv S E G 89 (by decide) (congrArg (fk_ce g ov 89 (Mi 89)) kd_89) rfl (rest := []) (c_M_again l g ov Mi) m_M_again i_728 ⟨rfl, rfl⟩ ⟨by decide, by decide⟩ rfl rfl hl.1 (Nat.le_of_ble_eq_true rfl) d_M_equation_142 ⟨Nat.zero_le _, Nat.zero_le _⟩ (fun H locs G => ?_)
                have hi : i = RR.2.2.2.2 := by omega
                exact fk_vret S hr hlk E G (by unfold fk_me2; rw [← hRR, hMi, hx2, hi]) d_M_equation_145
              · exact absurd hv0 (by omega)
            | succ d ih =>
              intro i H locs ls hv0 G hl
              obtain ⟨Mi, hMi⟩ : ∃ z : fk_M, z = va_up (va_up M9 100 (fk_cy (M 100) (40 * j) (M 106) n)) 101 (fk_cy (M 101) (40 * j) RR.2.2.2.1 i) := ⟨_, rfl⟩
              rw [← hMi] at G
              have e1 : Mi 89 21 = nI RR.2.2.2.2 := by rw [hMi, va_up_ne _ _ (by decide), va_up_ne _ _ (by decide), f21]
              have e2 : Mi 107 = RR.2.2.2.1 := by rw [hMi, va_up_ne _ _ (by decide), va_up_ne _ _ (by decide), f107]
              have e3 : Mi 101 = fk_cy (M 101) (40 * j) RR.2.2.2.1 i := by rw [hMi, va_up_self]
              refine lv_iload S.1 S.2.1 d_M_equation_107 (lv_at hl 0 rfl) ?_
              refine lv_aload_n S.1 S.2.1 d_M_equation_109 rfl (lv_at hl 2 rfl) ?_
              refine fk_gf S E G 89 (by decide) (v := .int (Mi 89 21)) (congrArg (fk_ce g ov 89 (Mi 89)) kd_89) rfl 21 (by decide) rfl i_643 rfl d_M_equation_110 ?_
              rw [e1]
              refine fk_cge (tgt := 141) S.1 S.2.1 (by omega) (by omega) d_M_equation_113 rfl (fun hc11 => ?_) (fun hc11 => ?_)
              · exact absurd hv0 (by omega)
              · refine lv_aload_n S.1 S.2.1 d_M_equation_116 rfl (lv_at hl 2 rfl) ?_
                refine fk_gf S E G 89 (by decide) (v := .ref (fk_a g 101)) (congrArg (fk_ce g ov 89 (Mi 89)) kd_89) rfl 13 (by decide) rfl i_635 rfl d_M_equation_117 ?_
                refine lv_bipush (v := nI 40) S.1 S.2.1 d_M_equation_120 (by decide +kernel) ?_
                refine lv_iload_n S.1 S.2.1 d_M_equation_122 rfl (lv_at hl 3 rfl) ?_
                refine fk_imul S.1 S.2.1 d_M_equation_123 ?_
                refine lv_iload S.1 S.2.1 d_M_equation_124 (lv_at hl 0 rfl) ?_
                refine fk_iadd S.1 S.2.1 d_M_equation_126 ?_
                refine lv_aload_n S.1 S.2.1 d_M_equation_127 rfl (lv_at hl 2 rfl) ?_
                refine fk_gf S E G 89 (by decide) (v := .ref (fk_a g 107)) (congrArg (fk_ce g ov 89 (Mi 89)) kd_89) rfl 20 (by decide) rfl i_642 rfl d_M_equation_128 ?_
                refine lv_iload S.1 S.2.1 d_M_equation_131 (lv_at hl 0 rfl) ?_
                refine fk_ia S E G 107 (by decide) (congrArg (fk_ce g ov 107 (Mi 107)) kd_107) i rfl (by omega) (by decide) (v := RR.2.2.2.1 i) (by rw [e2]) d_M_equation_133 ?_
                refine fk_is S E G 101 (by decide) (fun r => congrArg (fk_ce g ov 101 r) kd_101) ((40 * j) + i) rfl (by omega) (by decide) d_M_equation_134 (fun H locs G => ?_)
                obtain ⟨M12, hM12⟩ : ∃ z : fk_M, z = va_up Mi 101 (upd (Mi 101) ((40 * j) + i) (RR.2.2.2.1 i)) := ⟨_, rfl⟩
                rw [← hM12] at G
                refine lv_iinc (k := 0) (v := nI (i + 1)) (lv' := [(4, .int (nI (i + 1))), (3, .int (nI n)), (0, .ref (fk_a g 89)), (1, .int (nI j)), (2, .int (nI RR.1.toNat))]) S.1 S.2.1 d_M_equation_135 hl rfl (nI_1 i) (by decide) rfl (fun ls hl => ?_)
                refine lv_goto (tgt := 107) S.1 S.2.1 d_M_equation_138 rfl ?_
                refine ih (i + 1) H locs ls (by omega) ?_ hl
                rw [hM12, e3, fk_cyS, hMi, bx_uu] at G
                exact G
          have loop1 : ∀ (d : Nat) (i : Nat) (H : Heap) (locs : List Loc) (ls : Array Slot), i + d = n → fk_H g ov (va_up M9 100 (fk_cy (M 100) (40 * j) (M 106) i)) s H locs → lv_has ls 5 [(4, .int (nI i)), (3, .int (nI n)), (0, .ref (fk_a g 89)), (1, .int (nI j)), (2, .int (nI RR.1.toNat))] → W p l e (fk_rm (2)) s m args below meth c H locs 0 0 (MQ below (va_Qv (fun (_ : Unit) => True) (fun _ t9 => fk_Wd g ov (fk_me2 bf n cnt M j) t9) (fk_A g)) args s 0 0 (fk_A g)) (F0 m 73 ls []) := by
            intro d
            induction d with
            | zero =>
              intro i H locs ls hv0 G hl
              obtain ⟨Mi, hMi⟩ : ∃ z : fk_M, z = va_up M9 100 (fk_cy (M 100) (40 * j) (M 106) i) := ⟨_, rfl⟩
              rw [← hMi] at G
              refine lv_iload S.1 S.2.1 d_M_equation_73 (lv_at hl 0 rfl) ?_
              refine lv_iload_n S.1 S.2.1 d_M_equation_75 rfl (lv_at hl 1 rfl) ?_
              refine fk_cge (tgt := 104) S.1 S.2.1 (by omega) (by omega) d_M_equation_76 rfl (fun hc13 => ?_) (fun hc13 => ?_)
              · refine lv_iconst (v := nI 0) S.1 S.2.1 d_M_equation_104 (by decide +kernel) ?_
                refine lv_istore (lv' := [(4, .int (nI 0)), (3, .int (nI n)), (0, .ref (fk_a g 89)), (1, .int (nI j)), (2, .int (nI RR.1.toNat))]) S.1 S.2.1 d_M_equation_105 hl (by decide) rfl (fun ls hl => ?_)
                have hi : i = n := by omega
                rw [hMi, hi] at G
                exact loop2 RR.2.2.2.2 0 H locs ls (by omega) (by rw [fk_cy0, show va_up (va_up M9 100 (fk_cy (M 100) (40 * j) (M 106) n)) 101 (M 101) = va_up M9 100 (fk_cy (M 100) (40 * j) (M 106) n) from ?_]; exact G; rw [← show (va_up M9 100 (fk_cy (M 100) (40 * j) (M 106) n)) 101 = M 101 by rw [va_up_ne _ _ (by decide), f101], fk_upid]) hl
              · exact absurd hv0 (by omega)
            | succ d ih =>
              intro i H locs ls hv0 G hl
              obtain ⟨Mi, hMi⟩ : ∃ z : fk_M, z = va_up M9 100 (fk_cy (M 100) (40 * j) (M 106) i) := ⟨_, rfl⟩
              rw [← hMi] at G
              have e2 : Mi 106 = M 106 := by rw [hMi, va_up_ne _ _ (by decide), f106]
              have e3 : Mi 100 = fk_cy (M 100) (40 * j) (M 106) i := by rw [hMi, va_up_self]
              refine lv_iload S.1 S.2.1 d_M_equation_73 (lv_at hl 0 rfl) ?_
              refine lv_iload_n S.1 S.2.1 d_M_equation_75 rfl (lv_at hl 1 rfl) ?_
              refine fk_cge (tgt := 104) S.1 S.2.1 (by omega) (by omega) d_M_equation_76 rfl (fun hc14 => ?_) (fun hc14 => ?_)
              · exact absurd hv0 (by omega)
              · refine lv_aload_n S.1 S.2.1 d_M_equation_79 rfl (lv_at hl 2 rfl) ?_
                refine fk_gf S E G 89 (by decide) (v := .ref (fk_a g 100)) (congrArg (fk_ce g ov 89 (Mi 89)) kd_89) rfl 12 (by decide) rfl i_634 rfl d_M_equation_80 ?_
                refine lv_bipush (v := nI 40) S.1 S.2.1 d_M_equation_83 (by decide +kernel) ?_
                refine lv_iload_n S.1 S.2.1 d_M_equation_85 rfl (lv_at hl 3 rfl) ?_
                refine fk_imul S.1 S.2.1 d_M_equation_86 ?_
                refine lv_iload S.1 S.2.1 d_M_equation_87 (lv_at hl 0 rfl) ?_
                refine fk_iadd S.1 S.2.1 d_M_equation_89 ?_
                refine lv_aload_n S.1 S.2.1 d_M_equation_90 rfl (lv_at hl 2 rfl) ?_
                refine fk_gf S E G 89 (by decide) (v := .ref (fk_a g 106)) (congrArg (fk_ce g ov 89 (Mi 89)) kd_89) rfl 18 (by decide) rfl i_640 rfl d_M_equation_91 ?_
                refine lv_iload S.1 S.2.1 d_M_equation_94 (lv_at hl 0 rfl) ?_
                refine fk_ia S E G 106 (by decide) (congrArg (fk_ce g ov 106 (Mi 106)) kd_106) i rfl (by omega) (by decide) (v := M 106 i) (by rw [e2]) d_M_equation_96 ?_
                refine fk_is S E G 100 (by decide) (fun r => congrArg (fk_ce g ov 100 r) kd_100) ((40 * j) + i) rfl (by omega) (by decide) d_M_equation_97 (fun H locs G => ?_)
                obtain ⟨M15, hM15⟩ : ∃ z : fk_M, z = va_up Mi 100 (upd (Mi 100) ((40 * j) + i) (M 106 i)) := ⟨_, rfl⟩
                rw [← hM15] at G
                refine lv_iinc (k := 0) (v := nI (i + 1)) (lv' := [(4, .int (nI (i + 1))), (3, .int (nI n)), (0, .ref (fk_a g 89)), (1, .int (nI j)), (2, .int (nI RR.1.toNat))]) S.1 S.2.1 d_M_equation_98 hl rfl (nI_1 i) (by decide) rfl (fun ls hl => ?_)
                refine lv_goto (tgt := 73) S.1 S.2.1 d_M_equation_101 rfl ?_
                refine ih (i + 1) H locs ls (by omega) ?_ hl
                rw [hM15, e3, fk_cyS, hMi, bx_uu] at G
                exact G
          exact loop1 n 0 H locs ls (by omega) (by rw [fk_cy0, ← f100, fk_upid]; exact G) (lv_sub hl [0, 1, 3, 4, 2] rfl)
        · exact absurd hc7 (by decide)
      · refine lv_iconst (v := nI 1) S.1 S.2.1 d_M_equation_40 (by decide +kernel) ?_
        refine lv_goto (tgt := 45) S.1 S.2.1 d_M_equation_41 rfl ?_
        refine lv_iconst (v := nI 0) S.1 S.2.1 d_M_equation_45 (by decide +kernel) ?_
        refine fk_cvi S E G 89 (by decide) (congrArg (fk_ce g ov 89 (M1 89)) kd_89) rfl (rest := []) (c_M_throwing l g ov M1 1 0 (by decide) (by decide)) m_M_throwing i_724 ⟨rfl, rfl⟩ ⟨by decide, by decide⟩ rfl rfl hl.1 (Nat.le_of_ble_eq_true rfl) d_M_equation_46 ⟨Nat.zero_le _, Nat.zero_le _⟩ (fun H locs G => ?_)
        change fk_H g ov (fk_th M1 1) s H locs at G
        refine fk_zeq (tgt := 53) S.1 S.2.1 (fk_bl _) d_M_equation_49 rfl (fun hc16 => ?_) (fun hc16 => ?_)
        · exact absurd hc16 (by decide)
        · exact fk_vret S hr hlk E G (by rw [← hRR, if_pos (Or.inr (Or.inr hc6)), hme1]) d_M_equation_52
