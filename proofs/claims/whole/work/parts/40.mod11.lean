/-! The reference: arrange. Written by wip/gen/s_mod11.py. -/
theorem fk_uu (A : Nat → Int32) (t : Nat) (a b : Int32) : upd (upd A t a) t b = upd A t b := by
  funext q
  by_cases h : q = t
  · subst h
    rw [pk_us, pk_us]
  · rw [pk_un h, pk_un h, pk_un h]
theorem fk_shb (v : Int32) {j : Nat} (hj : j < 12) : (v >>> (nI j &&& 31)).toBitVec = v.toBitVec.sshiftRight j := by
  rw [Int32.toBitVec_shiftRight]
  have h : ∀ j : Fin 12, ((nI j.1 &&& 31).toBitVec.smod 32).toNat = j.1 := by decide +kernel
  rw [BitVec.sshiftRight', h ⟨j, hj⟩]
theorem fk_an1 (v : Int32) : v &&& nI 1 = nI (v.toBitVec.getLsbD 0).toNat := by
  apply Int32.toBitVec_inj.mp
  rw [Int32.toBitVec_and]
  apply BitVec.eq_of_getLsbD_eq
  intro i hi
  rw [BitVec.getLsbD_and]
  by_cases h : i = 0
  · subst h
    cases v.toBitVec.getLsbD 0 <;> decide +kernel
  · have h1 : ∀ i : Fin 32, i.1 ≠ 0 → (nI 1).toBitVec.getLsbD i.1 = false := by decide +kernel
    have h0 : ∀ i : Fin 32, (nI 0).toBitVec.getLsbD i.1 = false := by decide +kernel
    rw [h1 ⟨i, hi⟩ h, Bool.and_false]
    cases v.toBitVec.getLsbD 0
    · exact (h0 ⟨i, hi⟩).symm
    · exact (h1 ⟨i, hi⟩ h).symm
/-- a bit, as the shift sees it -/
theorem fk_bit1 (v : Int32) {j : Nat} (hj : j < 12) : (v >>> (nI j &&& 31)) &&& nI 1 = nI (v.toBitVec.getLsbD j).toNat := by
  rw [fk_an1, fk_shb v hj, BitVec.getLsbD_sshiftRight]
  congr 2
  rw [if_pos (by omega), Nat.add_zero]
  simp
theorem fk_wf_b (v : Int32) {j : Nat} (hj : j < 12) : fk_wf v j = v.toBitVec.getLsbD j := by
  unfold fk_wf
  rw [fk_bit1 v hj]
  cases v.toBitVec.getLsbD j <;> decide +kernel
theorem fk_wf0 {v : Int32} {j : Nat} (hj : j < 12) : (v >>> (nI j &&& 31)) &&& nI 1 = 0 ↔ fk_wf v j = false := by
  rw [fk_bit1 v hj, fk_wf_b v hj]
  cases v.toBitVec.getLsbD j <;> decide +kernel
theorem fk_wf_or (a b : Int32) {j : Nat} (hj : j < 12) : fk_wf (a ||| b) j = (fk_wf a j || fk_wf b j) := by
  rw [fk_wf_b _ hj, fk_wf_b _ hj, fk_wf_b _ hj, Int32.toBitVec_or, BitVec.getLsbD_or]
theorem fk_wf_1 {f j : Nat} (hf : f < 12) (hj : j < 12) : fk_wf (nI 1 <<< (nI f &&& 31)) j = decide (f = j) := by
  have h : ∀ f j : Fin 12, fk_wf (nI 1 <<< (nI f.1 &&& 31)) j.1 = decide (f.1 = j.1) := by decide +kernel
  exact h ⟨f, hf⟩ ⟨j, hj⟩
/-- how many of the first n bits are set -/
def fk_pc (v : Int32) : Nat → Nat
  | 0 => 0
  | n + 1 => fk_pc v n + (fk_wf v n).toNat
theorem fk_pc_le (v : Int32) : ∀ n, fk_pc v n ≤ n := by
  intro n
  induction n with
  | zero => exact Nat.le_refl _
  | succ n ih =>
    show fk_pc v n + (fk_wf v n).toNat ≤ n + 1
    cases fk_wf v n <;> simp <;> omega
theorem fk_pc_or {v : Int32} {f : Nat} (h : fk_wf v f = false) : ∀ n, n ≤ 12 → f < 12 → fk_pc (v ||| (nI 1 <<< (nI f &&& 31))) n = fk_pc v n + (decide (f < n)).toNat := by
  intro n
  induction n with
  | zero => intro _ _; rfl
  | succ n ih =>
    intro h12 hf
    show fk_pc (v ||| _) n + (fk_wf (v ||| _) n).toNat = fk_pc v n + (fk_wf v n).toNat + _
    rw [ih (by omega) hf, fk_wf_or _ _ (by omega), fk_wf_1 hf (by omega)]
    by_cases hn : f = n
    · subst hn
      rw [h, decide_eq_false (by omega), decide_eq_true rfl, decide_eq_true (by omega)]
      rfl
    · rw [decide_eq_false hn, Bool.or_false]
      by_cases hl : f < n
      · rw [decide_eq_true hl, decide_eq_true (by omega)]
        simp only [Bool.toNat_true]
        omega
      · rw [decide_eq_false hl, decide_eq_false (by omega)]
        simp only [Bool.toNat_false]
        omega
def fk_dn (inp : Nat → Int32) : Nat → Int32
  | 0 => nI 0
  | i + 1 => if inp i = 0 then fk_dn inp i else fk_dn inp i ||| (nI 1 <<< (nI i &&& 31))
theorem fk_dn_S (inp : Nat → Int32) (i : Nat) : fk_dn inp (i + 1) = if inp i = 0 then fk_dn inp i else fk_dn inp i ||| (nI 1 <<< (nI i &&& 31)) := rfl
/-- the lowest flow that can be placed -/
def fk_ls (A : Nat → Int32) (dn : Int32) : Nat → Nat → Option Nat
  | 0, _ => none
  | d + 1, f => if (dn >>> (nI f &&& 31)) &&& nI 1 = 0 ∧ A f &&& (dn ^^^ (-1)) = 0 then some f else fk_ls A dn d (f + 1)
theorem fk_ls_S (A : Nat → Int32) (dn : Int32) (d f : Nat) : fk_ls A dn (d + 1) f = if (dn >>> (nI f &&& 31)) &&& nI 1 = 0 ∧ A f &&& (dn ^^^ (-1)) = 0 then some f else fk_ls A dn d (f + 1) := rfl
def fk_ao (A : Nat → Int32) (cnt : Nat) : Nat → Int32 → Nat → (Nat → Int32) → (Nat → Int32) × Nat
  | 0, _, o, O => (O, o)
  | e + 1, dn, o, O => match fk_ls A dn cnt 0 with
    | none => (O, o)
    | some f => fk_ao A cnt e (dn ||| (nI 1 <<< (nI f &&& 31))) (o + 1) (upd O o (nI f))
theorem fk_ao_n {A : Nat → Int32} {cnt e : Nat} {dn : Int32} {o : Nat} {O : Nat → Int32} (h : fk_ls A dn cnt 0 = none) : fk_ao A cnt (e + 1) dn o O = (O, o) := by
  show (match fk_ls A dn cnt 0 with | none => (O, o) | some f => _) = _
  rw [h]
theorem fk_ao_s {A : Nat → Int32} {cnt e : Nat} {dn : Int32} {o : Nat} {O : Nat → Int32} {f : Nat} (h : fk_ls A dn cnt 0 = some f) : fk_ao A cnt (e + 1) dn o O = fk_ao A cnt e (dn ||| (nI 1 <<< (nI f &&& 31))) (o + 1) (upd O o (nI f)) := by
  show (match fk_ls A dn cnt 0 with | none => (O, o) | some f => _) = _
  rw [h]
def fk_aq (M : fk_M) (O : Nat → Int32) (o : Nat) : fk_M := va_up (va_up M 108 O) 89 (upd (M 89) 27 (nI o))
/-- the memory after arrange -/
def fk_am (cnt : Nat) (M : fk_M) : fk_M := fk_aq M (fk_ao (M 97) cnt (cnt + 1) (fk_dn (M 91) cnt) 0 (M 108)).1 (fk_ao (M 97) cnt (cnt + 1) (fk_dn (M 91) cnt) 0 (M 108)).2
theorem d_M_arrange_0 : decode b_M_arrange 0 = .ok (.iconst 0, 1) := by decide +kernel
theorem d_M_arrange_1 : decode b_M_arrange 1 = .ok (.istore_n 1, 1) := by decide +kernel
theorem d_M_arrange_2 : decode b_M_arrange 2 = .ok (.iconst 0, 1) := by decide +kernel
theorem d_M_arrange_3 : decode b_M_arrange 3 = .ok (.istore_n 2, 1) := by decide +kernel
theorem d_M_arrange_4 : decode b_M_arrange 4 = .ok (.iload_n 2, 1) := by decide +kernel
theorem d_M_arrange_5 : decode b_M_arrange 5 = .ok (.aload_n 0, 1) := by decide +kernel
theorem d_M_arrange_6 : decode b_M_arrange 6 = .ok (.getfield 94, 3) := by decide +kernel
theorem d_M_arrange_9 : decode b_M_arrange 9 = .ok (.if_icmp .ge 28, 3) := by decide +kernel
theorem d_M_arrange_12 : decode b_M_arrange 12 = .ok (.aload_n 0, 1) := by decide +kernel
theorem d_M_arrange_13 : decode b_M_arrange 13 = .ok (.getfield 13, 3) := by decide +kernel
theorem d_M_arrange_16 : decode b_M_arrange 16 = .ok (.iload_n 2, 1) := by decide +kernel
theorem d_M_arrange_17 : decode b_M_arrange 17 = .ok (.baload, 1) := by decide +kernel
theorem d_M_arrange_18 : decode b_M_arrange 18 = .ok (.ifCond .eq 11, 3) := by decide +kernel
theorem d_M_arrange_21 : decode b_M_arrange 21 = .ok (.iload_n 1, 1) := by decide +kernel
theorem d_M_arrange_22 : decode b_M_arrange 22 = .ok (.iconst 1, 1) := by decide +kernel
theorem d_M_arrange_23 : decode b_M_arrange 23 = .ok (.iload_n 2, 1) := by decide +kernel
theorem d_M_arrange_24 : decode b_M_arrange 24 = .ok (.ishl, 1) := by decide +kernel
theorem d_M_arrange_25 : decode b_M_arrange 25 = .ok (.ior, 1) := by decide +kernel
theorem d_M_arrange_26 : decode b_M_arrange 26 = .ok (.goto 4, 3) := by decide +kernel
theorem d_M_arrange_29 : decode b_M_arrange 29 = .ok (.iload_n 1, 1) := by decide +kernel
theorem d_M_arrange_30 : decode b_M_arrange 30 = .ok (.istore_n 1, 1) := by decide +kernel
theorem d_M_arrange_31 : decode b_M_arrange 31 = .ok (.iinc 2 1, 3) := by decide +kernel
theorem d_M_arrange_34 : decode b_M_arrange 34 = .ok (.goto (-30), 3) := by decide +kernel
theorem d_M_arrange_37 : decode b_M_arrange 37 = .ok (.aload_n 0, 1) := by decide +kernel
theorem d_M_arrange_38 : decode b_M_arrange 38 = .ok (.iconst 0, 1) := by decide +kernel
theorem d_M_arrange_39 : decode b_M_arrange 39 = .ok (.putfield 163, 3) := by decide +kernel
theorem d_M_arrange_42 : decode b_M_arrange 42 = .ok (.iconst 0, 1) := by decide +kernel
theorem d_M_arrange_43 : decode b_M_arrange 43 = .ok (.istore_n 2, 1) := by decide +kernel
theorem d_M_arrange_44 : decode b_M_arrange 44 = .ok (.iload_n 2, 1) := by decide +kernel
theorem d_M_arrange_45 : decode b_M_arrange 45 = .ok (.aload_n 0, 1) := by decide +kernel
theorem d_M_arrange_46 : decode b_M_arrange 46 = .ok (.getfield 94, 3) := by decide +kernel
theorem d_M_arrange_49 : decode b_M_arrange 49 = .ok (.if_icmp .ge 61, 3) := by decide +kernel
theorem d_M_arrange_52 : decode b_M_arrange 52 = .ok (.iload_n 1, 1) := by decide +kernel
theorem d_M_arrange_53 : decode b_M_arrange 53 = .ok (.iload_n 2, 1) := by decide +kernel
theorem d_M_arrange_54 : decode b_M_arrange 54 = .ok (.ishr, 1) := by decide +kernel
theorem d_M_arrange_55 : decode b_M_arrange 55 = .ok (.iconst 1, 1) := by decide +kernel
theorem d_M_arrange_56 : decode b_M_arrange 56 = .ok (.iand, 1) := by decide +kernel
theorem d_M_arrange_57 : decode b_M_arrange 57 = .ok (.ifCond .ne 47, 3) := by decide +kernel
theorem d_M_arrange_60 : decode b_M_arrange 60 = .ok (.aload_n 0, 1) := by decide +kernel
theorem d_M_arrange_61 : decode b_M_arrange 61 = .ok (.getfield 32, 3) := by decide +kernel
theorem d_M_arrange_64 : decode b_M_arrange 64 = .ok (.iload_n 2, 1) := by decide +kernel
theorem d_M_arrange_65 : decode b_M_arrange 65 = .ok (.iaload, 1) := by decide +kernel
theorem d_M_arrange_66 : decode b_M_arrange 66 = .ok (.iload_n 1, 1) := by decide +kernel
theorem d_M_arrange_67 : decode b_M_arrange 67 = .ok (.iconst (-1), 1) := by decide +kernel
theorem d_M_arrange_68 : decode b_M_arrange 68 = .ok (.ixor, 1) := by decide +kernel
theorem d_M_arrange_69 : decode b_M_arrange 69 = .ok (.iand, 1) := by decide +kernel
theorem d_M_arrange_70 : decode b_M_arrange 70 = .ok (.ifCond .ne 34, 3) := by decide +kernel
theorem d_M_arrange_73 : decode b_M_arrange 73 = .ok (.aload_n 0, 1) := by decide +kernel
theorem d_M_arrange_74 : decode b_M_arrange 74 = .ok (.getfield 72, 3) := by decide +kernel
theorem d_M_arrange_77 : decode b_M_arrange 77 = .ok (.aload_n 0, 1) := by decide +kernel
theorem d_M_arrange_78 : decode b_M_arrange 78 = .ok (.getfield 163, 3) := by decide +kernel
theorem d_M_arrange_81 : decode b_M_arrange 81 = .ok (.iload_n 2, 1) := by decide +kernel
theorem d_M_arrange_82 : decode b_M_arrange 82 = .ok (.iastore, 1) := by decide +kernel
theorem d_M_arrange_83 : decode b_M_arrange 83 = .ok (.aload_n 0, 1) := by decide +kernel
theorem d_M_arrange_84 : decode b_M_arrange 84 = .ok (.dup, 1) := by decide +kernel
theorem d_M_arrange_85 : decode b_M_arrange 85 = .ok (.getfield 163, 3) := by decide +kernel
theorem d_M_arrange_88 : decode b_M_arrange 88 = .ok (.iconst 1, 1) := by decide +kernel
theorem d_M_arrange_89 : decode b_M_arrange 89 = .ok (.iadd, 1) := by decide +kernel
theorem d_M_arrange_90 : decode b_M_arrange 90 = .ok (.putfield 163, 3) := by decide +kernel
theorem d_M_arrange_93 : decode b_M_arrange 93 = .ok (.iload_n 1, 1) := by decide +kernel
theorem d_M_arrange_94 : decode b_M_arrange 94 = .ok (.iconst 1, 1) := by decide +kernel
theorem d_M_arrange_95 : decode b_M_arrange 95 = .ok (.iload_n 2, 1) := by decide +kernel
theorem d_M_arrange_96 : decode b_M_arrange 96 = .ok (.ishl, 1) := by decide +kernel
theorem d_M_arrange_97 : decode b_M_arrange 97 = .ok (.ior, 1) := by decide +kernel
theorem d_M_arrange_98 : decode b_M_arrange 98 = .ok (.istore_n 1, 1) := by decide +kernel
theorem d_M_arrange_99 : decode b_M_arrange 99 = .ok (.iconst 0, 1) := by decide +kernel
theorem d_M_arrange_100 : decode b_M_arrange 100 = .ok (.istore_n 2, 1) := by decide +kernel
theorem d_M_arrange_101 : decode b_M_arrange 101 = .ok (.goto (-57), 3) := by decide +kernel
theorem d_M_arrange_104 : decode b_M_arrange 104 = .ok (.iinc 2 1, 3) := by decide +kernel
theorem d_M_arrange_107 : decode b_M_arrange 107 = .ok (.goto (-63), 3) := by decide +kernel
theorem d_M_arrange_110 : decode b_M_arrange 110 = .ok (.return_, 1) := by decide +kernel
theorem m_M_arrange : fk_MI y_M_arrange b_M_arrange 3 none 0 := ⟨i_802, i_801, fk_mp (q := (y_M_arrange, 31)) (by decide +kernel), i_8, by decide +kernel⟩
set_option maxHeartbeats 4000000 in
set_option maxRecDepth 100000 in
theorem c_M_arrange (l : Launch) (g : fk_G) (ov : Int64) (M : fk_M) (cnt : Nat) (h12 : cnt ≤ 12) (hcnt : M 89 1 = nI cnt) : fk_CV l y_M_arrange b_M_arrange 3 (fk_rm 0) g ov M (fk_am cnt M) [.ref (fk_a g 89)] := by
  refine fk_ofV rfl (Nat.le_of_ble_eq_true rfl) ?_
  intro p e s m args below meth c ls S hr hlk E G hl
  have hl : lv_has ls 3 [(0, .ref (fk_a g 89))] := hl
  have loopw : ∀ (d : Nat) (dn : Int32) (o : Nat) (O9 : Nat → Int32) (H : Heap) (locs : List Loc) (ls : Array Slot), cnt < d + fk_pc dn cnt → o ≤ fk_pc dn cnt → fk_ao (M 97) cnt d dn o O9 = fk_ao (M 97) cnt (cnt + 1) (fk_dn (M 91) cnt) 0 (M 108) → fk_H g ov (fk_aq M O9 o) s H locs → lv_has ls 3 [(2, .int (nI 0)), (1, .int dn), (0, .ref (fk_a g 89))] → W p l e (fk_rm (0)) s m args below meth c H locs 0 0 (MQ below (va_Qv (fun (_ : Unit) => True) (fun _ t9 => fk_Wd g ov (fk_am cnt M) t9) (fk_A g)) args s 0 0 (fk_A g)) (F0 m 44 ls []) := by
    intro d
    induction d with
    | zero =>
      intro dn o O9 H locs ls hv0 hv1 hv2 G hl
      exact absurd hv0 (by have := fk_pc_le dn cnt; omega)
    | succ d ih =>
      intro dn o O9 H locs ls hv0 hv1 hv2 G hl
      have ihe := ih
      have hpc := fk_pc_le dn cnt
      have inner : ∀ (d2 ff : Nat) (H : Heap) (locs : List Loc) (ls : Array Slot), ff + d2 = cnt → fk_ls (M 97) dn d2 ff = fk_ls (M 97) dn cnt 0 → fk_H g ov (fk_aq M O9 o) s H locs → lv_has ls 3 [(2, .int (nI ff)), (1, .int dn), (0, .ref (fk_a g 89))] → W p l e (fk_rm (0)) s m args below meth c H locs 0 0 (MQ below (va_Qv (fun (_ : Unit) => True) (fun _ t9 => fk_Wd g ov (fk_am cnt M) t9) (fk_A g)) args s 0 0 (fk_A g)) (F0 m 44 ls []) := by
        intro d2
        induction d2 with
        | zero =>
          intro ff H locs ls hy0 hy1 G hl
          obtain ⟨Mi, hMi⟩ : ∃ z : fk_M, z = fk_aq M O9 o := ⟨_, rfl⟩
          rw [← hMi] at G
          have hin : Mi 89 1 = nI cnt := by rw [hMi]; unfold fk_aq; rw [va_up_self, pk_un (by decide)]; exact hcnt
          have hio : Mi 89 27 = nI o := by rw [hMi]; unfold fk_aq; rw [va_up_self, pk_us]
          have hiw : Mi 97 = M 97 := by rw [hMi]; unfold fk_aq; rw [va_up_ne _ _ (by decide), va_up_ne _ _ (by decide)]
          have hiO : Mi 108 = O9 := by rw [hMi]; unfold fk_aq; rw [va_up_ne _ _ (by decide), va_up_self]
          refine lv_iload_n S.1 S.2.1 d_M_arrange_44 rfl (lv_at hl 0 rfl) ?_
          refine lv_aload_n S.1 S.2.1 d_M_arrange_45 rfl (lv_at hl 2 rfl) ?_
          refine fk_gf S E G 89 (by decide) (v := .int (Mi 89 1)) (congrArg (fk_ce g ov 89 (Mi 89)) kd_89) rfl 1 (by decide) rfl i_623 rfl d_M_arrange_46 ?_
          rw [hin]
          refine fk_cge (tgt := 110) S.1 S.2.1 (by omega) (by omega) d_M_arrange_49 rfl (fun hc1 => ?_) (fun hc1 => ?_)
          · have hno : fk_ls (M 97) dn cnt 0 = none := hy1.symm
            rw [fk_ao_n hno] at hv2
            exact fk_vret S hr hlk E G (by unfold fk_am; rw [← hv2]; exact hMi) d_M_arrange_110
          · exact absurd hy0 (by omega)
        | succ d2 ih2 =>
          intro ff H locs ls hy0 hy1 G hl
          rw [fk_ls_S] at hy1
          obtain ⟨Mi, hMi⟩ : ∃ z : fk_M, z = fk_aq M O9 o := ⟨_, rfl⟩
          rw [← hMi] at G
          have hin : Mi 89 1 = nI cnt := by rw [hMi]; unfold fk_aq; rw [va_up_self, pk_un (by decide)]; exact hcnt
          have hio : Mi 89 27 = nI o := by rw [hMi]; unfold fk_aq; rw [va_up_self, pk_us]
          have hiw : Mi 97 = M 97 := by rw [hMi]; unfold fk_aq; rw [va_up_ne _ _ (by decide), va_up_ne _ _ (by decide)]
          have hiO : Mi 108 = O9 := by rw [hMi]; unfold fk_aq; rw [va_up_ne _ _ (by decide), va_up_self]
          refine lv_iload_n S.1 S.2.1 d_M_arrange_44 rfl (lv_at hl 0 rfl) ?_
          refine lv_aload_n S.1 S.2.1 d_M_arrange_45 rfl (lv_at hl 2 rfl) ?_
          refine fk_gf S E G 89 (by decide) (v := .int (Mi 89 1)) (congrArg (fk_ce g ov 89 (Mi 89)) kd_89) rfl 1 (by decide) rfl i_623 rfl d_M_arrange_46 ?_
          rw [hin]
          refine fk_cge (tgt := 110) S.1 S.2.1 (by omega) (by omega) d_M_arrange_49 rfl (fun hc2 => ?_) (fun hc2 => ?_)
          · exact absurd hy0 (by omega)
          · refine lv_iload_n S.1 S.2.1 d_M_arrange_52 rfl (lv_at hl 1 rfl) ?_
            refine lv_iload_n S.1 S.2.1 d_M_arrange_53 rfl (lv_at hl 0 rfl) ?_
            refine lv_ishr S.1 S.2.1 d_M_arrange_54 ?_
            refine lv_iconst (v := nI 1) S.1 S.2.1 d_M_arrange_55 (by decide +kernel) ?_
            refine lv_iand S.1 S.2.1 d_M_arrange_56 ?_
            refine lv_if_ne (tgt := 104) S.1 S.2.1 d_M_arrange_57 rfl (fun hc3 => ?_) (fun hc3 => ?_)
            · refine lv_iinc (k := 0) (v := nI (ff + 1)) (lv' := [(2, .int (nI (ff + 1))), (1, .int dn), (0, .ref (fk_a g 89))]) S.1 S.2.1 d_M_arrange_104 hl rfl (nI_1 ff) (by decide) rfl (fun ls hl => ?_)
              refine lv_goto (tgt := 44) S.1 S.2.1 d_M_arrange_107 rfl ?_
              rw [if_neg (fun q => hc3 q.1)] at hy1
              rw [hMi] at G
              exact ih2 (ff + 1) H locs ls (by omega) hy1 G (lv_sub hl [0, 1, 2] rfl)
            · refine lv_aload_n S.1 S.2.1 d_M_arrange_60 rfl (lv_at hl 2 rfl) ?_
              refine fk_gf S E G 89 (by decide) (v := .ref (fk_a g 97)) (congrArg (fk_ce g ov 89 (Mi 89)) kd_89) rfl 9 (by decide) rfl i_631 rfl d_M_arrange_61 ?_
              refine lv_iload_n S.1 S.2.1 d_M_arrange_64 rfl (lv_at hl 0 rfl) ?_
              refine fk_ia S E G 97 (by decide) (congrArg (fk_ce g ov 97 (Mi 97)) kd_97) ff rfl (by omega) (by decide) (v := M 97 ff) (by rw [hiw]) d_M_arrange_65 ?_
              refine lv_iload_n S.1 S.2.1 d_M_arrange_66 rfl (lv_at hl 1 rfl) ?_
              refine lv_iconst (v := -1) S.1 S.2.1 d_M_arrange_67 (by decide +kernel) ?_
              refine lv_ixor S.1 S.2.1 d_M_arrange_68 ?_
              refine lv_iand S.1 S.2.1 d_M_arrange_69 ?_
              refine lv_if_ne (tgt := 104) S.1 S.2.1 d_M_arrange_70 rfl (fun hc4 => ?_) (fun hc4 => ?_)
              · refine lv_iinc (k := 0) (v := nI (ff + 1)) (lv' := [(2, .int (nI (ff + 1))), (1, .int dn), (0, .ref (fk_a g 89))]) S.1 S.2.1 d_M_arrange_104 hl rfl (nI_1 ff) (by decide) rfl (fun ls hl => ?_)
                refine lv_goto (tgt := 44) S.1 S.2.1 d_M_arrange_107 rfl ?_
                rw [if_neg (fun q => hc4 q.2)] at hy1
                rw [hMi] at G
                exact ih2 (ff + 1) H locs ls (by omega) hy1 G (lv_sub hl [0, 1, 2] rfl)
              · rw [if_pos ⟨hc3, hc4⟩] at hy1
                have hso : fk_ls (M 97) dn cnt 0 = some ff := hy1.symm
                rw [fk_ao_s hso] at hv2
                have hbit := (fk_wf0 (show ff < 12 by omega)).mp hc3
                have hpo := fk_pc_or hbit cnt h12 (by omega)
                rw [decide_eq_true (show ff < cnt by omega)] at hpo
                have hpo : fk_pc (dn ||| (nI 1 <<< (nI ff &&& 31))) cnt = fk_pc dn cnt + 1 := hpo
                have hp2 := fk_pc_le (dn ||| (nI 1 <<< (nI ff &&& 31))) cnt
                refine lv_aload_n S.1 S.2.1 d_M_arrange_73 rfl (lv_at hl 2 rfl) ?_
                refine fk_gf S E G 89 (by decide) (v := .ref (fk_a g 108)) (congrArg (fk_ce g ov 89 (Mi 89)) kd_89) rfl 26 (by decide) rfl i_648 rfl d_M_arrange_74 ?_
                refine lv_aload_n S.1 S.2.1 d_M_arrange_77 rfl (lv_at hl 2 rfl) ?_
                refine fk_gf S E G 89 (by decide) (v := .int (Mi 89 27)) (congrArg (fk_ce g ov 89 (Mi 89)) kd_89) rfl 27 (by decide) rfl i_649 rfl d_M_arrange_78 ?_
                rw [hio]
                refine lv_iload_n S.1 S.2.1 d_M_arrange_81 rfl (lv_at hl 0 rfl) ?_
                refine fk_is S E G 108 (by decide) (fun r => congrArg (fk_ce g ov 108 r) kd_108) o rfl (by omega) (by decide) d_M_arrange_82 (fun H locs G => ?_)
                obtain ⟨M5, hM5⟩ : ∃ z : fk_M, z = va_up Mi 108 (upd (Mi 108) o (nI ff)) := ⟨_, rfl⟩
                rw [← hM5] at G
                have hio1 : M5 89 = Mi 89 := by rw [hM5, va_up_ne _ _ (by decide)]
                refine lv_aload_n S.1 S.2.1 d_M_arrange_83 rfl (lv_at hl 2 rfl) ?_
                refine lv_dup S.1 S.2.1 d_M_arrange_84 rfl ?_
                refine fk_gf S E G 89 (by decide) (v := .int (M5 89 27)) (congrArg (fk_ce g ov 89 (M5 89)) kd_89) rfl 27 (by decide) rfl i_649 rfl d_M_arrange_85 ?_
                rw [hio1, hio]
                refine lv_iconst (v := nI 1) S.1 S.2.1 d_M_arrange_88 (by decide +kernel) ?_
                refine fk_iadd S.1 S.2.1 d_M_arrange_89 ?_
                refine fk_pf S E G 89 (by decide) (congrArg (fk_ce g ov 89 (M5 89)) kd_89) rfl 27 (by decide) rfl i_649 (upd (M5 89) 27 (nI (o + 1))) (congrArg (fk_ce g ov 89 (upd (M5 89) 27 (nI (o + 1)))) kd_89) rfl (ty := (.int)) (by decide +kernel) rfl rfl (Nat.le_of_ble_eq_true rfl) d_M_arrange_90 (fun H locs G => ?_)
                obtain ⟨M6, hM6⟩ : ∃ z : fk_M, z = va_up M5 89 (upd (M5 89) 27 (nI (o + 1))) := ⟨_, rfl⟩
                rw [← hM6] at G
                refine lv_iload_n S.1 S.2.1 d_M_arrange_93 rfl (lv_at hl 1 rfl) ?_
                refine lv_iconst (v := nI 1) S.1 S.2.1 d_M_arrange_94 (by decide +kernel) ?_
                refine lv_iload_n S.1 S.2.1 d_M_arrange_95 rfl (lv_at hl 0 rfl) ?_
                refine lv_ishl S.1 S.2.1 d_M_arrange_96 ?_
                refine lv_ior S.1 S.2.1 d_M_arrange_97 ?_
                refine lv_istore_n (lv' := [(1, .int (dn ||| ((nI 1) <<< (nI ff &&& 31)))), (2, .int (nI ff)), (0, .ref (fk_a g 89))]) S.1 S.2.1 d_M_arrange_98 rfl hl (by decide) rfl (fun ls hl => ?_)
                refine lv_iconst (v := nI 0) S.1 S.2.1 d_M_arrange_99 (by decide +kernel) ?_
                refine lv_istore_n (lv' := [(2, .int (nI 0)), (1, .int (dn ||| ((nI 1) <<< (nI ff &&& 31)))), (0, .ref (fk_a g 89))]) S.1 S.2.1 d_M_arrange_100 rfl hl (by decide) rfl (fun ls hl => ?_)
                refine lv_goto (tgt := 44) S.1 S.2.1 d_M_arrange_101 rfl ?_
                have hm : M6 = fk_aq M (upd O9 o (nI ff)) (o + 1) := by
                  rw [hM6, hio1, hM5, hiO, hMi]
                  unfold fk_aq
                  rw [va_up_self, fk_uu, fk_sw _ (show (89 : Nat) ≠ 108 by decide), bx_uu, bx_uu]
                rw [hm] at G
                exact ihe _ (o + 1) _ H locs ls (by omega) (by omega) hv2 G (lv_sub hl [0, 1, 2] rfl)
      exact inner cnt 0 H locs ls (by omega) rfl G hl
  have loopd : ∀ (d : Nat) (i : Nat) (H : Heap) (locs : List Loc) (ls : Array Slot), i + d = cnt → fk_H g ov (M) s H locs → lv_has ls 3 [(1, .int (fk_dn (M 91) i)), (2, .int (nI i)), (0, .ref (fk_a g 89))] → W p l e (fk_rm (0)) s m args below meth c H locs 0 0 (MQ below (va_Qv (fun (_ : Unit) => True) (fun _ t9 => fk_Wd g ov (fk_am cnt M) t9) (fk_A g)) args s 0 0 (fk_A g)) (F0 m 4 ls []) := by
    intro d
    induction d with
    | zero =>
      intro i H locs ls hv0 G hl
      refine lv_iload_n S.1 S.2.1 d_M_arrange_4 rfl (lv_at hl 1 rfl) ?_
      refine lv_aload_n S.1 S.2.1 d_M_arrange_5 rfl (lv_at hl 2 rfl) ?_
      refine fk_gf S E G 89 (by decide) (v := .int (M 89 1)) (congrArg (fk_ce g ov 89 (M 89)) kd_89) rfl 1 (by decide) rfl i_623 rfl d_M_arrange_6 ?_
      rw [hcnt]
      refine fk_cge (tgt := 37) S.1 S.2.1 (by omega) (by omega) d_M_arrange_9 rfl (fun hc7 => ?_) (fun hc7 => ?_)
      · have hi9 : i = cnt := by omega
        refine lv_aload_n S.1 S.2.1 d_M_arrange_37 rfl (lv_at hl 2 rfl) ?_
        refine lv_iconst (v := nI 0) S.1 S.2.1 d_M_arrange_38 (by decide +kernel) ?_
        refine fk_pf S E G 89 (by decide) (congrArg (fk_ce g ov 89 (M 89)) kd_89) rfl 27 (by decide) rfl i_649 (upd (M 89) 27 (nI 0)) (congrArg (fk_ce g ov 89 (upd (M 89) 27 (nI 0))) kd_89) rfl (ty := (.int)) (by decide +kernel) rfl rfl (Nat.le_of_ble_eq_true rfl) d_M_arrange_39 (fun H locs G => ?_)
        obtain ⟨M8, hM8⟩ : ∃ z : fk_M, z = va_up M 89 (upd (M 89) 27 (nI 0)) := ⟨_, rfl⟩
        rw [← hM8] at G
        refine lv_iconst (v := nI 0) S.1 S.2.1 d_M_arrange_42 (by decide +kernel) ?_
        refine lv_istore_n (lv' := [(2, .int (nI 0)), (1, .int (fk_dn (M 91) i)), (0, .ref (fk_a g 89))]) S.1 S.2.1 d_M_arrange_43 rfl hl (by decide) rfl (fun ls hl => ?_)
        rw [hM8] at G
        rw [hi9] at hl
        exact loopw (cnt + 1) _ 0 (M 108) H locs ls (by omega) (Nat.zero_le _) rfl (show fk_H g ov (va_up (va_up M 108 (M 108)) 89 (upd (M 89) 27 (nI 0))) s H locs by rw [fk_upid]; exact G) (lv_sub hl [0, 1, 2] rfl)
      · exact absurd hv0 (by omega)
    | succ d ih =>
      intro i H locs ls hv0 G hl
      refine lv_iload_n S.1 S.2.1 d_M_arrange_4 rfl (lv_at hl 1 rfl) ?_
      refine lv_aload_n S.1 S.2.1 d_M_arrange_5 rfl (lv_at hl 2 rfl) ?_
      refine fk_gf S E G 89 (by decide) (v := .int (M 89 1)) (congrArg (fk_ce g ov 89 (M 89)) kd_89) rfl 1 (by decide) rfl i_623 rfl d_M_arrange_6 ?_
      rw [hcnt]
      refine fk_cge (tgt := 37) S.1 S.2.1 (by omega) (by omega) d_M_arrange_9 rfl (fun hc9 => ?_) (fun hc9 => ?_)
      · exact absurd hv0 (by omega)
      · refine lv_aload_n S.1 S.2.1 d_M_arrange_12 rfl (lv_at hl 2 rfl) ?_
        refine fk_gf S E G 89 (by decide) (v := .ref (fk_a g 91)) (congrArg (fk_ce g ov 89 (M 89)) kd_89) rfl 3 (by decide) rfl i_625 rfl d_M_arrange_13 ?_
        refine lv_iload_n S.1 S.2.1 d_M_arrange_16 rfl (lv_at hl 1 rfl) ?_
        refine fk_za S E G 91 (by decide) (congrArg (fk_ce g ov 91 (M 91)) kd_91) i rfl (by omega) (by decide) (v := M 91 i) rfl d_M_arrange_17 ?_
        refine lv_if_eq (tgt := 29) S.1 S.2.1 d_M_arrange_18 rfl (fun hc10 => ?_) (fun hc10 => ?_)
        · refine lv_iload_n S.1 S.2.1 d_M_arrange_29 rfl (lv_at hl 0 rfl) ?_
          refine lv_istore_n (lv' := [(1, .int (fk_dn (M 91) i)), (2, .int (nI i)), (0, .ref (fk_a g 89))]) S.1 S.2.1 d_M_arrange_30 rfl hl (by decide) rfl (fun ls hl => ?_)
          refine lv_iinc (k := 1) (v := nI (i + 1)) (lv' := [(2, .int (nI (i + 1))), (1, .int (fk_dn (M 91) i)), (0, .ref (fk_a g 89))]) S.1 S.2.1 d_M_arrange_31 hl rfl (nI_1 i) (by decide) rfl (fun ls hl => ?_)
          refine lv_goto (tgt := 4) S.1 S.2.1 d_M_arrange_34 rfl ?_
          exact ih (i + 1) H locs ls (by omega) G (lv_sub hl [1, 0, 2] (by rw [fk_dn_S, if_pos hc10] <;> rfl))
        · refine lv_iload_n S.1 S.2.1 d_M_arrange_21 rfl (lv_at hl 0 rfl) ?_
          refine lv_iconst (v := nI 1) S.1 S.2.1 d_M_arrange_22 (by decide +kernel) ?_
          refine lv_iload_n S.1 S.2.1 d_M_arrange_23 rfl (lv_at hl 1 rfl) ?_
          refine lv_ishl S.1 S.2.1 d_M_arrange_24 ?_
          refine lv_ior S.1 S.2.1 d_M_arrange_25 ?_
          refine lv_goto (tgt := 30) S.1 S.2.1 d_M_arrange_26 rfl ?_
          refine lv_istore_n (lv' := [(1, .int ((fk_dn (M 91) i) ||| ((nI 1) <<< (nI i &&& 31)))), (2, .int (nI i)), (0, .ref (fk_a g 89))]) S.1 S.2.1 d_M_arrange_30 rfl hl (by decide) rfl (fun ls hl => ?_)
          refine lv_iinc (k := 1) (v := nI (i + 1)) (lv' := [(2, .int (nI (i + 1))), (1, .int ((fk_dn (M 91) i) ||| ((nI 1) <<< (nI i &&& 31)))), (0, .ref (fk_a g 89))]) S.1 S.2.1 d_M_arrange_31 hl rfl (nI_1 i) (by decide) rfl (fun ls hl => ?_)
          refine lv_goto (tgt := 4) S.1 S.2.1 d_M_arrange_34 rfl ?_
          exact ih (i + 1) H locs ls (by omega) G (lv_sub hl [1, 0, 2] (by rw [fk_dn_S, if_neg hc10] <;> rfl))
  refine lv_iconst (v := nI 0) S.1 S.2.1 d_M_arrange_0 (by decide +kernel) ?_
  refine lv_istore_n (lv' := [(1, .int (nI 0)), (0, .ref (fk_a g 89))]) S.1 S.2.1 d_M_arrange_1 rfl hl (by decide) rfl (fun ls hl => ?_)
  refine lv_iconst (v := nI 0) S.1 S.2.1 d_M_arrange_2 (by decide +kernel) ?_
  refine lv_istore_n (lv' := [(2, .int (nI 0)), (1, .int (nI 0)), (0, .ref (fk_a g 89))]) S.1 S.2.1 d_M_arrange_3 rfl hl (by decide) rfl (fun ls hl => ?_)
  exact loopd cnt 0 s.heap [] ls (by omega) G (lv_sub hl [1, 0, 2] rfl)
