/-! The reference: findWaits, fails. Written by wip/gen/s_mod10.py. -/
/-- what the reference keeps of flow f's equation -/
def fk_RE (M : fk_M) (cnt f N P : Nat) (b sp sl : Nat → Nat) : Prop := N ≤ 40 ∧ P ≤ 40 ∧ sl 0 = 1 ∧ fk_RF b N cnt sp sl P ∧ M 99 f = nI P ∧ (∀ q, q < P → M 101 (40 * f + q) = nI (sp q)) ∧ (∀ j, j < N → M 100 (40 * f + j) = nI (b j)) ∧ (¬ M 98 f = 0 → sl P = 0)
/-- the reference's shape: cnt flows, their clocks and equations -/
def fk_RS (M : fk_M) (cnt : Nat) (cl N P : Nat → Nat) (bb sp sl : Nat → Nat → Nat) : Prop := cnt ≤ 12 ∧ M 89 1 = nI cnt ∧ ∀ f, f < cnt → cl f < 25 ∧ M 92 f = nI (cl f) ∧ fk_RE M cnt f (N f) (P f) (bb f) (sp f) (sl f)
/-- what the shape and the inputs speak of is the same -/
def fk_Rq (M M' : fk_M) : Prop := M' 89 1 = M 89 1 ∧ M' 90 = M 90 ∧ M' 91 = M 91 ∧ M' 92 = M 92 ∧ M' 98 = M 98 ∧ M' 99 = M 99 ∧ M' 100 = M 100 ∧ M' 101 = M 101
theorem fk_Rq.refl (M : fk_M) : fk_Rq M M := ⟨rfl, rfl, rfl, rfl, rfl, rfl, rfl, rfl⟩
theorem fk_Rq.trans {M M' M2 : fk_M} (h : fk_Rq M M') (k : fk_Rq M' M2) : fk_Rq M M2 := ⟨k.1.trans h.1, k.2.1.trans h.2.1, k.2.2.1.trans h.2.2.1, k.2.2.2.1.trans h.2.2.2.1, k.2.2.2.2.1.trans h.2.2.2.2.1, k.2.2.2.2.2.1.trans h.2.2.2.2.2.1, k.2.2.2.2.2.2.1.trans h.2.2.2.2.2.2.1, k.2.2.2.2.2.2.2.trans h.2.2.2.2.2.2.2⟩
theorem fk_RS.of {M M' : fk_M} {cnt : Nat} {cl N P : Nat → Nat} {bb sp sl : Nat → Nat → Nat} (h : fk_RS M cnt cl N P bb sp sl) (k : fk_Rq M M') : fk_RS M' cnt cl N P bb sp sl := by
  obtain ⟨h1, h2, h3⟩ := h
  obtain ⟨k1, -, -, k2, k3, k4, k5, k6⟩ := k
  refine ⟨h1, k1.trans h2, fun f hf => ?_⟩
  obtain ⟨a1, a2, b1, b2, b3, b4, b5, b6, b7, b8⟩ := h3 f hf
  exact ⟨a1, by rw [k2]; exact a2, b1, b2, b3, b4, by rw [k4]; exact b5, by rw [k6]; exact b6, by rw [k5]; exact b7, by rw [k3]; exact b8⟩
theorem fk_Rq.up {M M' : fk_M} (h : fk_Rq M M') {k : Nat} (hk : 93 ≤ k ∧ k ≠ 98 ∧ k ≠ 99 ∧ k ≠ 100 ∧ k ≠ 101) (w : Nat → Int32) : fk_Rq M (va_up M' k w) := by
  obtain ⟨h1, h2, h3, h4, h5, h6, h7, h8⟩ := h
  refine ⟨?_, ?_, ?_, ?_, ?_, ?_, ?_, ?_⟩ <;> rw [va_up_ne _ _ (by omega)] <;> assumption
theorem fk_Rq.up89 {M M' : fk_M} (h : fk_Rq M M') {t : Nat} (ht : t ≠ 1) (v : Int32) : fk_Rq M (va_up M' 89 (upd (M' 89) t v)) := by
  obtain ⟨h1, h2, h3, h4, h5, h6, h7, h8⟩ := h
  refine ⟨by rw [va_up_self, pk_un (by omega)]; exact h1, ?_, ?_, ?_, ?_, ?_, ?_, ?_⟩ <;> rw [va_up_ne _ _ (by decide)] <;> assumption
theorem fk_Rq.w3 {M M' : fk_M} (h : fk_Rq M M') {K : Nat} (hK : 102 ≤ K) (S : Nat → Int32) (t : Nat) (pl : Int32) (X : Nat → Int32) : fk_Rq M (fk_w3 K M' S t pl X) := by
  have h1 := ((h.up (k := 109) (by decide) S).up (k := K) (by omega) X)
  obtain ⟨g1, g2⟩ := h1
  unfold fk_w3
  obtain ⟨h2, h3, h4, h5, h6, h7, h8⟩ := g2
  refine ⟨by rw [va_up_self, pk_un (by decide), pk_un (by decide)]; exact h.1, ?_, ?_, ?_, ?_, ?_, ?_, ?_⟩ <;> rw [va_up_ne _ _ (show _ ≠ 89 by decide)] <;> assumption
/-- the memory after flow f's names are gathered -/
def fk_nfm (cl P : Nat → Nat) (bb sp sl : Nat → Nat → Nat) (M : fk_M) (f : Nat) : fk_M := if M 91 f = 0 then fk_w3 102 M (fk_rnm (bb f) (sp f) (sl f) (P f) 0 (upd (M 109) 0 (nI 0)) (fk_rn0 (cl f))).1 (sl f (P f)) (M 89 30) (M 102) else M
def fk_nv (cl P : Nat → Nat) (bb sp sl : Nat → Nat → Nat) (M : fk_M) (f : Nat) : Int32 := if M 91 f = 0 then (fk_rnm (bb f) (sp f) (sl f) (P f) 0 (upd (M 109) 0 (nI 0)) (fk_rn0 (cl f))).2 else fk_rn0 (cl f)
def fk_f1 (cl P : Nat → Nat) (bb sp sl : Nat → Nat → Nat) (M : fk_M) : Nat → fk_M
  | 0 => M
  | i + 1 => va_up (fk_nfm cl P bb sp sl (fk_f1 cl P bb sp sl M i) i) 97 (upd (fk_nfm cl P bb sp sl (fk_f1 cl P bb sp sl M i) i 97) i (fk_nv cl P bb sp sl (fk_f1 cl P bb sp sl M i) i))
theorem fk_nfm_Rq {M M' : fk_M} (h : fk_Rq M M') (cl P : Nat → Nat) (bb sp sl : Nat → Nat → Nat) (f : Nat) : fk_Rq M (fk_nfm cl P bb sp sl M' f) := by
  unfold fk_nfm
  split
  · exact h.w3 (by decide) _ _ _ _
  · exact h
theorem fk_f1_Rq (cl P : Nat → Nat) (bb sp sl : Nat → Nat → Nat) (M : fk_M) : ∀ i, fk_Rq M (fk_f1 cl P bb sp sl M i) := by
  intro i
  induction i with
  | zero => exact .refl _
  | succ i ih => exact (fk_nfm_Rq ih _ _ _ _ _ _).up (by decide) _
/-- the rounds of the reference: g through flow f's row; f; the rounds -/
def fk_x3 (f : Nat) (A : Nat → Int32) : Nat → Nat → Int32
  | 0 => A
  | j + 1 => upd (fk_x3 f A j) f (if fk_wf (fk_x3 f A j f) j = true then fk_x3 f A j f ||| fk_x3 f A j j else fk_x3 f A j f)
def fk_x2 (n : Nat) (A : Nat → Int32) : Nat → Nat → Int32
  | 0 => A
  | f + 1 => fk_x3 f (fk_x2 n A f) n
def fk_x1 (n : Nat) (A : Nat → Int32) : Nat → Nat → Int32
  | 0 => A
  | r + 1 => fk_x2 n (fk_x1 n A r) n
def fk_fw (cnt : Nat) (cl P : Nat → Nat) (bb sp sl : Nat → Nat → Nat) (M : fk_M) : fk_M := va_up (fk_f1 cl P bb sp sl M cnt) 97 (fk_x1 cnt (fk_f1 cl P bb sp sl M cnt 97) cnt)
theorem fk_fw_Rq (cnt : Nat) (cl P : Nat → Nat) (bb sp sl : Nat → Nat → Nat) (M : fk_M) : fk_Rq M (fk_fw cnt cl P bb sp sl M) := (fk_f1_Rq cl P bb sp sl M cnt).up (by decide) _
theorem d_M_findWaits_0 : decode b_M_findWaits 0 = .ok (.iconst 0, 1) := by decide +kernel
theorem d_M_findWaits_1 : decode b_M_findWaits 1 = .ok (.istore_n 1, 1) := by decide +kernel
theorem d_M_findWaits_2 : decode b_M_findWaits 2 = .ok (.iload_n 1, 1) := by decide +kernel
theorem d_M_findWaits_3 : decode b_M_findWaits 3 = .ok (.aload_n 0, 1) := by decide +kernel
theorem d_M_findWaits_4 : decode b_M_findWaits 4 = .ok (.getfield 94, 3) := by decide +kernel
theorem d_M_findWaits_7 : decode b_M_findWaits 7 = .ok (.if_icmp .ge 20, 3) := by decide +kernel
theorem d_M_findWaits_10 : decode b_M_findWaits 10 = .ok (.aload_n 0, 1) := by decide +kernel
theorem d_M_findWaits_11 : decode b_M_findWaits 11 = .ok (.getfield 32, 3) := by decide +kernel
theorem d_M_findWaits_14 : decode b_M_findWaits 14 = .ok (.iload_n 1, 1) := by decide +kernel
theorem d_M_findWaits_15 : decode b_M_findWaits 15 = .ok (.aload_n 0, 1) := by decide +kernel
theorem d_M_findWaits_16 : decode b_M_findWaits 16 = .ok (.iload_n 1, 1) := by decide +kernel
theorem d_M_findWaits_17 : decode b_M_findWaits 17 = .ok (.invokevirtual 142, 3) := by decide +kernel
theorem d_M_findWaits_20 : decode b_M_findWaits 20 = .ok (.iastore, 1) := by decide +kernel
theorem d_M_findWaits_21 : decode b_M_findWaits 21 = .ok (.iinc 1 1, 3) := by decide +kernel
theorem d_M_findWaits_24 : decode b_M_findWaits 24 = .ok (.goto (-22), 3) := by decide +kernel
theorem d_M_findWaits_27 : decode b_M_findWaits 27 = .ok (.iconst 0, 1) := by decide +kernel
theorem d_M_findWaits_28 : decode b_M_findWaits 28 = .ok (.istore_n 1, 1) := by decide +kernel
theorem d_M_findWaits_29 : decode b_M_findWaits 29 = .ok (.iload_n 1, 1) := by decide +kernel
theorem d_M_findWaits_30 : decode b_M_findWaits 30 = .ok (.aload_n 0, 1) := by decide +kernel
theorem d_M_findWaits_31 : decode b_M_findWaits 31 = .ok (.getfield 94, 3) := by decide +kernel
theorem d_M_findWaits_34 : decode b_M_findWaits 34 = .ok (.if_icmp .ge 83, 3) := by decide +kernel
theorem d_M_findWaits_37 : decode b_M_findWaits 37 = .ok (.iconst 0, 1) := by decide +kernel
theorem d_M_findWaits_38 : decode b_M_findWaits 38 = .ok (.istore_n 2, 1) := by decide +kernel
theorem d_M_findWaits_39 : decode b_M_findWaits 39 = .ok (.iload_n 2, 1) := by decide +kernel
theorem d_M_findWaits_40 : decode b_M_findWaits 40 = .ok (.aload_n 0, 1) := by decide +kernel
theorem d_M_findWaits_41 : decode b_M_findWaits 41 = .ok (.getfield 94, 3) := by decide +kernel
theorem d_M_findWaits_44 : decode b_M_findWaits 44 = .ok (.if_icmp .ge 67, 3) := by decide +kernel
theorem d_M_findWaits_47 : decode b_M_findWaits 47 = .ok (.iconst 0, 1) := by decide +kernel
theorem d_M_findWaits_48 : decode b_M_findWaits 48 = .ok (.istore_n 3, 1) := by decide +kernel
theorem d_M_findWaits_49 : decode b_M_findWaits 49 = .ok (.iload_n 3, 1) := by decide +kernel
theorem d_M_findWaits_50 : decode b_M_findWaits 50 = .ok (.aload_n 0, 1) := by decide +kernel
theorem d_M_findWaits_51 : decode b_M_findWaits 51 = .ok (.getfield 94, 3) := by decide +kernel
theorem d_M_findWaits_54 : decode b_M_findWaits 54 = .ok (.if_icmp .ge 51, 3) := by decide +kernel
theorem d_M_findWaits_57 : decode b_M_findWaits 57 = .ok (.aload_n 0, 1) := by decide +kernel
theorem d_M_findWaits_58 : decode b_M_findWaits 58 = .ok (.getfield 32, 3) := by decide +kernel
theorem d_M_findWaits_61 : decode b_M_findWaits 61 = .ok (.iload_n 2, 1) := by decide +kernel
theorem d_M_findWaits_62 : decode b_M_findWaits 62 = .ok (.aload_n 0, 1) := by decide +kernel
theorem d_M_findWaits_63 : decode b_M_findWaits 63 = .ok (.getfield 32, 3) := by decide +kernel
theorem d_M_findWaits_66 : decode b_M_findWaits 66 = .ok (.iload_n 2, 1) := by decide +kernel
theorem d_M_findWaits_67 : decode b_M_findWaits 67 = .ok (.iaload, 1) := by decide +kernel
theorem d_M_findWaits_68 : decode b_M_findWaits 68 = .ok (.iload_n 3, 1) := by decide +kernel
theorem d_M_findWaits_69 : decode b_M_findWaits 69 = .ok (.ishr, 1) := by decide +kernel
theorem d_M_findWaits_70 : decode b_M_findWaits 70 = .ok (.iconst 1, 1) := by decide +kernel
theorem d_M_findWaits_71 : decode b_M_findWaits 71 = .ok (.iand, 1) := by decide +kernel
theorem d_M_findWaits_72 : decode b_M_findWaits 72 = .ok (.iconst 1, 1) := by decide +kernel
theorem d_M_findWaits_73 : decode b_M_findWaits 73 = .ok (.if_icmp .ne 19, 3) := by decide +kernel
theorem d_M_findWaits_76 : decode b_M_findWaits 76 = .ok (.aload_n 0, 1) := by decide +kernel
theorem d_M_findWaits_77 : decode b_M_findWaits 77 = .ok (.getfield 32, 3) := by decide +kernel
theorem d_M_findWaits_80 : decode b_M_findWaits 80 = .ok (.iload_n 2, 1) := by decide +kernel
theorem d_M_findWaits_81 : decode b_M_findWaits 81 = .ok (.iaload, 1) := by decide +kernel
theorem d_M_findWaits_82 : decode b_M_findWaits 82 = .ok (.aload_n 0, 1) := by decide +kernel
theorem d_M_findWaits_83 : decode b_M_findWaits 83 = .ok (.getfield 32, 3) := by decide +kernel
theorem d_M_findWaits_86 : decode b_M_findWaits 86 = .ok (.iload_n 3, 1) := by decide +kernel
theorem d_M_findWaits_87 : decode b_M_findWaits 87 = .ok (.iaload, 1) := by decide +kernel
theorem d_M_findWaits_88 : decode b_M_findWaits 88 = .ok (.ior, 1) := by decide +kernel
theorem d_M_findWaits_89 : decode b_M_findWaits 89 = .ok (.goto 9, 3) := by decide +kernel
theorem d_M_findWaits_92 : decode b_M_findWaits 92 = .ok (.aload_n 0, 1) := by decide +kernel
theorem d_M_findWaits_93 : decode b_M_findWaits 93 = .ok (.getfield 32, 3) := by decide +kernel
theorem d_M_findWaits_96 : decode b_M_findWaits 96 = .ok (.iload_n 2, 1) := by decide +kernel
theorem d_M_findWaits_97 : decode b_M_findWaits 97 = .ok (.iaload, 1) := by decide +kernel
theorem d_M_findWaits_98 : decode b_M_findWaits 98 = .ok (.iastore, 1) := by decide +kernel
theorem d_M_findWaits_99 : decode b_M_findWaits 99 = .ok (.iinc 3 1, 3) := by decide +kernel
theorem d_M_findWaits_102 : decode b_M_findWaits 102 = .ok (.goto (-53), 3) := by decide +kernel
theorem d_M_findWaits_105 : decode b_M_findWaits 105 = .ok (.iinc 2 1, 3) := by decide +kernel
theorem d_M_findWaits_108 : decode b_M_findWaits 108 = .ok (.goto (-69), 3) := by decide +kernel
theorem d_M_findWaits_111 : decode b_M_findWaits 111 = .ok (.iinc 1 1, 3) := by decide +kernel
theorem d_M_findWaits_114 : decode b_M_findWaits 114 = .ok (.goto (-85), 3) := by decide +kernel
theorem d_M_findWaits_117 : decode b_M_findWaits 117 = .ok (.return_, 1) := by decide +kernel
theorem m_M_findWaits : fk_MI y_M_findWaits b_M_findWaits 4 none 0 := ⟨i_770, i_769, fk_mp (q := (y_M_findWaits, 31)) (by decide +kernel), i_8, by decide +kernel⟩
set_option maxHeartbeats 4000000 in
set_option maxRecDepth 100000 in
theorem c_M_findWaits (l : Launch) (g : fk_G) (ov : Int64) (M : fk_M) (cnt : Nat) (cl N P : Nat → Nat) (bb sp sl : Nat → Nat → Nat) (hRS : fk_RS M cnt cl N P bb sp sl) : fk_CV l y_M_findWaits b_M_findWaits 4 (fk_rm 3) g ov M (fk_fw cnt cl P bb sp sl M) [.ref (fk_a g 89)] := by
  refine fk_ofV rfl (Nat.le_of_ble_eq_true rfl) ?_
  intro p e s m args below meth c ls S hr hlk E G hl
  have hl : lv_has ls 4 [(0, .ref (fk_a g 89))] := hl
  obtain ⟨Mb, hMb⟩ : ∃ z : fk_M, z = fk_f1 cl P bb sp sl M cnt := ⟨_, rfl⟩
  have hcnt := hRS.1
  have hbq : fk_Rq M Mb := by rw [hMb]; exact fk_f1_Rq cl P bb sp sl M cnt
  have hbn : Mb 89 1 = nI cnt := hbq.1.trans hRS.2.1
  have loopr : ∀ (d : Nat) (r : Nat) (H : Heap) (locs : List Loc) (ls : Array Slot), r + d = cnt → fk_H g ov (va_up Mb 97 (fk_x1 cnt (Mb 97) r)) s H locs → lv_has ls 4 [(1, .int (nI r)), (0, .ref (fk_a g 89))] → W p l e (fk_rm (3)) s m args below meth c H locs 0 0 (MQ below (va_Qv (fun (_ : Unit) => True) (fun _ t9 => fk_Wd g ov (fk_fw cnt cl P bb sp sl M) t9) (fk_A g)) args s 0 0 (fk_A g)) (F0 m 29 ls []) := by
    intro d
    induction d with
    | zero =>
      intro r H locs ls hv0 G hl
      obtain ⟨Mi, hMi⟩ : ∃ z : fk_M, z = va_up Mb 97 (fk_x1 cnt (Mb 97) r) := ⟨_, rfl⟩
      rw [← hMi] at G
      have hin : Mi 89 1 = nI cnt := by rw [hMi, va_up_ne _ _ (by decide)]; exact hbn
      have hiA : Mi 97 = fk_x1 cnt (Mb 97) r := by rw [hMi, va_up_self]
      refine lv_iload_n S.1 S.2.1 d_M_findWaits_29 rfl (lv_at hl 0 rfl) ?_
      refine lv_aload_n S.1 S.2.1 d_M_findWaits_30 rfl (lv_at hl 1 rfl) ?_
      refine fk_gf S E G 89 (by decide) (v := .int (Mi 89 1)) (congrArg (fk_ce g ov 89 (Mi 89)) kd_89) rfl 1 (by decide) rfl i_623 rfl d_M_findWaits_31 ?_
      rw [hin]
      refine fk_cge (tgt := 117) S.1 S.2.1 (by omega) (by omega) d_M_findWaits_34 rfl (fun hc1 => ?_) (fun hc1 => ?_)
      · have hr9 : r = cnt := by omega
        exact fk_vret S hr hlk E G (by unfold fk_fw; rw [hMi, hr9, hMb]) d_M_findWaits_117
      · exact absurd hv0 (by omega)
    | succ d ih =>
      intro r H locs ls hv0 G hl
      obtain ⟨Mi, hMi⟩ : ∃ z : fk_M, z = va_up Mb 97 (fk_x1 cnt (Mb 97) r) := ⟨_, rfl⟩
      rw [← hMi] at G
      have hin : Mi 89 1 = nI cnt := by rw [hMi, va_up_ne _ _ (by decide)]; exact hbn
      have hiA : Mi 97 = fk_x1 cnt (Mb 97) r := by rw [hMi, va_up_self]
      refine lv_iload_n S.1 S.2.1 d_M_findWaits_29 rfl (lv_at hl 0 rfl) ?_
      refine lv_aload_n S.1 S.2.1 d_M_findWaits_30 rfl (lv_at hl 1 rfl) ?_
      refine fk_gf S E G 89 (by decide) (v := .int (Mi 89 1)) (congrArg (fk_ce g ov 89 (Mi 89)) kd_89) rfl 1 (by decide) rfl i_623 rfl d_M_findWaits_31 ?_
      rw [hin]
      refine fk_cge (tgt := 117) S.1 S.2.1 (by omega) (by omega) d_M_findWaits_34 rfl (fun hc2 => ?_) (fun hc2 => ?_)
      · exact absurd hv0 (by omega)
      · refine lv_iconst (v := nI 0) S.1 S.2.1 d_M_findWaits_37 (by decide +kernel) ?_
        refine lv_istore_n (lv' := [(2, .int (nI 0)), (1, .int (nI r)), (0, .ref (fk_a g 89))]) S.1 S.2.1 d_M_findWaits_38 rfl hl (by decide) rfl (fun ls hl => ?_)
        have ihr := ih
        have hr0 := hv0
        have loopf : ∀ (d : Nat) (ff : Nat) (H : Heap) (locs : List Loc) (ls : Array Slot), ff + d = cnt → fk_H g ov (va_up Mb 97 (fk_x2 cnt (fk_x1 cnt (Mb 97) r) ff)) s H locs → lv_has ls 4 [(2, .int (nI ff)), (1, .int (nI r)), (0, .ref (fk_a g 89))] → W p l e (fk_rm (3)) s m args below meth c H locs 0 0 (MQ below (va_Qv (fun (_ : Unit) => True) (fun _ t9 => fk_Wd g ov (fk_fw cnt cl P bb sp sl M) t9) (fk_A g)) args s 0 0 (fk_A g)) (F0 m 39 ls []) := by
          intro d
          induction d with
          | zero =>
            intro ff H locs ls hv0 G hl
            obtain ⟨Mi, hMi⟩ : ∃ z : fk_M, z = va_up Mb 97 (fk_x2 cnt (fk_x1 cnt (Mb 97) r) ff) := ⟨_, rfl⟩
            rw [← hMi] at G
            have hin : Mi 89 1 = nI cnt := by rw [hMi, va_up_ne _ _ (by decide)]; exact hbn
            have hiA : Mi 97 = fk_x2 cnt (fk_x1 cnt (Mb 97) r) ff := by rw [hMi, va_up_self]
            refine lv_iload_n S.1 S.2.1 d_M_findWaits_39 rfl (lv_at hl 0 rfl) ?_
            refine lv_aload_n S.1 S.2.1 d_M_findWaits_40 rfl (lv_at hl 2 rfl) ?_
            refine fk_gf S E G 89 (by decide) (v := .int (Mi 89 1)) (congrArg (fk_ce g ov 89 (Mi 89)) kd_89) rfl 1 (by decide) rfl i_623 rfl d_M_findWaits_41 ?_
            rw [hin]
            refine fk_cge (tgt := 111) S.1 S.2.1 (by omega) (by omega) d_M_findWaits_44 rfl (fun hc3 => ?_) (fun hc3 => ?_)
            · have hf9 : ff = cnt := by omega
              refine lv_iinc (k := 1) (v := nI (r + 1)) (lv' := [(1, .int (nI (r + 1))), (2, .int (nI ff)), (0, .ref (fk_a g 89))]) S.1 S.2.1 d_M_findWaits_111 hl rfl (nI_1 r) (by decide) rfl (fun ls hl => ?_)
              refine lv_goto (tgt := 29) S.1 S.2.1 d_M_findWaits_114 rfl ?_
              rw [hMi, hf9] at G
              exact ihr (r + 1) H locs ls (by omega) G (lv_sub hl [0, 2] rfl)
            · exact absurd hv0 (by omega)
          | succ d ih =>
            intro ff H locs ls hv0 G hl
            obtain ⟨Mi, hMi⟩ : ∃ z : fk_M, z = va_up Mb 97 (fk_x2 cnt (fk_x1 cnt (Mb 97) r) ff) := ⟨_, rfl⟩
            rw [← hMi] at G
            have hin : Mi 89 1 = nI cnt := by rw [hMi, va_up_ne _ _ (by decide)]; exact hbn
            have hiA : Mi 97 = fk_x2 cnt (fk_x1 cnt (Mb 97) r) ff := by rw [hMi, va_up_self]
            refine lv_iload_n S.1 S.2.1 d_M_findWaits_39 rfl (lv_at hl 0 rfl) ?_
            refine lv_aload_n S.1 S.2.1 d_M_findWaits_40 rfl (lv_at hl 2 rfl) ?_
            refine fk_gf S E G 89 (by decide) (v := .int (Mi 89 1)) (congrArg (fk_ce g ov 89 (Mi 89)) kd_89) rfl 1 (by decide) rfl i_623 rfl d_M_findWaits_41 ?_
            rw [hin]
            refine fk_cge (tgt := 111) S.1 S.2.1 (by omega) (by omega) d_M_findWaits_44 rfl (fun hc4 => ?_) (fun hc4 => ?_)
            · exact absurd hv0 (by omega)
            · refine lv_iconst (v := nI 0) S.1 S.2.1 d_M_findWaits_47 (by decide +kernel) ?_
              refine lv_istore_n (lv' := [(3, .int (nI 0)), (2, .int (nI ff)), (1, .int (nI r)), (0, .ref (fk_a g 89))]) S.1 S.2.1 d_M_findWaits_48 rfl hl (by decide) rfl (fun ls hl => ?_)
              have ihf := ih
              have hf0 := hv0
              have loopg : ∀ (d : Nat) (gg : Nat) (H : Heap) (locs : List Loc) (ls : Array Slot), gg + d = cnt → fk_H g ov (va_up Mb 97 (fk_x3 ff (fk_x2 cnt (fk_x1 cnt (Mb 97) r) ff) gg)) s H locs → lv_has ls 4 [(3, .int (nI gg)), (2, .int (nI ff)), (1, .int (nI r)), (0, .ref (fk_a g 89))] → W p l e (fk_rm (3)) s m args below meth c H locs 0 0 (MQ below (va_Qv (fun (_ : Unit) => True) (fun _ t9 => fk_Wd g ov (fk_fw cnt cl P bb sp sl M) t9) (fk_A g)) args s 0 0 (fk_A g)) (F0 m 49 ls []) := by
                intro d
                induction d with
                | zero =>
                  intro gg H locs ls hv0 G hl
                  obtain ⟨Mi, hMi⟩ : ∃ z : fk_M, z = va_up Mb 97 (fk_x3 ff (fk_x2 cnt (fk_x1 cnt (Mb 97) r) ff) gg) := ⟨_, rfl⟩
                  rw [← hMi] at G
                  have hin : Mi 89 1 = nI cnt := by rw [hMi, va_up_ne _ _ (by decide)]; exact hbn
                  have hiA : Mi 97 = fk_x3 ff (fk_x2 cnt (fk_x1 cnt (Mb 97) r) ff) gg := by rw [hMi, va_up_self]
                  refine lv_iload_n S.1 S.2.1 d_M_findWaits_49 rfl (lv_at hl 0 rfl) ?_
                  refine lv_aload_n S.1 S.2.1 d_M_findWaits_50 rfl (lv_at hl 3 rfl) ?_
                  refine fk_gf S E G 89 (by decide) (v := .int (Mi 89 1)) (congrArg (fk_ce g ov 89 (Mi 89)) kd_89) rfl 1 (by decide) rfl i_623 rfl d_M_findWaits_51 ?_
                  rw [hin]
                  refine fk_cge (tgt := 105) S.1 S.2.1 (by omega) (by omega) d_M_findWaits_54 rfl (fun hc5 => ?_) (fun hc5 => ?_)
                  · have hg9 : gg = cnt := by omega
                    refine lv_iinc (k := 1) (v := nI (ff + 1)) (lv' := [(2, .int (nI (ff + 1))), (3, .int (nI gg)), (1, .int (nI r)), (0, .ref (fk_a g 89))]) S.1 S.2.1 d_M_findWaits_105 hl rfl (nI_1 ff) (by decide) rfl (fun ls hl => ?_)
                    refine lv_goto (tgt := 39) S.1 S.2.1 d_M_findWaits_108 rfl ?_
                    rw [hMi, hg9] at G
                    exact ihf (ff + 1) H locs ls (by omega) G (lv_sub hl [0, 2, 3] rfl)
                  · exact absurd hv0 (by omega)
                | succ d ih =>
                  intro gg H locs ls hv0 G hl
                  obtain ⟨Mi, hMi⟩ : ∃ z : fk_M, z = va_up Mb 97 (fk_x3 ff (fk_x2 cnt (fk_x1 cnt (Mb 97) r) ff) gg) := ⟨_, rfl⟩
                  rw [← hMi] at G
                  have hin : Mi 89 1 = nI cnt := by rw [hMi, va_up_ne _ _ (by decide)]; exact hbn
                  have hiA : Mi 97 = fk_x3 ff (fk_x2 cnt (fk_x1 cnt (Mb 97) r) ff) gg := by rw [hMi, va_up_self]
                  refine lv_iload_n S.1 S.2.1 d_M_findWaits_49 rfl (lv_at hl 0 rfl) ?_
                  refine lv_aload_n S.1 S.2.1 d_M_findWaits_50 rfl (lv_at hl 3 rfl) ?_
                  refine fk_gf S E G 89 (by decide) (v := .int (Mi 89 1)) (congrArg (fk_ce g ov 89 (Mi 89)) kd_89) rfl 1 (by decide) rfl i_623 rfl d_M_findWaits_51 ?_
                  rw [hin]
                  refine fk_cge (tgt := 105) S.1 S.2.1 (by omega) (by omega) d_M_findWaits_54 rfl (fun hc6 => ?_) (fun hc6 => ?_)
                  · exact absurd hv0 (by omega)
                  · obtain ⟨B9, hB9⟩ : ∃ z, z = fk_x3 ff (fk_x2 cnt (fk_x1 cnt (Mb 97) r) ff) gg := ⟨_, rfl⟩
                    rw [← hB9] at hiA
                    refine lv_aload_n S.1 S.2.1 d_M_findWaits_57 rfl (lv_at hl 3 rfl) ?_
                    refine fk_gf S E G 89 (by decide) (v := .ref (fk_a g 97)) (congrArg (fk_ce g ov 89 (Mi 89)) kd_89) rfl 9 (by decide) rfl i_631 rfl d_M_findWaits_58 ?_
                    refine lv_iload_n S.1 S.2.1 d_M_findWaits_61 rfl (lv_at hl 1 rfl) ?_
                    refine lv_aload_n S.1 S.2.1 d_M_findWaits_62 rfl (lv_at hl 3 rfl) ?_
                    refine fk_gf S E G 89 (by decide) (v := .ref (fk_a g 97)) (congrArg (fk_ce g ov 89 (Mi 89)) kd_89) rfl 9 (by decide) rfl i_631 rfl d_M_findWaits_63 ?_
                    refine lv_iload_n S.1 S.2.1 d_M_findWaits_66 rfl (lv_at hl 1 rfl) ?_
                    refine fk_ia S E G 97 (by decide) (congrArg (fk_ce g ov 97 (Mi 97)) kd_97) ff rfl (by omega) (by decide) (v := B9 ff) (by rw [hiA]) d_M_findWaits_67 ?_
                    refine lv_iload_n S.1 S.2.1 d_M_findWaits_68 rfl (lv_at hl 0 rfl) ?_
                    refine lv_ishr S.1 S.2.1 d_M_findWaits_69 ?_
                    refine lv_iconst (v := nI 1) S.1 S.2.1 d_M_findWaits_70 (by decide +kernel) ?_
                    refine lv_iand S.1 S.2.1 d_M_findWaits_71 ?_
                    refine lv_iconst (v := nI 1) S.1 S.2.1 d_M_findWaits_72 (by decide +kernel) ?_
                    refine lv_icmp_ne (tgt := 92) S.1 S.2.1 d_M_findWaits_73 rfl (fun hc7 => ?_) (fun hc7 => ?_)
                    · refine lv_aload_n S.1 S.2.1 d_M_findWaits_92 rfl (lv_at hl 3 rfl) ?_
                      refine fk_gf S E G 89 (by decide) (v := .ref (fk_a g 97)) (congrArg (fk_ce g ov 89 (Mi 89)) kd_89) rfl 9 (by decide) rfl i_631 rfl d_M_findWaits_93 ?_
                      refine lv_iload_n S.1 S.2.1 d_M_findWaits_96 rfl (lv_at hl 1 rfl) ?_
                      refine fk_ia S E G 97 (by decide) (congrArg (fk_ce g ov 97 (Mi 97)) kd_97) ff rfl (by omega) (by decide) (v := B9 ff) (by rw [hiA]) d_M_findWaits_97 ?_
                      refine fk_is S E G 97 (by decide) (fun r => congrArg (fk_ce g ov 97 r) kd_97) ff rfl (by omega) (by decide) d_M_findWaits_98 (fun H locs G => ?_)
                      obtain ⟨M8, hM8⟩ : ∃ z : fk_M, z = va_up Mi 97 (upd (Mi 97) ff (B9 ff)) := ⟨_, rfl⟩
                      rw [← hM8] at G
                      refine lv_iinc (k := 0) (v := nI (gg + 1)) (lv' := [(3, .int (nI (gg + 1))), (2, .int (nI ff)), (1, .int (nI r)), (0, .ref (fk_a g 89))]) S.1 S.2.1 d_M_findWaits_99 hl rfl (nI_1 gg) (by decide) rfl (fun ls hl => ?_)
                      refine lv_goto (tgt := 49) S.1 S.2.1 d_M_findWaits_102 rfl ?_
                      have hx : upd B9 ff (B9 ff) = fk_x3 ff (fk_x2 cnt (fk_x1 cnt (Mb 97) r) ff) (gg + 1) := by
                        show _ = upd (fk_x3 ff (fk_x2 cnt (fk_x1 cnt (Mb 97) r) ff) gg) ff (if fk_wf (fk_x3 ff (fk_x2 cnt (fk_x1 cnt (Mb 97) r) ff) gg ff) gg = true then fk_x3 ff (fk_x2 cnt (fk_x1 cnt (Mb 97) r) ff) gg ff ||| fk_x3 ff (fk_x2 cnt (fk_x1 cnt (Mb 97) r) ff) gg gg else fk_x3 ff (fk_x2 cnt (fk_x1 cnt (Mb 97) r) ff) gg ff)
                        rw [← hB9]
                        rw [if_neg (show ¬ fk_wf (B9 ff) gg = true from fun q => hc7 (of_decide_eq_true q))]
                      rw [hM8, hiA, hx, hMi, bx_uu] at G
                      exact ih (gg + 1) H locs ls (by omega) G hl
                    · refine lv_aload_n S.1 S.2.1 d_M_findWaits_76 rfl (lv_at hl 3 rfl) ?_
                      refine fk_gf S E G 89 (by decide) (v := .ref (fk_a g 97)) (congrArg (fk_ce g ov 89 (Mi 89)) kd_89) rfl 9 (by decide) rfl i_631 rfl d_M_findWaits_77 ?_
                      refine lv_iload_n S.1 S.2.1 d_M_findWaits_80 rfl (lv_at hl 1 rfl) ?_
                      refine fk_ia S E G 97 (by decide) (congrArg (fk_ce g ov 97 (Mi 97)) kd_97) ff rfl (by omega) (by decide) (v := B9 ff) (by rw [hiA]) d_M_findWaits_81 ?_
                      refine lv_aload_n S.1 S.2.1 d_M_findWaits_82 rfl (lv_at hl 3 rfl) ?_
                      refine fk_gf S E G 89 (by decide) (v := .ref (fk_a g 97)) (congrArg (fk_ce g ov 89 (Mi 89)) kd_89) rfl 9 (by decide) rfl i_631 rfl d_M_findWaits_83 ?_
                      refine lv_iload_n S.1 S.2.1 d_M_findWaits_86 rfl (lv_at hl 0 rfl) ?_
                      refine fk_ia S E G 97 (by decide) (congrArg (fk_ce g ov 97 (Mi 97)) kd_97) gg rfl (by omega) (by decide) (v := B9 gg) (by rw [hiA]) d_M_findWaits_87 ?_
                      refine lv_ior S.1 S.2.1 d_M_findWaits_88 ?_
                      refine lv_goto (tgt := 98) S.1 S.2.1 d_M_findWaits_89 rfl ?_
                      refine fk_is S E G 97 (by decide) (fun r => congrArg (fk_ce g ov 97 r) kd_97) ff rfl (by omega) (by decide) d_M_findWaits_98 (fun H locs G => ?_)
                      obtain ⟨M9, hM9⟩ : ∃ z : fk_M, z = va_up Mi 97 (upd (Mi 97) ff ((B9 ff) ||| (B9 gg))) := ⟨_, rfl⟩
                      rw [← hM9] at G
                      refine lv_iinc (k := 0) (v := nI (gg + 1)) (lv' := [(3, .int (nI (gg + 1))), (2, .int (nI ff)), (1, .int (nI r)), (0, .ref (fk_a g 89))]) S.1 S.2.1 d_M_findWaits_99 hl rfl (nI_1 gg) (by decide) rfl (fun ls hl => ?_)
                      refine lv_goto (tgt := 49) S.1 S.2.1 d_M_findWaits_102 rfl ?_
                      have hx : upd B9 ff (B9 ff ||| B9 gg) = fk_x3 ff (fk_x2 cnt (fk_x1 cnt (Mb 97) r) ff) (gg + 1) := by
                        show _ = upd (fk_x3 ff (fk_x2 cnt (fk_x1 cnt (Mb 97) r) ff) gg) ff (if fk_wf (fk_x3 ff (fk_x2 cnt (fk_x1 cnt (Mb 97) r) ff) gg ff) gg = true then fk_x3 ff (fk_x2 cnt (fk_x1 cnt (Mb 97) r) ff) gg ff ||| fk_x3 ff (fk_x2 cnt (fk_x1 cnt (Mb 97) r) ff) gg gg else fk_x3 ff (fk_x2 cnt (fk_x1 cnt (Mb 97) r) ff) gg ff)
                        rw [← hB9]
                        rw [if_pos (show fk_wf (B9 ff) gg = true from decide_eq_true hc7)]
                      rw [hM9, hiA, hx, hMi, bx_uu] at G
                      exact ih (gg + 1) H locs ls (by omega) G hl
              rw [hMi] at G
              exact loopg cnt 0 H locs ls (by omega) G (lv_sub hl [0, 1, 2, 3] rfl)
        rw [hMi] at G
        exact loopf cnt 0 H locs ls (by omega) G (lv_sub hl [0, 1, 2] rfl)
  have loopn : ∀ (d : Nat) (i : Nat) (H : Heap) (locs : List Loc) (ls : Array Slot), i + d = cnt → fk_H g ov (fk_f1 cl P bb sp sl M i) s H locs → lv_has ls 4 [(1, .int (nI i)), (0, .ref (fk_a g 89))] → W p l e (fk_rm (3)) s m args below meth c H locs 0 0 (MQ below (va_Qv (fun (_ : Unit) => True) (fun _ t9 => fk_Wd g ov (fk_fw cnt cl P bb sp sl M) t9) (fk_A g)) args s 0 0 (fk_A g)) (F0 m 2 ls []) := by
    intro d
    induction d with
    | zero =>
      intro i H locs ls hv0 G hl
      obtain ⟨Mi, hMi⟩ : ∃ z : fk_M, z = fk_f1 cl P bb sp sl M i := ⟨_, rfl⟩
      rw [← hMi] at G
      have hiq : fk_Rq M Mi := by rw [hMi]; exact fk_f1_Rq cl P bb sp sl M i
      have hin : Mi 89 1 = nI cnt := hiq.1.trans hRS.2.1
      refine lv_iload_n S.1 S.2.1 d_M_findWaits_2 rfl (lv_at hl 0 rfl) ?_
      refine lv_aload_n S.1 S.2.1 d_M_findWaits_3 rfl (lv_at hl 1 rfl) ?_
      refine fk_gf S E G 89 (by decide) (v := .int (Mi 89 1)) (congrArg (fk_ce g ov 89 (Mi 89)) kd_89) rfl 1 (by decide) rfl i_623 rfl d_M_findWaits_4 ?_
      rw [hin]
      refine fk_cge (tgt := 27) S.1 S.2.1 (by omega) (by omega) d_M_findWaits_7 rfl (fun hc10 => ?_) (fun hc10 => ?_)
      · refine lv_iconst (v := nI 0) S.1 S.2.1 d_M_findWaits_27 (by decide +kernel) ?_
        refine lv_istore_n (lv' := [(1, .int (nI 0)), (0, .ref (fk_a g 89))]) S.1 S.2.1 d_M_findWaits_28 rfl hl (by decide) rfl (fun ls hl => ?_)
        have hi9 : i = cnt := by omega
        rw [hMi, hi9, ← hMb] at G
        exact loopr cnt 0 H locs ls (by omega) (show fk_H g ov (va_up Mb 97 (Mb 97)) s H locs by rw [fk_upid]; exact G) hl
      · exact absurd hv0 (by omega)
    | succ d ih =>
      intro i H locs ls hv0 G hl
      obtain ⟨Mi, hMi⟩ : ∃ z : fk_M, z = fk_f1 cl P bb sp sl M i := ⟨_, rfl⟩
      rw [← hMi] at G
      have hiq : fk_Rq M Mi := by rw [hMi]; exact fk_f1_Rq cl P bb sp sl M i
      have hin : Mi 89 1 = nI cnt := hiq.1.trans hRS.2.1
      refine lv_iload_n S.1 S.2.1 d_M_findWaits_2 rfl (lv_at hl 0 rfl) ?_
      refine lv_aload_n S.1 S.2.1 d_M_findWaits_3 rfl (lv_at hl 1 rfl) ?_
      refine fk_gf S E G 89 (by decide) (v := .int (Mi 89 1)) (congrArg (fk_ce g ov 89 (Mi 89)) kd_89) rfl 1 (by decide) rfl i_623 rfl d_M_findWaits_4 ?_
      rw [hin]
      refine fk_cge (tgt := 27) S.1 S.2.1 (by omega) (by omega) d_M_findWaits_7 rfl (fun hc11 => ?_) (fun hc11 => ?_)
      · exact absurd hv0 (by omega)
      · obtain ⟨-, -, hRi⟩ := hRS.of hiq
        obtain ⟨a1, a2, b1, b2, b3, b4, b5, b6, b7, b8⟩ := hRi i (by omega)
        refine lv_aload_n S.1 S.2.1 d_M_findWaits_10 rfl (lv_at hl 1 rfl) ?_
        refine fk_gf S E G 89 (by decide) (v := .ref (fk_a g 97)) (congrArg (fk_ce g ov 89 (Mi 89)) kd_89) rfl 9 (by decide) rfl i_631 rfl d_M_findWaits_11 ?_
        refine lv_iload_n S.1 S.2.1 d_M_findWaits_14 rfl (lv_at hl 0 rfl) ?_
        refine lv_aload_n S.1 S.2.1 d_M_findWaits_15 rfl (lv_at hl 1 rfl) ?_
        refine lv_iload_n S.1 S.2.1 d_M_findWaits_16 rfl (lv_at hl 0 rfl) ?_
        refine fk_cvi S E G 89 (by decide) (congrArg (fk_ce g ov 89 (Mi 89)) kd_89) rfl (rest := [.int (nI i), .ref (fk_a g 97)]) (show fk_CI _ _ _ _ _ _ _ _ _ (fk_nfm cl P bb sp sl Mi i) _ (fk_nv cl P bb sp sl Mi i) from c_M_named l g ov Mi (cl i) a1 i a2 (by omega) (bb i) (N i) cnt (sp i) (sl i) (P i) b1 hcnt b2 b3 b4 b5 b6 b7) m_M_named i_771 ⟨rfl, rfl⟩ ⟨by decide, by decide⟩ rfl rfl hl.1 (Nat.le_of_ble_eq_true rfl) d_M_findWaits_17 ⟨Nat.zero_le _, Nat.zero_le _⟩ (fun H locs G => ?_)
        obtain ⟨Mj, hMj⟩ : ∃ z : fk_M, z = fk_nfm cl P bb sp sl Mi i := ⟨_, rfl⟩
        rw [← hMj] at G
        refine fk_is S E G 97 (by decide) (fun r => congrArg (fk_ce g ov 97 r) kd_97) i rfl (by omega) (by decide) d_M_findWaits_20 (fun H locs G => ?_)
        obtain ⟨M12, hM12⟩ : ∃ z : fk_M, z = va_up Mj 97 (upd (Mj 97) i (fk_nv cl P bb sp sl Mi i)) := ⟨_, rfl⟩
        rw [← hM12] at G
        refine lv_iinc (k := 0) (v := nI (i + 1)) (lv' := [(1, .int (nI (i + 1))), (0, .ref (fk_a g 89))]) S.1 S.2.1 d_M_findWaits_21 hl rfl (nI_1 i) (by decide) rfl (fun ls hl => ?_)
        refine lv_goto (tgt := 2) S.1 S.2.1 d_M_findWaits_24 rfl ?_
        rw [hM12, hMj, hMi] at G
        exact ih (i + 1) H locs ls (by omega) G hl
  refine lv_iconst (v := nI 0) S.1 S.2.1 d_M_findWaits_0 (by decide +kernel) ?_
  refine lv_istore_n (lv' := [(1, .int (nI 0)), (0, .ref (fk_a g 89))]) S.1 S.2.1 d_M_findWaits_1 rfl hl (by decide) rfl (fun ls hl => ?_)
  exact loopn cnt 0 s.heap [] ls (by omega) G hl
def fk_pm (M : fk_M) (v : Int32) : fk_M := va_up M 89 (upd (M 89) 30 v)
def fk_fam (rule f : Nat) (M : fk_M) : fk_M := if rule = 5 ∧ fk_wf (M 97 f) f = true then fk_pm (fk_pm M (-1)) (nI 0) else fk_pm M (-1)
def fk_fbm (P : Nat → Nat) (bb sp sl : Nat → Nat → Nat) (rule f : Nat) (M : fk_M) : fk_M := match rule with
  | 1 => if M 98 f = 0 then fk_pm M (nI 0) else M
  | 2 => fk_w3 102 M (fk_rty (bb f) (sp f) (sl f) (M 90) (P f) 0 (upd (M 109) 0 (nI (decide (¬ M 90 f = 0)).toNat)) (M 89 30)).1 (sl f (P f)) (fk_rty (bb f) (sp f) (sl f) (M 90) (P f) 0 (upd (M 109) 0 (nI (decide (¬ M 90 f = 0)).toNat)) (M 89 30)).2 (M 102)
  | 3 => fk_w3 102 M (fk_rck (bb f) (sp f) (sl f) (M 92) f (P f) 0 (upd (M 109) 0 (M 92 f)) (M 89 30) (M 102)).1 (sl f (P f)) (fk_rck (bb f) (sp f) (sl f) (M 92) f (P f) 0 (upd (M 109) 0 (M 92 f)) (M 89 30) (M 102)).2.1 (fk_rck (bb f) (sp f) (sl f) (M 92) f (P f) 0 (upd (M 109) 0 (M 92 f)) (M 89 30) (M 102)).2.2
  | 4 => fk_w3 102 M (fk_rbg (bb f) (sp f) (sl f) (P f) (M 109) (M 89 30)).1 0 (if (fk_rbg (bb f) (sp f) (sl f) (P f) (M 109) (M 89 30)).1 0 = nI 1 then fk_nt (fk_rbg (bb f) (sp f) (sl f) (P f) (M 109) (M 89 30)).2 0 else (fk_rbg (bb f) (sp f) (sl f) (P f) (M 109) (M 89 30)).2) (M 102)
  | _ => M
/-- the memory after a rule is held against flow f -/
def fk_fm (P : Nat → Nat) (bb sp sl : Nat → Nat → Nat) (rule f : Nat) (M : fk_M) : fk_M := if M 91 f = 0 then fk_fbm P bb sp sl rule f (fk_fam rule f M) else fk_fam rule f M
theorem fk_fam_Rq {M M' : fk_M} (h : fk_Rq M M') (rule f : Nat) : fk_Rq M (fk_fam rule f M') := by
  unfold fk_fam
  split
  · exact fk_Rq.up89 (h.up89 (t := 30) (by decide) (-1)) (t := 30) (by decide) _
  · exact h.up89 (by decide) _
theorem fk_fbm_Rq {M M' : fk_M} (h : fk_Rq M M') (P : Nat → Nat) (bb sp sl : Nat → Nat → Nat) (rule f : Nat) : fk_Rq M (fk_fbm P bb sp sl rule f M') := by
  unfold fk_fbm
  split
  · split
    · exact h.up89 (by decide) _
    · exact h
  · exact h.w3 (by decide) _ _ _ _
  · exact h.w3 (by decide) _ _ _ _
  · exact h.w3 (by decide) _ _ _ _
  · exact h
theorem fk_fm_Rq {M M' : fk_M} (h : fk_Rq M M') (P : Nat → Nat) (bb sp sl : Nat → Nat → Nat) (rule f : Nat) : fk_Rq M (fk_fm P bb sp sl rule f M') := by
  unfold fk_fm
  split
  · exact fk_fbm_Rq (fk_fam_Rq h _ _) _ _ _ _ _ _
  · exact fk_fam_Rq h _ _
theorem d_M_fails_0 : decode b_M_fails 0 = .ok (.aload_n 0, 1) := by decide +kernel
theorem d_M_fails_1 : decode b_M_fails 1 = .ok (.iconst (-1), 1) := by decide +kernel
theorem d_M_fails_2 : decode b_M_fails 2 = .ok (.putfield 132, 3) := by decide +kernel
theorem d_M_fails_5 : decode b_M_fails 5 = .ok (.iload_n 1, 1) := by decide +kernel
theorem d_M_fails_6 : decode b_M_fails 6 = .ok (.iconst 5, 1) := by decide +kernel
theorem d_M_fails_7 : decode b_M_fails 7 = .ok (.if_icmp .ne 22, 3) := by decide +kernel
theorem d_M_fails_10 : decode b_M_fails 10 = .ok (.aload_n 0, 1) := by decide +kernel
theorem d_M_fails_11 : decode b_M_fails 11 = .ok (.getfield 32, 3) := by decide +kernel
theorem d_M_fails_14 : decode b_M_fails 14 = .ok (.iload_n 2, 1) := by decide +kernel
theorem d_M_fails_15 : decode b_M_fails 15 = .ok (.iaload, 1) := by decide +kernel
theorem d_M_fails_16 : decode b_M_fails 16 = .ok (.iload_n 2, 1) := by decide +kernel
theorem d_M_fails_17 : decode b_M_fails 17 = .ok (.ishr, 1) := by decide +kernel
theorem d_M_fails_18 : decode b_M_fails 18 = .ok (.iconst 1, 1) := by decide +kernel
theorem d_M_fails_19 : decode b_M_fails 19 = .ok (.iand, 1) := by decide +kernel
theorem d_M_fails_20 : decode b_M_fails 20 = .ok (.iconst 1, 1) := by decide +kernel
theorem d_M_fails_21 : decode b_M_fails 21 = .ok (.if_icmp .ne 8, 3) := by decide +kernel
theorem d_M_fails_24 : decode b_M_fails 24 = .ok (.aload_n 0, 1) := by decide +kernel
theorem d_M_fails_25 : decode b_M_fails 25 = .ok (.iconst 0, 1) := by decide +kernel
theorem d_M_fails_26 : decode b_M_fails 26 = .ok (.putfield 132, 3) := by decide +kernel
theorem d_M_fails_29 : decode b_M_fails 29 = .ok (.aload_n 0, 1) := by decide +kernel
theorem d_M_fails_30 : decode b_M_fails 30 = .ok (.getfield 13, 3) := by decide +kernel
theorem d_M_fails_33 : decode b_M_fails 33 = .ok (.iload_n 2, 1) := by decide +kernel
theorem d_M_fails_34 : decode b_M_fails 34 = .ok (.baload, 1) := by decide +kernel
theorem d_M_fails_35 : decode b_M_fails 35 = .ok (.ifCond .eq 16, 3) := by decide +kernel
theorem d_M_fails_38 : decode b_M_fails 38 = .ok (.aload_n 0, 1) := by decide +kernel
theorem d_M_fails_39 : decode b_M_fails 39 = .ok (.getfield 132, 3) := by decide +kernel
theorem d_M_fails_42 : decode b_M_fails 42 = .ok (.ifCond .lt 7, 3) := by decide +kernel
theorem d_M_fails_45 : decode b_M_fails 45 = .ok (.iconst 1, 1) := by decide +kernel
theorem d_M_fails_46 : decode b_M_fails 46 = .ok (.goto 4, 3) := by decide +kernel
theorem d_M_fails_49 : decode b_M_fails 49 = .ok (.iconst 0, 1) := by decide +kernel
theorem d_M_fails_50 : decode b_M_fails 50 = .ok (.ireturn, 1) := by decide +kernel
theorem d_M_fails_51 : decode b_M_fails 51 = .ok (.iload_n 1, 1) := by decide +kernel
theorem d_M_fails_52 : decode b_M_fails 52 = .ok (.iconst 1, 1) := by decide +kernel
theorem d_M_fails_53 : decode b_M_fails 53 = .ok (.if_icmp .ne 17, 3) := by decide +kernel
theorem d_M_fails_56 : decode b_M_fails 56 = .ok (.aload_n 0, 1) := by decide +kernel
theorem d_M_fails_57 : decode b_M_fails 57 = .ok (.getfield 35, 3) := by decide +kernel
theorem d_M_fails_60 : decode b_M_fails 60 = .ok (.iload_n 2, 1) := by decide +kernel
theorem d_M_fails_61 : decode b_M_fails 61 = .ok (.iaload, 1) := by decide +kernel
theorem d_M_fails_62 : decode b_M_fails 62 = .ok (.ifCond .ne 8, 3) := by decide +kernel
theorem d_M_fails_65 : decode b_M_fails 65 = .ok (.aload_n 0, 1) := by decide +kernel
theorem d_M_fails_66 : decode b_M_fails 66 = .ok (.iconst 0, 1) := by decide +kernel
theorem d_M_fails_67 : decode b_M_fails 67 = .ok (.putfield 132, 3) := by decide +kernel
theorem d_M_fails_70 : decode b_M_fails 70 = .ok (.iload_n 1, 1) := by decide +kernel
theorem d_M_fails_71 : decode b_M_fails 71 = .ok (.iconst 2, 1) := by decide +kernel
theorem d_M_fails_72 : decode b_M_fails 72 = .ok (.if_icmp .ne 8, 3) := by decide +kernel
theorem d_M_fails_75 : decode b_M_fails 75 = .ok (.aload_n 0, 1) := by decide +kernel
theorem d_M_fails_76 : decode b_M_fails 76 = .ok (.iload_n 2, 1) := by decide +kernel
theorem d_M_fails_77 : decode b_M_fails 77 = .ok (.invokevirtual 145, 3) := by decide +kernel
theorem d_M_fails_80 : decode b_M_fails 80 = .ok (.iload_n 1, 1) := by decide +kernel
theorem d_M_fails_81 : decode b_M_fails 81 = .ok (.iconst 3, 1) := by decide +kernel
theorem d_M_fails_82 : decode b_M_fails 82 = .ok (.if_icmp .ne 8, 3) := by decide +kernel
theorem d_M_fails_85 : decode b_M_fails 85 = .ok (.aload_n 0, 1) := by decide +kernel
theorem d_M_fails_86 : decode b_M_fails 86 = .ok (.iload_n 2, 1) := by decide +kernel
theorem d_M_fails_87 : decode b_M_fails 87 = .ok (.invokevirtual 148, 3) := by decide +kernel
theorem d_M_fails_90 : decode b_M_fails 90 = .ok (.iload_n 1, 1) := by decide +kernel
theorem d_M_fails_91 : decode b_M_fails 91 = .ok (.iconst 4, 1) := by decide +kernel
theorem d_M_fails_92 : decode b_M_fails 92 = .ok (.if_icmp .ne 8, 3) := by decide +kernel
theorem d_M_fails_95 : decode b_M_fails 95 = .ok (.aload_n 0, 1) := by decide +kernel
theorem d_M_fails_96 : decode b_M_fails 96 = .ok (.iload_n 2, 1) := by decide +kernel
theorem d_M_fails_97 : decode b_M_fails 97 = .ok (.invokevirtual 151, 3) := by decide +kernel
theorem d_M_fails_100 : decode b_M_fails 100 = .ok (.aload_n 0, 1) := by decide +kernel
theorem d_M_fails_101 : decode b_M_fails 101 = .ok (.getfield 132, 3) := by decide +kernel
theorem d_M_fails_104 : decode b_M_fails 104 = .ok (.ifCond .lt 7, 3) := by decide +kernel
theorem d_M_fails_107 : decode b_M_fails 107 = .ok (.iconst 1, 1) := by decide +kernel
theorem d_M_fails_108 : decode b_M_fails 108 = .ok (.goto 4, 3) := by decide +kernel
theorem d_M_fails_111 : decode b_M_fails 111 = .ok (.iconst 0, 1) := by decide +kernel
theorem d_M_fails_112 : decode b_M_fails 112 = .ok (.ireturn, 1) := by decide +kernel
theorem m_M_fails : fk_MI y_M_fails b_M_fails 3 (some .boolean) 2 := ⟨i_782, i_781, fk_mp (q := (y_M_fails, 31)) (by decide +kernel), i_8, by decide +kernel⟩
set_option maxHeartbeats 4000000 in
set_option maxRecDepth 100000 in
theorem c_M_fails (l : Launch) (g : fk_G) (ov : Int64) (M : fk_M) (cnt : Nat) (cl N P : Nat → Nat) (bb sp sl : Nat → Nat → Nat) (hRS : fk_RS M cnt cl N P bb sp sl) (rule f : Nat) (hr1 : 1 ≤ rule) (hr5 : rule ≤ 5) (hf : f < cnt) (h4 : rule = 4 → M 91 f = 0 → ¬ M 98 f = 0) : fk_CI l y_M_fails b_M_fails 3 (some .boolean) (fk_rm 3) g ov M (fk_fm P bb sp sl rule f M) [.ref (fk_a g 89), .int (nI rule), .int (nI f)] (nI (decide (¬ fk_fm P bb sp sl rule f M 89 30 < 0)).toNat) := by
  refine fk_ofI rfl (Nat.le_of_ble_eq_true rfl) ?_
  intro p e s m args below meth c ls S hr hlk E G hl
  have hl : lv_has ls 3 [(0, .ref (fk_a g 89)), (1, .int (nI rule)), (2, .int (nI f))] := hl
  have hcnt := hRS.1
  rcases (show rule = 1 ∨ rule = 2 ∨ rule = 3 ∨ rule = 4 ∨ rule = 5 by omega) with rfl | rfl | rfl | rfl | rfl
  · refine lv_aload_n S.1 S.2.1 d_M_fails_0 rfl (lv_at hl 0 rfl) ?_
    refine lv_iconst (v := -1) S.1 S.2.1 d_M_fails_1 (by decide +kernel) ?_
    refine fk_pf S E G 89 (by decide) (congrArg (fk_ce g ov 89 (M 89)) kd_89) rfl 30 (by decide) rfl i_652 (upd (M 89) 30 (-1)) (congrArg (fk_ce g ov 89 (upd (M 89) 30 (-1))) kd_89) rfl (ty := (.int)) (by decide +kernel) rfl rfl (Nat.le_of_ble_eq_true rfl) d_M_fails_2 (fun H locs G => ?_)
    obtain ⟨M1, hM1⟩ : ∃ z : fk_M, z = va_up M 89 (upd (M 89) 30 (-1)) := ⟨_, rfl⟩
    rw [← hM1] at G
    refine lv_iload_n S.1 S.2.1 d_M_fails_5 rfl (lv_at hl 1 rfl) ?_
    refine lv_iconst (v := nI 5) S.1 S.2.1 d_M_fails_6 (by decide +kernel) ?_
    refine fk_cne (tgt := 29) S.1 S.2.1 (by decide) (by decide) d_M_fails_7 rfl (fun hc2 => ?_) (fun hc2 => ?_)
    · have hfa : fk_fam 1 f M = M1 := by unfold fk_fam; rw [if_neg (fun q => hc2 q.1), hM1] <;> rfl
      have hqa : fk_Rq M M1 := by rw [← hfa]; exact fk_fam_Rq (.refl _) _ _
      have hq98 : M1 98 = M 98 := hqa.2.2.2.2.1
      obtain ⟨-, -, hRi⟩ := hRS.of hqa
      obtain ⟨a1, a2, b1, b2, b3, b4, b5, b6, b7, b8⟩ := hRi f hf
      refine lv_aload_n S.1 S.2.1 d_M_fails_29 rfl (lv_at hl 0 rfl) ?_
      refine fk_gf S E G 89 (by decide) (v := .ref (fk_a g 91)) (congrArg (fk_ce g ov 89 (M1 89)) kd_89) rfl 3 (by decide) rfl i_625 rfl d_M_fails_30 ?_
      refine lv_iload_n S.1 S.2.1 d_M_fails_33 rfl (lv_at hl 2 rfl) ?_
      refine fk_za S E G 91 (by decide) (congrArg (fk_ce g ov 91 (M1 91)) kd_91) f rfl (by omega) (by decide) (v := M 91 f) (by rw [hqa.2.2.1]) d_M_fails_34 ?_
      refine lv_if_eq (tgt := 51) S.1 S.2.1 d_M_fails_35 rfl (fun hc3 => ?_) (fun hc3 => ?_)
      · have hinp := hc3
        refine lv_iload_n S.1 S.2.1 d_M_fails_51 rfl (lv_at hl 1 rfl) ?_
        refine lv_iconst (v := nI 1) S.1 S.2.1 d_M_fails_52 (by decide +kernel) ?_
        refine fk_cne (tgt := 70) S.1 S.2.1 (by decide) (by decide) d_M_fails_53 rfl (fun hc4 => ?_) (fun hc4 => ?_)
        · exact absurd rfl hc4
        · refine lv_aload_n S.1 S.2.1 d_M_fails_56 rfl (lv_at hl 0 rfl) ?_
          refine fk_gf S E G 89 (by decide) (v := .ref (fk_a g 98)) (congrArg (fk_ce g ov 89 (M1 89)) kd_89) rfl 10 (by decide) rfl i_632 rfl d_M_fails_57 ?_
          refine lv_iload_n S.1 S.2.1 d_M_fails_60 rfl (lv_at hl 2 rfl) ?_
          refine fk_ia S E G 98 (by decide) (congrArg (fk_ce g ov 98 (M1 98)) kd_98) f rfl (by omega) (by decide) (v := M 98 f) (by rw [hq98]) d_M_fails_61 ?_
          refine lv_if_ne (tgt := 70) S.1 S.2.1 d_M_fails_62 rfl (fun hc5 => ?_) (fun hc5 => ?_)
          · refine lv_iload_n S.1 S.2.1 d_M_fails_70 rfl (lv_at hl 1 rfl) ?_
            refine lv_iconst (v := nI 2) S.1 S.2.1 d_M_fails_71 (by decide +kernel) ?_
            refine fk_cne (tgt := 80) S.1 S.2.1 (by decide) (by decide) d_M_fails_72 rfl (fun hc6 => ?_) (fun hc6 => ?_)
            · refine lv_iload_n S.1 S.2.1 d_M_fails_80 rfl (lv_at hl 1 rfl) ?_
              refine lv_iconst (v := nI 3) S.1 S.2.1 d_M_fails_81 (by decide +kernel) ?_
              refine fk_cne (tgt := 90) S.1 S.2.1 (by decide) (by decide) d_M_fails_82 rfl (fun hc7 => ?_) (fun hc7 => ?_)
              · refine lv_iload_n S.1 S.2.1 d_M_fails_90 rfl (lv_at hl 1 rfl) ?_
                refine lv_iconst (v := nI 4) S.1 S.2.1 d_M_fails_91 (by decide +kernel) ?_
                refine fk_cne (tgt := 100) S.1 S.2.1 (by decide) (by decide) d_M_fails_92 rfl (fun hc8 => ?_) (fun hc8 => ?_)
                · refine lv_aload_n S.1 S.2.1 d_M_fails_100 rfl (lv_at hl 0 rfl) ?_
                  refine fk_gf S E G 89 (by decide) (v := .int (M1 89 30)) (congrArg (fk_ce g ov 89 (M1 89)) kd_89) rfl 30 (by decide) rfl i_652 rfl d_M_fails_101 ?_
                  have hfin : fk_fm P bb sp sl 1 f M = M1 := by
                    unfold fk_fm
                    rw [if_pos hinp, hfa]; show fk_fbm P bb sp sl 1 f M1 = _; exact if_neg (fun q => hc5 (hq98 ▸ q))
                  rw [hfin]
                  refine lv_if_lt (tgt := 111) S.1 S.2.1 d_M_fails_104 rfl (fun hc9 => ?_) (fun hc9 => ?_)
                  · refine lv_iconst (v := nI 0) S.1 S.2.1 d_M_fails_111 (by decide +kernel) ?_
                    exact fk_zret S hr hlk E G rfl (fk_b0 (decide_eq_false (fun q => q hc9))) (fk_bz _) d_M_fails_112
                  · refine lv_iconst (v := nI 1) S.1 S.2.1 d_M_fails_107 (by decide +kernel) ?_
                    refine lv_goto (tgt := 112) S.1 S.2.1 d_M_fails_108 rfl ?_
                    exact fk_zret S hr hlk E G rfl (fk_b1 (decide_eq_true hc9)) (fk_bz _) d_M_fails_112
                · exact absurd hc8 (by decide)
              · exact absurd hc7 (by decide)
            · exact absurd hc6 (by decide)
          · refine lv_aload_n S.1 S.2.1 d_M_fails_65 rfl (lv_at hl 0 rfl) ?_
            refine lv_iconst (v := nI 0) S.1 S.2.1 d_M_fails_66 (by decide +kernel) ?_
            refine fk_pf S E G 89 (by decide) (congrArg (fk_ce g ov 89 (M1 89)) kd_89) rfl 30 (by decide) rfl i_652 (upd (M1 89) 30 (nI 0)) (congrArg (fk_ce g ov 89 (upd (M1 89) 30 (nI 0))) kd_89) rfl (ty := (.int)) (by decide +kernel) rfl rfl (Nat.le_of_ble_eq_true rfl) d_M_fails_67 (fun H locs G => ?_)
            obtain ⟨M10, hM10⟩ : ∃ z : fk_M, z = va_up M1 89 (upd (M1 89) 30 (nI 0)) := ⟨_, rfl⟩
            rw [← hM10] at G
            refine lv_iload_n S.1 S.2.1 d_M_fails_70 rfl (lv_at hl 1 rfl) ?_
            refine lv_iconst (v := nI 2) S.1 S.2.1 d_M_fails_71 (by decide +kernel) ?_
            refine fk_cne (tgt := 80) S.1 S.2.1 (by decide) (by decide) d_M_fails_72 rfl (fun hc11 => ?_) (fun hc11 => ?_)
            · refine lv_iload_n S.1 S.2.1 d_M_fails_80 rfl (lv_at hl 1 rfl) ?_
              refine lv_iconst (v := nI 3) S.1 S.2.1 d_M_fails_81 (by decide +kernel) ?_
              refine fk_cne (tgt := 90) S.1 S.2.1 (by decide) (by decide) d_M_fails_82 rfl (fun hc12 => ?_) (fun hc12 => ?_)
              · refine lv_iload_n S.1 S.2.1 d_M_fails_90 rfl (lv_at hl 1 rfl) ?_
                refine lv_iconst (v := nI 4) S.1 S.2.1 d_M_fails_91 (by decide +kernel) ?_
                refine fk_cne (tgt := 100) S.1 S.2.1 (by decide) (by decide) d_M_fails_92 rfl (fun hc13 => ?_) (fun hc13 => ?_)
                · refine lv_aload_n S.1 S.2.1 d_M_fails_100 rfl (lv_at hl 0 rfl) ?_
                  refine fk_gf S E G 89 (by decide) (v := .int (M10 89 30)) (congrArg (fk_ce g ov 89 (M10 89)) kd_89) rfl 30 (by decide) rfl i_652 rfl d_M_fails_101 ?_
                  have hfin : fk_fm P bb sp sl 1 f M = M10 := by
                    unfold fk_fm
                    rw [if_pos hinp, hfa]; show fk_fbm P bb sp sl 1 f M1 = _; rw [hM10]; exact if_pos (by rw [hq98]; exact hc5)
                  rw [hfin]
                  refine lv_if_lt (tgt := 111) S.1 S.2.1 d_M_fails_104 rfl (fun hc14 => ?_) (fun hc14 => ?_)
                  · refine lv_iconst (v := nI 0) S.1 S.2.1 d_M_fails_111 (by decide +kernel) ?_
                    exact fk_zret S hr hlk E G rfl (fk_b0 (decide_eq_false (fun q => q hc14))) (fk_bz _) d_M_fails_112
                  · refine lv_iconst (v := nI 1) S.1 S.2.1 d_M_fails_107 (by decide +kernel) ?_
                    refine lv_goto (tgt := 112) S.1 S.2.1 d_M_fails_108 rfl ?_
                    exact fk_zret S hr hlk E G rfl (fk_b1 (decide_eq_true hc14)) (fk_bz _) d_M_fails_112
                · exact absurd hc13 (by decide)
              · exact absurd hc12 (by decide)
            · exact absurd hc11 (by decide)
      · refine lv_aload_n S.1 S.2.1 d_M_fails_38 rfl (lv_at hl 0 rfl) ?_
        refine fk_gf S E G 89 (by decide) (v := .int (M1 89 30)) (congrArg (fk_ce g ov 89 (M1 89)) kd_89) rfl 30 (by decide) rfl i_652 rfl d_M_fails_39 ?_
        have hfin : fk_fm P bb sp sl 1 f M = M1 := by
          unfold fk_fm
          rw [if_neg hc3, hfa]
        rw [hfin]
        refine lv_if_lt (tgt := 49) S.1 S.2.1 d_M_fails_42 rfl (fun hc15 => ?_) (fun hc15 => ?_)
        · refine lv_iconst (v := nI 0) S.1 S.2.1 d_M_fails_49 (by decide +kernel) ?_
          exact fk_zret S hr hlk E G rfl (fk_b0 (decide_eq_false (fun q => q hc15))) (fk_bz _) d_M_fails_50
        · refine lv_iconst (v := nI 1) S.1 S.2.1 d_M_fails_45 (by decide +kernel) ?_
          refine lv_goto (tgt := 50) S.1 S.2.1 d_M_fails_46 rfl ?_
          exact fk_zret S hr hlk E G rfl (fk_b1 (decide_eq_true hc15)) (fk_bz _) d_M_fails_50
    · exact absurd hc2 (by decide)
  · refine lv_aload_n S.1 S.2.1 d_M_fails_0 rfl (lv_at hl 0 rfl) ?_
    refine lv_iconst (v := -1) S.1 S.2.1 d_M_fails_1 (by decide +kernel) ?_
    refine fk_pf S E G 89 (by decide) (congrArg (fk_ce g ov 89 (M 89)) kd_89) rfl 30 (by decide) rfl i_652 (upd (M 89) 30 (-1)) (congrArg (fk_ce g ov 89 (upd (M 89) 30 (-1))) kd_89) rfl (ty := (.int)) (by decide +kernel) rfl rfl (Nat.le_of_ble_eq_true rfl) d_M_fails_2 (fun H locs G => ?_)
    obtain ⟨M16, hM16⟩ : ∃ z : fk_M, z = va_up M 89 (upd (M 89) 30 (-1)) := ⟨_, rfl⟩
    rw [← hM16] at G
    refine lv_iload_n S.1 S.2.1 d_M_fails_5 rfl (lv_at hl 1 rfl) ?_
    refine lv_iconst (v := nI 5) S.1 S.2.1 d_M_fails_6 (by decide +kernel) ?_
    refine fk_cne (tgt := 29) S.1 S.2.1 (by decide) (by decide) d_M_fails_7 rfl (fun hc17 => ?_) (fun hc17 => ?_)
    · have hfa : fk_fam 2 f M = M16 := by unfold fk_fam; rw [if_neg (fun q => hc17 q.1), hM16] <;> rfl
      have hqa : fk_Rq M M16 := by rw [← hfa]; exact fk_fam_Rq (.refl _) _ _
      have hq98 : M16 98 = M 98 := hqa.2.2.2.2.1
      obtain ⟨-, -, hRi⟩ := hRS.of hqa
      obtain ⟨a1, a2, b1, b2, b3, b4, b5, b6, b7, b8⟩ := hRi f hf
      refine lv_aload_n S.1 S.2.1 d_M_fails_29 rfl (lv_at hl 0 rfl) ?_
      refine fk_gf S E G 89 (by decide) (v := .ref (fk_a g 91)) (congrArg (fk_ce g ov 89 (M16 89)) kd_89) rfl 3 (by decide) rfl i_625 rfl d_M_fails_30 ?_
      refine lv_iload_n S.1 S.2.1 d_M_fails_33 rfl (lv_at hl 2 rfl) ?_
      refine fk_za S E G 91 (by decide) (congrArg (fk_ce g ov 91 (M16 91)) kd_91) f rfl (by omega) (by decide) (v := M 91 f) (by rw [hqa.2.2.1]) d_M_fails_34 ?_
      refine lv_if_eq (tgt := 51) S.1 S.2.1 d_M_fails_35 rfl (fun hc18 => ?_) (fun hc18 => ?_)
      · have hinp := hc18
        refine lv_iload_n S.1 S.2.1 d_M_fails_51 rfl (lv_at hl 1 rfl) ?_
        refine lv_iconst (v := nI 1) S.1 S.2.1 d_M_fails_52 (by decide +kernel) ?_
        refine fk_cne (tgt := 70) S.1 S.2.1 (by decide) (by decide) d_M_fails_53 rfl (fun hc19 => ?_) (fun hc19 => ?_)
        · refine lv_iload_n S.1 S.2.1 d_M_fails_70 rfl (lv_at hl 1 rfl) ?_
          refine lv_iconst (v := nI 2) S.1 S.2.1 d_M_fails_71 (by decide +kernel) ?_
          refine fk_cne (tgt := 80) S.1 S.2.1 (by decide) (by decide) d_M_fails_72 rfl (fun hc20 => ?_) (fun hc20 => ?_)
          · exact absurd rfl hc20
          · refine lv_aload_n S.1 S.2.1 d_M_fails_75 rfl (lv_at hl 0 rfl) ?_
            refine lv_iload_n S.1 S.2.1 d_M_fails_76 rfl (lv_at hl 2 rfl) ?_
            refine fk_cvv S E G 89 (by decide) (congrArg (fk_ce g ov 89 (M16 89)) kd_89) rfl (rest := []) (show fk_CV _ _ _ _ _ _ _ _ (fk_fbm P bb sp sl 2 f M16) _ from c_M_types l g ov M16 f (by omega) (bb f) (N f) cnt (sp f) (sl f) (P f) b1 hcnt b2 b3 b4 b5 b6 b7) m_M_types i_783 ⟨rfl, rfl⟩ ⟨by decide, by decide⟩ rfl rfl hl.1 (Nat.le_of_ble_eq_true rfl) d_M_fails_77 ⟨Nat.zero_le _, Nat.zero_le _⟩ (fun H locs G => ?_)
            obtain ⟨Mz, hMz⟩ : ∃ z : fk_M, z = fk_fbm P bb sp sl 2 f M16 := ⟨_, rfl⟩
            rw [← hMz] at G
            refine lv_iload_n S.1 S.2.1 d_M_fails_80 rfl (lv_at hl 1 rfl) ?_
            refine lv_iconst (v := nI 3) S.1 S.2.1 d_M_fails_81 (by decide +kernel) ?_
            refine fk_cne (tgt := 90) S.1 S.2.1 (by decide) (by decide) d_M_fails_82 rfl (fun hc21 => ?_) (fun hc21 => ?_)
            · refine lv_iload_n S.1 S.2.1 d_M_fails_90 rfl (lv_at hl 1 rfl) ?_
              refine lv_iconst (v := nI 4) S.1 S.2.1 d_M_fails_91 (by decide +kernel) ?_
              refine fk_cne (tgt := 100) S.1 S.2.1 (by decide) (by decide) d_M_fails_92 rfl (fun hc22 => ?_) (fun hc22 => ?_)
              · refine lv_aload_n S.1 S.2.1 d_M_fails_100 rfl (lv_at hl 0 rfl) ?_
                refine fk_gf S E G 89 (by decide) (v := .int (Mz 89 30)) (congrArg (fk_ce g ov 89 (Mz 89)) kd_89) rfl 30 (by decide) rfl i_652 rfl d_M_fails_101 ?_
                have hfin : fk_fm P bb sp sl 2 f M = Mz := by
                  unfold fk_fm
                  rw [if_pos hinp, hfa, hMz]
                rw [hfin]
                refine lv_if_lt (tgt := 111) S.1 S.2.1 d_M_fails_104 rfl (fun hc23 => ?_) (fun hc23 => ?_)
                · refine lv_iconst (v := nI 0) S.1 S.2.1 d_M_fails_111 (by decide +kernel) ?_
                  exact fk_zret S hr hlk E G rfl (fk_b0 (decide_eq_false (fun q => q hc23))) (fk_bz _) d_M_fails_112
                · refine lv_iconst (v := nI 1) S.1 S.2.1 d_M_fails_107 (by decide +kernel) ?_
                  refine lv_goto (tgt := 112) S.1 S.2.1 d_M_fails_108 rfl ?_
                  exact fk_zret S hr hlk E G rfl (fk_b1 (decide_eq_true hc23)) (fk_bz _) d_M_fails_112
              · exact absurd hc22 (by decide)
            · exact absurd hc21 (by decide)
        · exact absurd hc19 (by decide)
      · refine lv_aload_n S.1 S.2.1 d_M_fails_38 rfl (lv_at hl 0 rfl) ?_
        refine fk_gf S E G 89 (by decide) (v := .int (M16 89 30)) (congrArg (fk_ce g ov 89 (M16 89)) kd_89) rfl 30 (by decide) rfl i_652 rfl d_M_fails_39 ?_
        have hfin : fk_fm P bb sp sl 2 f M = M16 := by
          unfold fk_fm
          rw [if_neg hc18, hfa]
        rw [hfin]
        refine lv_if_lt (tgt := 49) S.1 S.2.1 d_M_fails_42 rfl (fun hc24 => ?_) (fun hc24 => ?_)
        · refine lv_iconst (v := nI 0) S.1 S.2.1 d_M_fails_49 (by decide +kernel) ?_
          exact fk_zret S hr hlk E G rfl (fk_b0 (decide_eq_false (fun q => q hc24))) (fk_bz _) d_M_fails_50
        · refine lv_iconst (v := nI 1) S.1 S.2.1 d_M_fails_45 (by decide +kernel) ?_
          refine lv_goto (tgt := 50) S.1 S.2.1 d_M_fails_46 rfl ?_
          exact fk_zret S hr hlk E G rfl (fk_b1 (decide_eq_true hc24)) (fk_bz _) d_M_fails_50
    · exact absurd hc17 (by decide)
  · refine lv_aload_n S.1 S.2.1 d_M_fails_0 rfl (lv_at hl 0 rfl) ?_
    refine lv_iconst (v := -1) S.1 S.2.1 d_M_fails_1 (by decide +kernel) ?_
    refine fk_pf S E G 89 (by decide) (congrArg (fk_ce g ov 89 (M 89)) kd_89) rfl 30 (by decide) rfl i_652 (upd (M 89) 30 (-1)) (congrArg (fk_ce g ov 89 (upd (M 89) 30 (-1))) kd_89) rfl (ty := (.int)) (by decide +kernel) rfl rfl (Nat.le_of_ble_eq_true rfl) d_M_fails_2 (fun H locs G => ?_)
    obtain ⟨M25, hM25⟩ : ∃ z : fk_M, z = va_up M 89 (upd (M 89) 30 (-1)) := ⟨_, rfl⟩
    rw [← hM25] at G
    refine lv_iload_n S.1 S.2.1 d_M_fails_5 rfl (lv_at hl 1 rfl) ?_
    refine lv_iconst (v := nI 5) S.1 S.2.1 d_M_fails_6 (by decide +kernel) ?_
    refine fk_cne (tgt := 29) S.1 S.2.1 (by decide) (by decide) d_M_fails_7 rfl (fun hc26 => ?_) (fun hc26 => ?_)
    · have hfa : fk_fam 3 f M = M25 := by unfold fk_fam; rw [if_neg (fun q => hc26 q.1), hM25] <;> rfl
      have hqa : fk_Rq M M25 := by rw [← hfa]; exact fk_fam_Rq (.refl _) _ _
      have hq98 : M25 98 = M 98 := hqa.2.2.2.2.1
      obtain ⟨-, -, hRi⟩ := hRS.of hqa
      obtain ⟨a1, a2, b1, b2, b3, b4, b5, b6, b7, b8⟩ := hRi f hf
      refine lv_aload_n S.1 S.2.1 d_M_fails_29 rfl (lv_at hl 0 rfl) ?_
      refine fk_gf S E G 89 (by decide) (v := .ref (fk_a g 91)) (congrArg (fk_ce g ov 89 (M25 89)) kd_89) rfl 3 (by decide) rfl i_625 rfl d_M_fails_30 ?_
      refine lv_iload_n S.1 S.2.1 d_M_fails_33 rfl (lv_at hl 2 rfl) ?_
      refine fk_za S E G 91 (by decide) (congrArg (fk_ce g ov 91 (M25 91)) kd_91) f rfl (by omega) (by decide) (v := M 91 f) (by rw [hqa.2.2.1]) d_M_fails_34 ?_
      refine lv_if_eq (tgt := 51) S.1 S.2.1 d_M_fails_35 rfl (fun hc27 => ?_) (fun hc27 => ?_)
      · have hinp := hc27
        refine lv_iload_n S.1 S.2.1 d_M_fails_51 rfl (lv_at hl 1 rfl) ?_
        refine lv_iconst (v := nI 1) S.1 S.2.1 d_M_fails_52 (by decide +kernel) ?_
        refine fk_cne (tgt := 70) S.1 S.2.1 (by decide) (by decide) d_M_fails_53 rfl (fun hc28 => ?_) (fun hc28 => ?_)
        · refine lv_iload_n S.1 S.2.1 d_M_fails_70 rfl (lv_at hl 1 rfl) ?_
          refine lv_iconst (v := nI 2) S.1 S.2.1 d_M_fails_71 (by decide +kernel) ?_
          refine fk_cne (tgt := 80) S.1 S.2.1 (by decide) (by decide) d_M_fails_72 rfl (fun hc29 => ?_) (fun hc29 => ?_)
          · refine lv_iload_n S.1 S.2.1 d_M_fails_80 rfl (lv_at hl 1 rfl) ?_
            refine lv_iconst (v := nI 3) S.1 S.2.1 d_M_fails_81 (by decide +kernel) ?_
            refine fk_cne (tgt := 90) S.1 S.2.1 (by decide) (by decide) d_M_fails_82 rfl (fun hc30 => ?_) (fun hc30 => ?_)
            · exact absurd rfl hc30
            · refine lv_aload_n S.1 S.2.1 d_M_fails_85 rfl (lv_at hl 0 rfl) ?_
              refine lv_iload_n S.1 S.2.1 d_M_fails_86 rfl (lv_at hl 2 rfl) ?_
              refine fk_cvv S E G 89 (by decide) (congrArg (fk_ce g ov 89 (M25 89)) kd_89) rfl (rest := []) (show fk_CV _ _ _ _ _ _ _ _ (fk_fbm P bb sp sl 3 f M25) _ from c_M_clocks l g ov M25 f (by omega) (bb f) (N f) cnt (sp f) (sl f) (P f) b1 hcnt b2 b3 b4 b5 b6 b7) m_M_clocks i_791 ⟨rfl, rfl⟩ ⟨by decide, by decide⟩ rfl rfl hl.1 (Nat.le_of_ble_eq_true rfl) d_M_fails_87 ⟨Nat.zero_le _, Nat.zero_le _⟩ (fun H locs G => ?_)
              obtain ⟨Mz, hMz⟩ : ∃ z : fk_M, z = fk_fbm P bb sp sl 3 f M25 := ⟨_, rfl⟩
              rw [← hMz] at G
              refine lv_iload_n S.1 S.2.1 d_M_fails_90 rfl (lv_at hl 1 rfl) ?_
              refine lv_iconst (v := nI 4) S.1 S.2.1 d_M_fails_91 (by decide +kernel) ?_
              refine fk_cne (tgt := 100) S.1 S.2.1 (by decide) (by decide) d_M_fails_92 rfl (fun hc31 => ?_) (fun hc31 => ?_)
              · refine lv_aload_n S.1 S.2.1 d_M_fails_100 rfl (lv_at hl 0 rfl) ?_
                refine fk_gf S E G 89 (by decide) (v := .int (Mz 89 30)) (congrArg (fk_ce g ov 89 (Mz 89)) kd_89) rfl 30 (by decide) rfl i_652 rfl d_M_fails_101 ?_
                have hfin : fk_fm P bb sp sl 3 f M = Mz := by
                  unfold fk_fm
                  rw [if_pos hinp, hfa, hMz]
                rw [hfin]
                refine lv_if_lt (tgt := 111) S.1 S.2.1 d_M_fails_104 rfl (fun hc32 => ?_) (fun hc32 => ?_)
                · refine lv_iconst (v := nI 0) S.1 S.2.1 d_M_fails_111 (by decide +kernel) ?_
                  exact fk_zret S hr hlk E G rfl (fk_b0 (decide_eq_false (fun q => q hc32))) (fk_bz _) d_M_fails_112
                · refine lv_iconst (v := nI 1) S.1 S.2.1 d_M_fails_107 (by decide +kernel) ?_
                  refine lv_goto (tgt := 112) S.1 S.2.1 d_M_fails_108 rfl ?_
                  exact fk_zret S hr hlk E G rfl (fk_b1 (decide_eq_true hc32)) (fk_bz _) d_M_fails_112
              · exact absurd hc31 (by decide)
          · exact absurd hc29 (by decide)
        · exact absurd hc28 (by decide)
      · refine lv_aload_n S.1 S.2.1 d_M_fails_38 rfl (lv_at hl 0 rfl) ?_
        refine fk_gf S E G 89 (by decide) (v := .int (M25 89 30)) (congrArg (fk_ce g ov 89 (M25 89)) kd_89) rfl 30 (by decide) rfl i_652 rfl d_M_fails_39 ?_
        have hfin : fk_fm P bb sp sl 3 f M = M25 := by
          unfold fk_fm
          rw [if_neg hc27, hfa]
        rw [hfin]
        refine lv_if_lt (tgt := 49) S.1 S.2.1 d_M_fails_42 rfl (fun hc33 => ?_) (fun hc33 => ?_)
        · refine lv_iconst (v := nI 0) S.1 S.2.1 d_M_fails_49 (by decide +kernel) ?_
          exact fk_zret S hr hlk E G rfl (fk_b0 (decide_eq_false (fun q => q hc33))) (fk_bz _) d_M_fails_50
        · refine lv_iconst (v := nI 1) S.1 S.2.1 d_M_fails_45 (by decide +kernel) ?_
          refine lv_goto (tgt := 50) S.1 S.2.1 d_M_fails_46 rfl ?_
          exact fk_zret S hr hlk E G rfl (fk_b1 (decide_eq_true hc33)) (fk_bz _) d_M_fails_50
    · exact absurd hc26 (by decide)
  · refine lv_aload_n S.1 S.2.1 d_M_fails_0 rfl (lv_at hl 0 rfl) ?_
    refine lv_iconst (v := -1) S.1 S.2.1 d_M_fails_1 (by decide +kernel) ?_
    refine fk_pf S E G 89 (by decide) (congrArg (fk_ce g ov 89 (M 89)) kd_89) rfl 30 (by decide) rfl i_652 (upd (M 89) 30 (-1)) (congrArg (fk_ce g ov 89 (upd (M 89) 30 (-1))) kd_89) rfl (ty := (.int)) (by decide +kernel) rfl rfl (Nat.le_of_ble_eq_true rfl) d_M_fails_2 (fun H locs G => ?_)
    obtain ⟨M34, hM34⟩ : ∃ z : fk_M, z = va_up M 89 (upd (M 89) 30 (-1)) := ⟨_, rfl⟩
    rw [← hM34] at G
    refine lv_iload_n S.1 S.2.1 d_M_fails_5 rfl (lv_at hl 1 rfl) ?_
    refine lv_iconst (v := nI 5) S.1 S.2.1 d_M_fails_6 (by decide +kernel) ?_
    refine fk_cne (tgt := 29) S.1 S.2.1 (by decide) (by decide) d_M_fails_7 rfl (fun hc35 => ?_) (fun hc35 => ?_)
    · have hfa : fk_fam 4 f M = M34 := by unfold fk_fam; rw [if_neg (fun q => hc35 q.1), hM34] <;> rfl
      have hqa : fk_Rq M M34 := by rw [← hfa]; exact fk_fam_Rq (.refl _) _ _
      have hq98 : M34 98 = M 98 := hqa.2.2.2.2.1
      obtain ⟨-, -, hRi⟩ := hRS.of hqa
      obtain ⟨a1, a2, b1, b2, b3, b4, b5, b6, b7, b8⟩ := hRi f hf
      refine lv_aload_n S.1 S.2.1 d_M_fails_29 rfl (lv_at hl 0 rfl) ?_
      refine fk_gf S E G 89 (by decide) (v := .ref (fk_a g 91)) (congrArg (fk_ce g ov 89 (M34 89)) kd_89) rfl 3 (by decide) rfl i_625 rfl d_M_fails_30 ?_
      refine lv_iload_n S.1 S.2.1 d_M_fails_33 rfl (lv_at hl 2 rfl) ?_
      refine fk_za S E G 91 (by decide) (congrArg (fk_ce g ov 91 (M34 91)) kd_91) f rfl (by omega) (by decide) (v := M 91 f) (by rw [hqa.2.2.1]) d_M_fails_34 ?_
      refine lv_if_eq (tgt := 51) S.1 S.2.1 d_M_fails_35 rfl (fun hc36 => ?_) (fun hc36 => ?_)
      · have hinp := hc36
        refine lv_iload_n S.1 S.2.1 d_M_fails_51 rfl (lv_at hl 1 rfl) ?_
        refine lv_iconst (v := nI 1) S.1 S.2.1 d_M_fails_52 (by decide +kernel) ?_
        refine fk_cne (tgt := 70) S.1 S.2.1 (by decide) (by decide) d_M_fails_53 rfl (fun hc37 => ?_) (fun hc37 => ?_)
        · refine lv_iload_n S.1 S.2.1 d_M_fails_70 rfl (lv_at hl 1 rfl) ?_
          refine lv_iconst (v := nI 2) S.1 S.2.1 d_M_fails_71 (by decide +kernel) ?_
          refine fk_cne (tgt := 80) S.1 S.2.1 (by decide) (by decide) d_M_fails_72 rfl (fun hc38 => ?_) (fun hc38 => ?_)
          · refine lv_iload_n S.1 S.2.1 d_M_fails_80 rfl (lv_at hl 1 rfl) ?_
            refine lv_iconst (v := nI 3) S.1 S.2.1 d_M_fails_81 (by decide +kernel) ?_
            refine fk_cne (tgt := 90) S.1 S.2.1 (by decide) (by decide) d_M_fails_82 rfl (fun hc39 => ?_) (fun hc39 => ?_)
            · refine lv_iload_n S.1 S.2.1 d_M_fails_90 rfl (lv_at hl 1 rfl) ?_
              refine lv_iconst (v := nI 4) S.1 S.2.1 d_M_fails_91 (by decide +kernel) ?_
              refine fk_cne (tgt := 100) S.1 S.2.1 (by decide) (by decide) d_M_fails_92 rfl (fun hc40 => ?_) (fun hc40 => ?_)
              · exact absurd rfl hc40
              · refine lv_aload_n S.1 S.2.1 d_M_fails_95 rfl (lv_at hl 0 rfl) ?_
                refine lv_iload_n S.1 S.2.1 d_M_fails_96 rfl (lv_at hl 2 rfl) ?_
                refine fk_cvv S E G 89 (by decide) (congrArg (fk_ce g ov 89 (M34 89)) kd_89) rfl (rest := []) (show fk_CV _ _ _ _ _ _ _ _ (fk_fbm P bb sp sl 4 f M34) _ from c_M_beginnings l g ov M34 f (by omega) (bb f) (N f) cnt (sp f) (sl f) (P f) b1 hcnt b2 b3 b4 b5 b6 b7 (b8 (by rw [hq98]; exact h4 rfl hinp))) m_M_beginnings i_795 ⟨rfl, rfl⟩ ⟨by decide, by decide⟩ rfl rfl hl.1 (Nat.le_of_ble_eq_true rfl) d_M_fails_97 ⟨Nat.zero_le _, Nat.zero_le _⟩ (fun H locs G => ?_)
                obtain ⟨Mz, hMz⟩ : ∃ z : fk_M, z = fk_fbm P bb sp sl 4 f M34 := ⟨_, rfl⟩
                rw [← hMz] at G
                refine lv_aload_n S.1 S.2.1 d_M_fails_100 rfl (lv_at hl 0 rfl) ?_
                refine fk_gf S E G 89 (by decide) (v := .int (Mz 89 30)) (congrArg (fk_ce g ov 89 (Mz 89)) kd_89) rfl 30 (by decide) rfl i_652 rfl d_M_fails_101 ?_
                have hfin : fk_fm P bb sp sl 4 f M = Mz := by
                  unfold fk_fm
                  rw [if_pos hinp, hfa, hMz]
                rw [hfin]
                refine lv_if_lt (tgt := 111) S.1 S.2.1 d_M_fails_104 rfl (fun hc41 => ?_) (fun hc41 => ?_)
                · refine lv_iconst (v := nI 0) S.1 S.2.1 d_M_fails_111 (by decide +kernel) ?_
                  exact fk_zret S hr hlk E G rfl (fk_b0 (decide_eq_false (fun q => q hc41))) (fk_bz _) d_M_fails_112
                · refine lv_iconst (v := nI 1) S.1 S.2.1 d_M_fails_107 (by decide +kernel) ?_
                  refine lv_goto (tgt := 112) S.1 S.2.1 d_M_fails_108 rfl ?_
                  exact fk_zret S hr hlk E G rfl (fk_b1 (decide_eq_true hc41)) (fk_bz _) d_M_fails_112
            · exact absurd hc39 (by decide)
          · exact absurd hc38 (by decide)
        · exact absurd hc37 (by decide)
      · refine lv_aload_n S.1 S.2.1 d_M_fails_38 rfl (lv_at hl 0 rfl) ?_
        refine fk_gf S E G 89 (by decide) (v := .int (M34 89 30)) (congrArg (fk_ce g ov 89 (M34 89)) kd_89) rfl 30 (by decide) rfl i_652 rfl d_M_fails_39 ?_
        have hfin : fk_fm P bb sp sl 4 f M = M34 := by
          unfold fk_fm
          rw [if_neg hc36, hfa]
        rw [hfin]
        refine lv_if_lt (tgt := 49) S.1 S.2.1 d_M_fails_42 rfl (fun hc42 => ?_) (fun hc42 => ?_)
        · refine lv_iconst (v := nI 0) S.1 S.2.1 d_M_fails_49 (by decide +kernel) ?_
          exact fk_zret S hr hlk E G rfl (fk_b0 (decide_eq_false (fun q => q hc42))) (fk_bz _) d_M_fails_50
        · refine lv_iconst (v := nI 1) S.1 S.2.1 d_M_fails_45 (by decide +kernel) ?_
          refine lv_goto (tgt := 50) S.1 S.2.1 d_M_fails_46 rfl ?_
          exact fk_zret S hr hlk E G rfl (fk_b1 (decide_eq_true hc42)) (fk_bz _) d_M_fails_50
    · exact absurd hc35 (by decide)
  · refine lv_aload_n S.1 S.2.1 d_M_fails_0 rfl (lv_at hl 0 rfl) ?_
    refine lv_iconst (v := -1) S.1 S.2.1 d_M_fails_1 (by decide +kernel) ?_
    refine fk_pf S E G 89 (by decide) (congrArg (fk_ce g ov 89 (M 89)) kd_89) rfl 30 (by decide) rfl i_652 (upd (M 89) 30 (-1)) (congrArg (fk_ce g ov 89 (upd (M 89) 30 (-1))) kd_89) rfl (ty := (.int)) (by decide +kernel) rfl rfl (Nat.le_of_ble_eq_true rfl) d_M_fails_2 (fun H locs G => ?_)
    obtain ⟨M43, hM43⟩ : ∃ z : fk_M, z = va_up M 89 (upd (M 89) 30 (-1)) := ⟨_, rfl⟩
    rw [← hM43] at G
    refine lv_iload_n S.1 S.2.1 d_M_fails_5 rfl (lv_at hl 1 rfl) ?_
    refine lv_iconst (v := nI 5) S.1 S.2.1 d_M_fails_6 (by decide +kernel) ?_
    refine fk_cne (tgt := 29) S.1 S.2.1 (by decide) (by decide) d_M_fails_7 rfl (fun hc44 => ?_) (fun hc44 => ?_)
    · exact absurd rfl hc44
    · have e97 : M43 97 = M 97 := by rw [hM43, va_up_ne _ _ (by decide)]
      refine lv_aload_n S.1 S.2.1 d_M_fails_10 rfl (lv_at hl 0 rfl) ?_
      refine fk_gf S E G 89 (by decide) (v := .ref (fk_a g 97)) (congrArg (fk_ce g ov 89 (M43 89)) kd_89) rfl 9 (by decide) rfl i_631 rfl d_M_fails_11 ?_
      refine lv_iload_n S.1 S.2.1 d_M_fails_14 rfl (lv_at hl 2 rfl) ?_
      refine fk_ia S E G 97 (by decide) (congrArg (fk_ce g ov 97 (M43 97)) kd_97) f rfl (by omega) (by decide) (v := M 97 f) (by rw [e97]) d_M_fails_15 ?_
      refine lv_iload_n S.1 S.2.1 d_M_fails_16 rfl (lv_at hl 2 rfl) ?_
      refine lv_ishr S.1 S.2.1 d_M_fails_17 ?_
      refine lv_iconst (v := nI 1) S.1 S.2.1 d_M_fails_18 (by decide +kernel) ?_
      refine lv_iand S.1 S.2.1 d_M_fails_19 ?_
      refine lv_iconst (v := nI 1) S.1 S.2.1 d_M_fails_20 (by decide +kernel) ?_
      refine lv_icmp_ne (tgt := 29) S.1 S.2.1 d_M_fails_21 rfl (fun hc45 => ?_) (fun hc45 => ?_)
      · have hfa : fk_fam 5 f M = M43 := by unfold fk_fam; rw [if_neg (fun q => hc45 (of_decide_eq_true q.2)), hM43] <;> rfl
        have hqa : fk_Rq M M43 := by rw [← hfa]; exact fk_fam_Rq (.refl _) _ _
        have hq98 : M43 98 = M 98 := hqa.2.2.2.2.1
        obtain ⟨-, -, hRi⟩ := hRS.of hqa
        obtain ⟨a1, a2, b1, b2, b3, b4, b5, b6, b7, b8⟩ := hRi f hf
        refine lv_aload_n S.1 S.2.1 d_M_fails_29 rfl (lv_at hl 0 rfl) ?_
        refine fk_gf S E G 89 (by decide) (v := .ref (fk_a g 91)) (congrArg (fk_ce g ov 89 (M43 89)) kd_89) rfl 3 (by decide) rfl i_625 rfl d_M_fails_30 ?_
        refine lv_iload_n S.1 S.2.1 d_M_fails_33 rfl (lv_at hl 2 rfl) ?_
        refine fk_za S E G 91 (by decide) (congrArg (fk_ce g ov 91 (M43 91)) kd_91) f rfl (by omega) (by decide) (v := M 91 f) (by rw [hqa.2.2.1]) d_M_fails_34 ?_
        refine lv_if_eq (tgt := 51) S.1 S.2.1 d_M_fails_35 rfl (fun hc46 => ?_) (fun hc46 => ?_)
        · have hinp := hc46
          refine lv_iload_n S.1 S.2.1 d_M_fails_51 rfl (lv_at hl 1 rfl) ?_
          refine lv_iconst (v := nI 1) S.1 S.2.1 d_M_fails_52 (by decide +kernel) ?_
          refine fk_cne (tgt := 70) S.1 S.2.1 (by decide) (by decide) d_M_fails_53 rfl (fun hc47 => ?_) (fun hc47 => ?_)
          · refine lv_iload_n S.1 S.2.1 d_M_fails_70 rfl (lv_at hl 1 rfl) ?_
            refine lv_iconst (v := nI 2) S.1 S.2.1 d_M_fails_71 (by decide +kernel) ?_
            refine fk_cne (tgt := 80) S.1 S.2.1 (by decide) (by decide) d_M_fails_72 rfl (fun hc48 => ?_) (fun hc48 => ?_)
            · refine lv_iload_n S.1 S.2.1 d_M_fails_80 rfl (lv_at hl 1 rfl) ?_
              refine lv_iconst (v := nI 3) S.1 S.2.1 d_M_fails_81 (by decide +kernel) ?_
              refine fk_cne (tgt := 90) S.1 S.2.1 (by decide) (by decide) d_M_fails_82 rfl (fun hc49 => ?_) (fun hc49 => ?_)
              · refine lv_iload_n S.1 S.2.1 d_M_fails_90 rfl (lv_at hl 1 rfl) ?_
                refine lv_iconst (v := nI 4) S.1 S.2.1 d_M_fails_91 (by decide +kernel) ?_
                refine fk_cne (tgt := 100) S.1 S.2.1 (by decide) (by decide) d_M_fails_92 rfl (fun hc50 => ?_) (fun hc50 => ?_)
                · refine lv_aload_n S.1 S.2.1 d_M_fails_100 rfl (lv_at hl 0 rfl) ?_
                  refine fk_gf S E G 89 (by decide) (v := .int (M43 89 30)) (congrArg (fk_ce g ov 89 (M43 89)) kd_89) rfl 30 (by decide) rfl i_652 rfl d_M_fails_101 ?_
                  have hfin : fk_fm P bb sp sl 5 f M = M43 := by
                    unfold fk_fm
                    rw [if_pos hinp, hfa]; rfl
                  rw [hfin]
                  refine lv_if_lt (tgt := 111) S.1 S.2.1 d_M_fails_104 rfl (fun hc51 => ?_) (fun hc51 => ?_)
                  · refine lv_iconst (v := nI 0) S.1 S.2.1 d_M_fails_111 (by decide +kernel) ?_
                    exact fk_zret S hr hlk E G rfl (fk_b0 (decide_eq_false (fun q => q hc51))) (fk_bz _) d_M_fails_112
                  · refine lv_iconst (v := nI 1) S.1 S.2.1 d_M_fails_107 (by decide +kernel) ?_
                    refine lv_goto (tgt := 112) S.1 S.2.1 d_M_fails_108 rfl ?_
                    exact fk_zret S hr hlk E G rfl (fk_b1 (decide_eq_true hc51)) (fk_bz _) d_M_fails_112
                · exact absurd hc50 (by decide)
              · exact absurd hc49 (by decide)
            · exact absurd hc48 (by decide)
          · exact absurd hc47 (by decide)
        · refine lv_aload_n S.1 S.2.1 d_M_fails_38 rfl (lv_at hl 0 rfl) ?_
          refine fk_gf S E G 89 (by decide) (v := .int (M43 89 30)) (congrArg (fk_ce g ov 89 (M43 89)) kd_89) rfl 30 (by decide) rfl i_652 rfl d_M_fails_39 ?_
          have hfin : fk_fm P bb sp sl 5 f M = M43 := by
            unfold fk_fm
            rw [if_neg hc46, hfa]
          rw [hfin]
          refine lv_if_lt (tgt := 49) S.1 S.2.1 d_M_fails_42 rfl (fun hc52 => ?_) (fun hc52 => ?_)
          · refine lv_iconst (v := nI 0) S.1 S.2.1 d_M_fails_49 (by decide +kernel) ?_
            exact fk_zret S hr hlk E G rfl (fk_b0 (decide_eq_false (fun q => q hc52))) (fk_bz _) d_M_fails_50
          · refine lv_iconst (v := nI 1) S.1 S.2.1 d_M_fails_45 (by decide +kernel) ?_
            refine lv_goto (tgt := 50) S.1 S.2.1 d_M_fails_46 rfl ?_
            exact fk_zret S hr hlk E G rfl (fk_b1 (decide_eq_true hc52)) (fk_bz _) d_M_fails_50
      · refine lv_aload_n S.1 S.2.1 d_M_fails_24 rfl (lv_at hl 0 rfl) ?_
        refine lv_iconst (v := nI 0) S.1 S.2.1 d_M_fails_25 (by decide +kernel) ?_
        refine fk_pf S E G 89 (by decide) (congrArg (fk_ce g ov 89 (M43 89)) kd_89) rfl 30 (by decide) rfl i_652 (upd (M43 89) 30 (nI 0)) (congrArg (fk_ce g ov 89 (upd (M43 89) 30 (nI 0))) kd_89) rfl (ty := (.int)) (by decide +kernel) rfl rfl (Nat.le_of_ble_eq_true rfl) d_M_fails_26 (fun H locs G => ?_)
        obtain ⟨M53, hM53⟩ : ∃ z : fk_M, z = va_up M43 89 (upd (M43 89) 30 (nI 0)) := ⟨_, rfl⟩
        rw [← hM53] at G
        have hfa : fk_fam 5 f M = M53 := by unfold fk_fam; rw [if_pos ⟨rfl, decide_eq_true hc45⟩, hM53, hM43] <;> rfl
        have hqa : fk_Rq M M53 := by rw [← hfa]; exact fk_fam_Rq (.refl _) _ _
        have hq98 : M53 98 = M 98 := hqa.2.2.2.2.1
        obtain ⟨-, -, hRi⟩ := hRS.of hqa
        obtain ⟨a1, a2, b1, b2, b3, b4, b5, b6, b7, b8⟩ := hRi f hf
        refine lv_aload_n S.1 S.2.1 d_M_fails_29 rfl (lv_at hl 0 rfl) ?_
        refine fk_gf S E G 89 (by decide) (v := .ref (fk_a g 91)) (congrArg (fk_ce g ov 89 (M53 89)) kd_89) rfl 3 (by decide) rfl i_625 rfl d_M_fails_30 ?_
        refine lv_iload_n S.1 S.2.1 d_M_fails_33 rfl (lv_at hl 2 rfl) ?_
        refine fk_za S E G 91 (by decide) (congrArg (fk_ce g ov 91 (M53 91)) kd_91) f rfl (by omega) (by decide) (v := M 91 f) (by rw [hqa.2.2.1]) d_M_fails_34 ?_
        refine lv_if_eq (tgt := 51) S.1 S.2.1 d_M_fails_35 rfl (fun hc54 => ?_) (fun hc54 => ?_)
        · have hinp := hc54
          refine lv_iload_n S.1 S.2.1 d_M_fails_51 rfl (lv_at hl 1 rfl) ?_
          refine lv_iconst (v := nI 1) S.1 S.2.1 d_M_fails_52 (by decide +kernel) ?_
          refine fk_cne (tgt := 70) S.1 S.2.1 (by decide) (by decide) d_M_fails_53 rfl (fun hc55 => ?_) (fun hc55 => ?_)
          · refine lv_iload_n S.1 S.2.1 d_M_fails_70 rfl (lv_at hl 1 rfl) ?_
            refine lv_iconst (v := nI 2) S.1 S.2.1 d_M_fails_71 (by decide +kernel) ?_
            refine fk_cne (tgt := 80) S.1 S.2.1 (by decide) (by decide) d_M_fails_72 rfl (fun hc56 => ?_) (fun hc56 => ?_)
            · refine lv_iload_n S.1 S.2.1 d_M_fails_80 rfl (lv_at hl 1 rfl) ?_
              refine lv_iconst (v := nI 3) S.1 S.2.1 d_M_fails_81 (by decide +kernel) ?_
              refine fk_cne (tgt := 90) S.1 S.2.1 (by decide) (by decide) d_M_fails_82 rfl (fun hc57 => ?_) (fun hc57 => ?_)
              · refine lv_iload_n S.1 S.2.1 d_M_fails_90 rfl (lv_at hl 1 rfl) ?_
                refine lv_iconst (v := nI 4) S.1 S.2.1 d_M_fails_91 (by decide +kernel) ?_
                refine fk_cne (tgt := 100) S.1 S.2.1 (by decide) (by decide) d_M_fails_92 rfl (fun hc58 => ?_) (fun hc58 => ?_)
                · refine lv_aload_n S.1 S.2.1 d_M_fails_100 rfl (lv_at hl 0 rfl) ?_
                  refine fk_gf S E G 89 (by decide) (v := .int (M53 89 30)) (congrArg (fk_ce g ov 89 (M53 89)) kd_89) rfl 30 (by decide) rfl i_652 rfl d_M_fails_101 ?_
                  have hfin : fk_fm P bb sp sl 5 f M = M53 := by
                    unfold fk_fm
                    rw [if_pos hinp, hfa]; rfl
                  rw [hfin]
                  refine lv_if_lt (tgt := 111) S.1 S.2.1 d_M_fails_104 rfl (fun hc59 => ?_) (fun hc59 => ?_)
                  · refine lv_iconst (v := nI 0) S.1 S.2.1 d_M_fails_111 (by decide +kernel) ?_
                    exact fk_zret S hr hlk E G rfl (fk_b0 (decide_eq_false (fun q => q hc59))) (fk_bz _) d_M_fails_112
                  · refine lv_iconst (v := nI 1) S.1 S.2.1 d_M_fails_107 (by decide +kernel) ?_
                    refine lv_goto (tgt := 112) S.1 S.2.1 d_M_fails_108 rfl ?_
                    exact fk_zret S hr hlk E G rfl (fk_b1 (decide_eq_true hc59)) (fk_bz _) d_M_fails_112
                · exact absurd hc58 (by decide)
              · exact absurd hc57 (by decide)
            · exact absurd hc56 (by decide)
          · exact absurd hc55 (by decide)
        · refine lv_aload_n S.1 S.2.1 d_M_fails_38 rfl (lv_at hl 0 rfl) ?_
          refine fk_gf S E G 89 (by decide) (v := .int (M53 89 30)) (congrArg (fk_ce g ov 89 (M53 89)) kd_89) rfl 30 (by decide) rfl i_652 rfl d_M_fails_39 ?_
          have hfin : fk_fm P bb sp sl 5 f M = M53 := by
            unfold fk_fm
            rw [if_neg hc54, hfa]
          rw [hfin]
          refine lv_if_lt (tgt := 49) S.1 S.2.1 d_M_fails_42 rfl (fun hc60 => ?_) (fun hc60 => ?_)
          · refine lv_iconst (v := nI 0) S.1 S.2.1 d_M_fails_49 (by decide +kernel) ?_
            exact fk_zret S hr hlk E G rfl (fk_b0 (decide_eq_false (fun q => q hc60))) (fk_bz _) d_M_fails_50
          · refine lv_iconst (v := nI 1) S.1 S.2.1 d_M_fails_45 (by decide +kernel) ?_
            refine lv_goto (tgt := 50) S.1 S.2.1 d_M_fails_46 rfl ?_
            exact fk_zret S hr hlk E G rfl (fk_b1 (decide_eq_true hc60)) (fk_bz _) d_M_fails_50
