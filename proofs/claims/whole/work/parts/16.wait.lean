/-! Waiting: who waits for whom, and the order. Written by wip/gen/s_wait.py. -/
def fk_wf (v : Int32) (j : Nat) : Bool := decide ((v >>> (nI j &&& 31)) &&& nI 1 = nI 1)
/-- the bits of the flows that an expression names outside its befores -/
def fk_dw (b : Nat → Nat) (E : Nat → Int32) : Nat → Nat → Nat → Int32 → Int32
  | 0, _, _, mq => mq
  | d + 1, i, hid, mq => if i < hid ∨ ¬ 0 < E i then fk_dw b E d (i + 1) hid mq else if b i = 14 then fk_dw b E d (i + 1) (E i).toNatClampNeg mq else if b i = 3 ∨ 15 < b i then fk_dw b E d (i + 1) hid (mq ||| (nI 1 <<< (nI (b (i + 1)) &&& 31))) else fk_dw b E d (i + 1) hid mq
def fk_cm (ck : Nat) : Int32 := if ck = 0 then nI 0 else nI 1 <<< (nI ((ck - 1) / 2) &&& 31)
/-- what a flow waits for at once -/
def fk_nd (ck P sz : Nat → Nat) (bb : Nat → Nat → Nat) (M : fk_M) (j : Nat) : Int32 := fk_dw (bb j) (M (P j + 2)) (sz j) 0 0 (fk_cm (ck j))
def fk_t1 (ck P sz : Nat → Nat) (bb : Nat → Nat → Nat) (M : fk_M) : Nat → fk_M
  | 0 => M
  | i + 1 => va_up (fk_t1 ck P sz bb M i) 76 (upd (fk_t1 ck P sz bb M i 76) i (fk_nd ck P sz bb M i))
def fk_t3 (M : fk_M) (k : Nat) : Nat → fk_M
  | 0 => M
  | i + 1 => if fk_wf (fk_t3 M k i 76 i) k = true then va_up (fk_t3 M k i) 76 (upd (fk_t3 M k i 76) i (fk_t3 M k i 76 i ||| fk_t3 M k i 76 k)) else fk_t3 M k i
def fk_t2 (n : Nat) (M : fk_M) : Nat → fk_M
  | 0 => M
  | k + 1 => fk_t3 (fk_t2 n M k) k n
def fk_tr (n : Nat) (ck P sz : Nat → Nat) (bb : Nat → Nat → Nat) (M : fk_M) : fk_M := fk_t2 n (fk_t1 ck P sz bb M n) n
/-- only the masks change -/
def fk_O (k : Nat) (M M' : fk_M) : Prop := ∀ j, j ≠ k → M' j = M j
theorem fk_O.Eq {k : Nat} {M M' : fk_M} (hk : k = 0 ∨ k = 2 ∨ (75 ≤ k ∧ k < 84) ∨ 89 ≤ k) (h : fk_O k M M') : fk_Eq M M' := by
  refine ⟨h 1 (by omega), fun j hj t _ => by rw [h _ (by omega)], fun x hX => ?_⟩
  rcases hX with rfl | ⟨i, hi, rfl⟩
  · exact ⟨h _ (by omega), h _ (by omega), h _ (by omega), h _ (by omega)⟩
  · exact ⟨h _ (by omega), h _ (by omega), h _ (by omega), h _ (by omega)⟩
theorem fk_O.up {k : Nat} {M M' : fk_M} (h : fk_O k M M') (w : Nat → Int32) : fk_O k M (va_up M' k w) := fun j hj => (va_up_ne _ _ hj).trans (h j hj)
theorem fk_t1_O (ck P sz : Nat → Nat) (bb : Nat → Nat → Nat) (M : fk_M) : ∀ i, fk_O 76 M (fk_t1 ck P sz bb M i) := by
  intro i
  induction i with
  | zero => exact fun _ _ => rfl
  | succ i ih => exact ih.up _
theorem fk_t3_O {M M' : fk_M} (k : Nat) (h : fk_O 76 M M') : ∀ i, fk_O 76 M (fk_t3 M' k i) := by
  intro i
  induction i with
  | zero => exact h
  | succ i ih =>
    show fk_O 76 M (if fk_wf (fk_t3 M' k i 76 i) k = true then _ else _)
    by_cases hw : fk_wf (fk_t3 M' k i 76 i) k = true
    · rw [if_pos hw]
      exact ih.up _
    · rw [if_neg hw]
      exact ih
theorem fk_t2_O {M M' : fk_M} (n : Nat) (h : fk_O 76 M M') : ∀ k, fk_O 76 M (fk_t2 n M' k) := by
  intro k
  induction k with
  | zero => exact h
  | succ k ih => exact fk_t3_O k ih n
/-- ready: not placed, of the kind wanted, waiting for nothing that isn't placed -/
def fk_rd (M : fk_M) (t : Nat) (pl : Int32) (i : Nat) : Bool := decide ((pl >>> (nI i &&& 31)) &&& nI 1 = 0 ∧ M (3 + 6 * i) 2 = nI t ∧ M 76 i &&& (pl ^^^ (-1)) = 0)
def fk_lr (M : fk_M) (t : Nat) (pl : Int32) : Nat → Nat → Option Nat
  | 0, _ => none
  | d + 1, i => if fk_rd M t pl i = true then some i else fk_lr M t pl d (i + 1)
theorem fk_lr_lt {M : fk_M} {t : Nat} {pl : Int32} : ∀ d i j, fk_lr M t pl d i = some j → j < i + d := by
  intro d
  induction d with
  | zero => intro i j h; cases h
  | succ d ih =>
    intro i j h
    show j < i + (d + 1)
    change (if fk_rd M t pl i = true then some i else fk_lr M t pl d (i + 1)) = some j at h
    by_cases hr : fk_rd M t pl i = true
    · rw [if_pos hr] at h
      cases h
      omega
    · rw [if_neg hr] at h
      have := ih (i + 1) j h
      omega
def fk_pk (M : fk_M) (n : Nat) (pl : Int32) : Option Nat := match fk_lr M 1 pl n 0 with
  | some j => some j
  | none => fk_lr M 0 pl n 0
def fk_ag (n : Nat) : Nat → Nat → Nat → Int32 → fk_M → fk_M
  | 0, _, _, _, M => M
  | d + 1, k, o, pl, M => match fk_pk M n pl with
    | none => M
    | some j => if M (3 + 6 * j) 2 = 0 then fk_ag n d (k + 1) (o + 1) (pl ||| (nI 1 <<< (nI j &&& 31))) (va_up (va_up (va_up M 78 (upd (M 78) k (nI j))) 77 (upd (M 77) o (nI j))) 75 (upd (M 75) 3 (nI (o + 1))))
      else fk_ag n d (k + 1) o (pl ||| (nI 1 <<< (nI j &&& 31))) (va_up M 78 (upd (M 78) k (nI j)))
theorem d_W_waitsFor_0 : decode b_W_waitsFor 0 = .ok (.aload_n 0, 1) := by decide +kernel
theorem d_W_waitsFor_1 : decode b_W_waitsFor 1 = .ok (.getfield 9, 3) := by decide +kernel
theorem d_W_waitsFor_4 : decode b_W_waitsFor 4 = .ok (.iload_n 1, 1) := by decide +kernel
theorem d_W_waitsFor_5 : decode b_W_waitsFor 5 = .ok (.iaload, 1) := by decide +kernel
theorem d_W_waitsFor_6 : decode b_W_waitsFor 6 = .ok (.iload_n 2, 1) := by decide +kernel
theorem d_W_waitsFor_7 : decode b_W_waitsFor 7 = .ok (.ishr, 1) := by decide +kernel
theorem d_W_waitsFor_8 : decode b_W_waitsFor 8 = .ok (.iconst 1, 1) := by decide +kernel
theorem d_W_waitsFor_9 : decode b_W_waitsFor 9 = .ok (.iand, 1) := by decide +kernel
theorem d_W_waitsFor_10 : decode b_W_waitsFor 10 = .ok (.iconst 1, 1) := by decide +kernel
theorem d_W_waitsFor_11 : decode b_W_waitsFor 11 = .ok (.if_icmp .ne 7, 3) := by decide +kernel
theorem d_W_waitsFor_14 : decode b_W_waitsFor 14 = .ok (.iconst 1, 1) := by decide +kernel
theorem d_W_waitsFor_15 : decode b_W_waitsFor 15 = .ok (.goto 4, 3) := by decide +kernel
theorem d_W_waitsFor_18 : decode b_W_waitsFor 18 = .ok (.iconst 0, 1) := by decide +kernel
theorem d_W_waitsFor_19 : decode b_W_waitsFor 19 = .ok (.ireturn, 1) := by decide +kernel
theorem m_W_waitsFor : fk_MI y_W_waitsFor b_W_waitsFor 3 (some .boolean) 2 := ⟨i_264, i_263, fk_mp (q := (y_W_waitsFor, 5)) (by decide +kernel), i_5, by decide +kernel⟩
set_option maxHeartbeats 4000000 in
set_option maxRecDepth 100000 in
theorem c_W_waitsFor (l : Launch) (g : fk_G) (ov : Int64) (M : fk_M) (j k : Nat) (hj : j < 12) : fk_CI l y_W_waitsFor b_W_waitsFor 3 (some .boolean) (fk_rm 0) g ov M M [.ref (fk_a g 75), .int (nI j), .int (nI k)] (nI (fk_wf (M 76 j) k).toNat) := by
  refine fk_ofI rfl (Nat.le_of_ble_eq_true rfl) ?_
  intro p e s m args below meth c ls S hr hlk E G hl
  have hl : lv_has ls 3 [(0, .ref (fk_a g 75)), (1, .int (nI j)), (2, .int (nI k))] := hl
  refine lv_aload_n S.1 S.2.1 d_W_waitsFor_0 rfl (lv_at hl 0 rfl) ?_
  refine fk_gf S E G 75 (by decide) (v := .ref (fk_a g 76)) (congrArg (fk_ce g ov 75 (M 75)) kd_75) rfl 1 (by decide) rfl i_132 rfl d_W_waitsFor_1 ?_
  refine lv_iload_n S.1 S.2.1 d_W_waitsFor_4 rfl (lv_at hl 1 rfl) ?_
  refine fk_ia S E G 76 (by decide) (congrArg (fk_ce g ov 76 (M 76)) kd_76) j rfl (by omega) (by decide) (v := M 76 j) rfl d_W_waitsFor_5 ?_
  refine lv_iload_n S.1 S.2.1 d_W_waitsFor_6 rfl (lv_at hl 2 rfl) ?_
  refine lv_ishr S.1 S.2.1 d_W_waitsFor_7 ?_
  refine lv_iconst (v := nI 1) S.1 S.2.1 d_W_waitsFor_8 (by decide +kernel) ?_
  refine lv_iand S.1 S.2.1 d_W_waitsFor_9 ?_
  refine lv_iconst (v := nI 1) S.1 S.2.1 d_W_waitsFor_10 (by decide +kernel) ?_
  refine lv_icmp_ne (tgt := 18) S.1 S.2.1 d_W_waitsFor_11 rfl (fun hc1 => ?_) (fun hc1 => ?_)
  · refine lv_iconst (v := nI 0) S.1 S.2.1 d_W_waitsFor_18 (by decide +kernel) ?_
    exact fk_zret S hr hlk E G rfl (fk_b0 (decide_eq_false hc1)) (fk_bz _) d_W_waitsFor_19
  · refine lv_iconst (v := nI 1) S.1 S.2.1 d_W_waitsFor_14 (by decide +kernel) ?_
    refine lv_goto (tgt := 19) S.1 S.2.1 d_W_waitsFor_15 rfl ?_
    exact fk_zret S hr hlk E G rfl (fk_b1 (decide_eq_true hc1)) (fk_bz _) d_W_waitsFor_19
theorem d_W_lowestReady_0 : decode b_W_lowestReady 0 = .ok (.iconst 0, 1) := by decide +kernel
theorem d_W_lowestReady_1 : decode b_W_lowestReady 1 = .ok (.istore_n 3, 1) := by decide +kernel
theorem d_W_lowestReady_2 : decode b_W_lowestReady 2 = .ok (.iload_n 3, 1) := by decide +kernel
theorem d_W_lowestReady_3 : decode b_W_lowestReady 3 = .ok (.aload_n 0, 1) := by decide +kernel
theorem d_W_lowestReady_4 : decode b_W_lowestReady 4 = .ok (.getfield 21, 3) := by decide +kernel
theorem d_W_lowestReady_7 : decode b_W_lowestReady 7 = .ok (.getfield 25, 3) := by decide +kernel
theorem d_W_lowestReady_10 : decode b_W_lowestReady 10 = .ok (.if_icmp .ge 60, 3) := by decide +kernel
theorem d_W_lowestReady_13 : decode b_W_lowestReady 13 = .ok (.iload_n 2, 1) := by decide +kernel
theorem d_W_lowestReady_14 : decode b_W_lowestReady 14 = .ok (.iload_n 3, 1) := by decide +kernel
theorem d_W_lowestReady_15 : decode b_W_lowestReady 15 = .ok (.ishr, 1) := by decide +kernel
theorem d_W_lowestReady_16 : decode b_W_lowestReady 16 = .ok (.iconst 1, 1) := by decide +kernel
theorem d_W_lowestReady_17 : decode b_W_lowestReady 17 = .ok (.iand, 1) := by decide +kernel
theorem d_W_lowestReady_18 : decode b_W_lowestReady 18 = .ok (.ifCond .ne 23, 3) := by decide +kernel
theorem d_W_lowestReady_21 : decode b_W_lowestReady 21 = .ok (.aload_n 0, 1) := by decide +kernel
theorem d_W_lowestReady_22 : decode b_W_lowestReady 22 = .ok (.getfield 21, 3) := by decide +kernel
theorem d_W_lowestReady_25 : decode b_W_lowestReady 25 = .ok (.getfield 31, 3) := by decide +kernel
theorem d_W_lowestReady_28 : decode b_W_lowestReady 28 = .ok (.iload_n 3, 1) := by decide +kernel
theorem d_W_lowestReady_29 : decode b_W_lowestReady 29 = .ok (.aaload, 1) := by decide +kernel
theorem d_W_lowestReady_30 : decode b_W_lowestReady 30 = .ok (.getfield 84, 3) := by decide +kernel
theorem d_W_lowestReady_33 : decode b_W_lowestReady 33 = .ok (.iload_n 1, 1) := by decide +kernel
theorem d_W_lowestReady_34 : decode b_W_lowestReady 34 = .ok (.if_icmp .ne 7, 3) := by decide +kernel
theorem d_W_lowestReady_37 : decode b_W_lowestReady 37 = .ok (.iconst 1, 1) := by decide +kernel
theorem d_W_lowestReady_38 : decode b_W_lowestReady 38 = .ok (.goto 4, 3) := by decide +kernel
theorem d_W_lowestReady_41 : decode b_W_lowestReady 41 = .ok (.iconst 0, 1) := by decide +kernel
theorem d_W_lowestReady_42 : decode b_W_lowestReady 42 = .ok (.istore 4, 2) := by decide +kernel
theorem d_W_lowestReady_44 : decode b_W_lowestReady 44 = .ok (.iload 4, 2) := by decide +kernel
theorem d_W_lowestReady_46 : decode b_W_lowestReady 46 = .ok (.ifCond .eq 18, 3) := by decide +kernel
theorem d_W_lowestReady_49 : decode b_W_lowestReady 49 = .ok (.aload_n 0, 1) := by decide +kernel
theorem d_W_lowestReady_50 : decode b_W_lowestReady 50 = .ok (.getfield 9, 3) := by decide +kernel
theorem d_W_lowestReady_53 : decode b_W_lowestReady 53 = .ok (.iload_n 3, 1) := by decide +kernel
theorem d_W_lowestReady_54 : decode b_W_lowestReady 54 = .ok (.iaload, 1) := by decide +kernel
theorem d_W_lowestReady_55 : decode b_W_lowestReady 55 = .ok (.iload_n 2, 1) := by decide +kernel
theorem d_W_lowestReady_56 : decode b_W_lowestReady 56 = .ok (.iconst (-1), 1) := by decide +kernel
theorem d_W_lowestReady_57 : decode b_W_lowestReady 57 = .ok (.ixor, 1) := by decide +kernel
theorem d_W_lowestReady_58 : decode b_W_lowestReady 58 = .ok (.iand, 1) := by decide +kernel
theorem d_W_lowestReady_59 : decode b_W_lowestReady 59 = .ok (.ifCond .ne 5, 3) := by decide +kernel
theorem d_W_lowestReady_62 : decode b_W_lowestReady 62 = .ok (.iload_n 3, 1) := by decide +kernel
theorem d_W_lowestReady_63 : decode b_W_lowestReady 63 = .ok (.ireturn, 1) := by decide +kernel
theorem d_W_lowestReady_64 : decode b_W_lowestReady 64 = .ok (.iinc 3 1, 3) := by decide +kernel
theorem d_W_lowestReady_67 : decode b_W_lowestReady 67 = .ok (.goto (-65), 3) := by decide +kernel
theorem d_W_lowestReady_70 : decode b_W_lowestReady 70 = .ok (.iconst (-1), 1) := by decide +kernel
theorem d_W_lowestReady_71 : decode b_W_lowestReady 71 = .ok (.ireturn, 1) := by decide +kernel
theorem m_W_lowestReady : fk_MI y_W_lowestReady b_W_lowestReady 5 (some .int) 2 := ⟨i_343, i_342, fk_mp (q := (y_W_lowestReady, 5)) (by decide +kernel), i_5, by decide +kernel⟩
set_option maxHeartbeats 4000000 in
set_option maxRecDepth 100000 in
theorem c_W_lowestReady (l : Launch) (g : fk_G) (ov : Int64) (M : fk_M) (n : Nat) (hn : M 1 1 = nI n) (h12 : n ≤ 12) (t : Nat) (pl : Int32) : fk_CI l y_W_lowestReady b_W_lowestReady 5 (some .int) (fk_rm 0) g ov M M [.ref (fk_a g 75), .int (nI t), .int pl] (fk_rv (fk_lr M t pl n 0)) := by
  refine fk_ofI rfl (Nat.le_of_ble_eq_true rfl) ?_
  intro p e s m args below meth c ls S hr hlk E G hl
  have hl : lv_has ls 5 [(0, .ref (fk_a g 75)), (1, .int (nI t)), (2, .int pl)] := hl
  refine lv_iconst (v := nI 0) S.1 S.2.1 d_W_lowestReady_0 (by decide +kernel) ?_
  refine lv_istore_n (lv' := [(3, .int (nI 0)), (0, .ref (fk_a g 75)), (1, .int (nI t)), (2, .int pl)]) S.1 S.2.1 d_W_lowestReady_1 rfl hl (by decide) rfl (fun ls hl => ?_)
  have loop : ∀ (d : Nat) (i : Nat) (H : Heap) (locs : List Loc) (ls : Array Slot), i + d = n → fk_lr M t pl d i = fk_lr M t pl n 0 → fk_H g ov (M) s H locs → lv_has ls 5 [(3, .int (nI i)), (0, .ref (fk_a g 75)), (1, .int (nI t)), (2, .int pl)] → W p l e (fk_rm (0)) s m args below meth c H locs 0 0 (MQ below (va_Qi (fun rr (_ : Unit) => rr = fk_rv (fk_lr M t pl n 0)) (fun _ t => fk_Wd g ov (M) t) (fk_A g)) args s 0 0 (fk_A g)) (F0 m 2 ls []) := by
    intro d
    induction d with
    | zero =>
      intro i H locs ls hv0 hv1 G hl
      refine lv_iload_n S.1 S.2.1 d_W_lowestReady_2 rfl (lv_at hl 0 rfl) ?_
      refine lv_aload_n S.1 S.2.1 d_W_lowestReady_3 rfl (lv_at hl 1 rfl) ?_
      refine fk_gf S E G 75 (by decide) (v := .ref (fk_a g 1)) (congrArg (fk_ce g ov 75 (M 75)) kd_75) rfl 0 (by decide) rfl i_131 rfl d_W_lowestReady_4 ?_
      refine fk_gn S E G 1 (by decide) (v := .int (M 1 1)) (congrArg (fk_ce g ov 1 (M 1)) kd_1) rfl 1 (by decide) rfl (List.mem_of_getElem? (i := 38) rfl) rfl d_W_lowestReady_7 ?_
      rw [hn]
      refine fk_cge (tgt := 70) S.1 S.2.1 (by omega) (by omega) d_W_lowestReady_10 rfl (fun hc1 => ?_) (fun hc1 => ?_)
      · refine lv_iconst (v := -1) S.1 S.2.1 d_W_lowestReady_70 (by decide +kernel) ?_
        exact fk_iret S hr hlk E G rfl (by rw [← hv1]; rfl) d_W_lowestReady_71
      · exact absurd hv0 (by omega)
    | succ d ih =>
      intro i H locs ls hv0 hv1 G hl
      refine lv_iload_n S.1 S.2.1 d_W_lowestReady_2 rfl (lv_at hl 0 rfl) ?_
      refine lv_aload_n S.1 S.2.1 d_W_lowestReady_3 rfl (lv_at hl 1 rfl) ?_
      refine fk_gf S E G 75 (by decide) (v := .ref (fk_a g 1)) (congrArg (fk_ce g ov 75 (M 75)) kd_75) rfl 0 (by decide) rfl i_131 rfl d_W_lowestReady_4 ?_
      refine fk_gn S E G 1 (by decide) (v := .int (M 1 1)) (congrArg (fk_ce g ov 1 (M 1)) kd_1) rfl 1 (by decide) rfl (List.mem_of_getElem? (i := 38) rfl) rfl d_W_lowestReady_7 ?_
      rw [hn]
      refine fk_cge (tgt := 70) S.1 S.2.1 (by omega) (by omega) d_W_lowestReady_10 rfl (fun hc2 => ?_) (fun hc2 => ?_)
      · exact absurd hv0 (by omega)
      · have next : ∀ (vx : Int32) (H : Heap) (locs : List Loc) (ls : Array Slot), fk_rd M t pl i = false → fk_H g ov (M) s H locs → lv_has ls 5 [(4, .int vx), (3, .int (nI i)), (0, .ref (fk_a g 75)), (1, .int (nI t)), (2, .int pl)] → W p l e (fk_rm (0)) s m args below meth c H locs 0 0 (MQ below (va_Qi (fun rr (_ : Unit) => rr = fk_rv (fk_lr M t pl n 0)) (fun _ t => fk_Wd g ov (M) t) (fk_A g)) args s 0 0 (fk_A g)) (F0 m 64 ls []) := by
          intro vx H locs ls hv0 G hl
          skip
          refine lv_iinc (k := 1) (v := nI (i + 1)) (lv' := [(3, .int (nI (i + 1))), (4, .int vx), (0, .ref (fk_a g 75)), (1, .int (nI t)), (2, .int pl)]) S.1 S.2.1 d_W_lowestReady_64 hl rfl (nI_1 i) (by decide) rfl (fun ls hl => ?_)
          refine lv_goto (tgt := 2) S.1 S.2.1 d_W_lowestReady_67 rfl ?_
          refine ih (i + 1) H locs ls (by omega) ?_ G (lv_sub hl [0, 2, 3, 4] rfl)
          rw [← hv1]
          exact (if_neg (by rw [hv0]; decide)).symm
        refine lv_iload_n S.1 S.2.1 d_W_lowestReady_13 rfl (lv_at hl 3 rfl) ?_
        refine lv_iload_n S.1 S.2.1 d_W_lowestReady_14 rfl (lv_at hl 0 rfl) ?_
        refine lv_ishr S.1 S.2.1 d_W_lowestReady_15 ?_
        refine lv_iconst (v := nI 1) S.1 S.2.1 d_W_lowestReady_16 (by decide +kernel) ?_
        refine lv_iand S.1 S.2.1 d_W_lowestReady_17 ?_
        refine lv_if_ne (tgt := 41) S.1 S.2.1 d_W_lowestReady_18 rfl (fun hc3 => ?_) (fun hc3 => ?_)
        · refine lv_iconst (v := nI 0) S.1 S.2.1 d_W_lowestReady_41 (by decide +kernel) ?_
          refine lv_istore (lv' := [(4, .int (nI 0)), (3, .int (nI i)), (0, .ref (fk_a g 75)), (1, .int (nI t)), (2, .int pl)]) S.1 S.2.1 d_W_lowestReady_42 hl (by decide) rfl (fun ls hl => ?_)
          refine lv_iload S.1 S.2.1 d_W_lowestReady_44 (lv_at hl 0 rfl) ?_
          refine fk_zeq (tgt := 64) S.1 S.2.1 (by omega) d_W_lowestReady_46 rfl (fun hc4 => ?_) (fun hc4 => ?_)
          · exact next _ H locs ls (decide_eq_false (fun q => hc3 q.1)) G hl
          · exact absurd hc4 (by omega)
        · refine lv_aload_n S.1 S.2.1 d_W_lowestReady_21 rfl (lv_at hl 1 rfl) ?_
          refine fk_gf S E G 75 (by decide) (v := .ref (fk_a g 1)) (congrArg (fk_ce g ov 75 (M 75)) kd_75) rfl 0 (by decide) rfl i_131 rfl d_W_lowestReady_22 ?_
          refine fk_gn S E G 1 (by decide) (v := .ref (fk_a g 2)) (congrArg (fk_ce g ov 1 (M 1)) kd_1) rfl 0 (by decide) rfl (List.mem_of_getElem? (i := 34) rfl) rfl d_W_lowestReady_25 ?_
          refine lv_iload_n S.1 S.2.1 d_W_lowestReady_28 rfl (lv_at hl 0 rfl) ?_
          refine fk_rw S E G i rfl (by omega) d_W_lowestReady_29 ?_
          refine fk_gn S E G (3 + 6 * i) (by omega) (v := .int (M (3 + 6 * i) 2)) (congrArg (fk_ce g ov (3 + 6 * i) (M (3 + 6 * i))) (fk_kf (show i < 12 by omega))) rfl 2 (by decide) rfl (List.mem_of_getElem? (i := 23) rfl) rfl d_W_lowestReady_30 ?_
          refine lv_iload_n S.1 S.2.1 d_W_lowestReady_33 rfl (lv_at hl 2 rfl) ?_
          refine lv_icmp_ne (tgt := 41) S.1 S.2.1 d_W_lowestReady_34 rfl (fun hc5 => ?_) (fun hc5 => ?_)
          · refine lv_iconst (v := nI 0) S.1 S.2.1 d_W_lowestReady_41 (by decide +kernel) ?_
            refine lv_istore (lv' := [(4, .int (nI 0)), (3, .int (nI i)), (0, .ref (fk_a g 75)), (1, .int (nI t)), (2, .int pl)]) S.1 S.2.1 d_W_lowestReady_42 hl (by decide) rfl (fun ls hl => ?_)
            refine lv_iload S.1 S.2.1 d_W_lowestReady_44 (lv_at hl 0 rfl) ?_
            refine fk_zeq (tgt := 64) S.1 S.2.1 (by omega) d_W_lowestReady_46 rfl (fun hc6 => ?_) (fun hc6 => ?_)
            · exact next _ H locs ls (decide_eq_false (fun q => hc5 q.2.1)) G hl
            · exact absurd hc6 (by omega)
          · refine lv_iconst (v := nI 1) S.1 S.2.1 d_W_lowestReady_37 (by decide +kernel) ?_
            refine lv_goto (tgt := 42) S.1 S.2.1 d_W_lowestReady_38 rfl ?_
            refine lv_istore (lv' := [(4, .int (nI 1)), (3, .int (nI i)), (0, .ref (fk_a g 75)), (1, .int (nI t)), (2, .int pl)]) S.1 S.2.1 d_W_lowestReady_42 hl (by decide) rfl (fun ls hl => ?_)
            refine lv_iload S.1 S.2.1 d_W_lowestReady_44 (lv_at hl 0 rfl) ?_
            refine fk_zeq (tgt := 64) S.1 S.2.1 (by omega) d_W_lowestReady_46 rfl (fun hc7 => ?_) (fun hc7 => ?_)
            · exact absurd hc7 (by omega)
            · refine lv_aload_n S.1 S.2.1 d_W_lowestReady_49 rfl (lv_at hl 2 rfl) ?_
              refine fk_gf S E G 75 (by decide) (v := .ref (fk_a g 76)) (congrArg (fk_ce g ov 75 (M 75)) kd_75) rfl 1 (by decide) rfl i_132 rfl d_W_lowestReady_50 ?_
              refine lv_iload_n S.1 S.2.1 d_W_lowestReady_53 rfl (lv_at hl 1 rfl) ?_
              refine fk_ia S E G 76 (by decide) (congrArg (fk_ce g ov 76 (M 76)) kd_76) i rfl (by omega) (by decide) (v := M 76 i) rfl d_W_lowestReady_54 ?_
              refine lv_iload_n S.1 S.2.1 d_W_lowestReady_55 rfl (lv_at hl 4 rfl) ?_
              refine lv_iconst (v := -1) S.1 S.2.1 d_W_lowestReady_56 (by decide +kernel) ?_
              refine lv_ixor S.1 S.2.1 d_W_lowestReady_57 ?_
              refine lv_iand S.1 S.2.1 d_W_lowestReady_58 ?_
              refine lv_if_ne (tgt := 64) S.1 S.2.1 d_W_lowestReady_59 rfl (fun hc8 => ?_) (fun hc8 => ?_)
              · exact next _ H locs ls (decide_eq_false (fun q => hc8 q.2.2)) G hl
              · refine lv_iload_n S.1 S.2.1 d_W_lowestReady_62 rfl (lv_at hl 1 rfl) ?_
                exact fk_iret S hr hlk E G rfl (by rw [← hv1]; show _ = fk_rv (if fk_rd M t pl i = true then some i else _); rw [if_pos (show fk_rd M t pl i = true from decide_eq_true ⟨hc3, hc5, hc8⟩)]; rfl) d_W_lowestReady_63
  exact loop n 0 s.heap [] ls (by omega) rfl G hl
theorem d_W_directWaits_0 : decode b_W_directWaits 0 = .ok (.aload_n 1, 1) := by decide +kernel
theorem d_W_directWaits_1 : decode b_W_directWaits 1 = .ok (.getfield 43, 3) := by decide +kernel
theorem d_W_directWaits_4 : decode b_W_directWaits 4 = .ok (.ifCond .ne 7, 3) := by decide +kernel
theorem d_W_directWaits_7 : decode b_W_directWaits 7 = .ok (.iconst 0, 1) := by decide +kernel
theorem d_W_directWaits_8 : decode b_W_directWaits 8 = .ok (.goto 12, 3) := by decide +kernel
theorem d_W_directWaits_11 : decode b_W_directWaits 11 = .ok (.iconst 1, 1) := by decide +kernel
theorem d_W_directWaits_12 : decode b_W_directWaits 12 = .ok (.aload_n 1, 1) := by decide +kernel
theorem d_W_directWaits_13 : decode b_W_directWaits 13 = .ok (.getfield 43, 3) := by decide +kernel
theorem d_W_directWaits_16 : decode b_W_directWaits 16 = .ok (.invokestatic 48, 3) := by decide +kernel
theorem d_W_directWaits_19 : decode b_W_directWaits 19 = .ok (.ishl, 1) := by decide +kernel
theorem d_W_directWaits_20 : decode b_W_directWaits 20 = .ok (.istore_n 2, 1) := by decide +kernel
theorem d_W_directWaits_21 : decode b_W_directWaits 21 = .ok (.aload_n 1, 1) := by decide +kernel
theorem d_W_directWaits_22 : decode b_W_directWaits 22 = .ok (.getfield 52, 3) := by decide +kernel
theorem d_W_directWaits_25 : decode b_W_directWaits 25 = .ok (.astore_n 3, 1) := by decide +kernel
theorem d_W_directWaits_26 : decode b_W_directWaits 26 = .ok (.iconst 0, 1) := by decide +kernel
theorem d_W_directWaits_27 : decode b_W_directWaits 27 = .ok (.istore 4, 2) := by decide +kernel
theorem d_W_directWaits_29 : decode b_W_directWaits 29 = .ok (.iconst 0, 1) := by decide +kernel
theorem d_W_directWaits_30 : decode b_W_directWaits 30 = .ok (.istore 5, 2) := by decide +kernel
theorem d_W_directWaits_32 : decode b_W_directWaits 32 = .ok (.iload 5, 2) := by decide +kernel
theorem d_W_directWaits_34 : decode b_W_directWaits 34 = .ok (.aload_n 3, 1) := by decide +kernel
theorem d_W_directWaits_35 : decode b_W_directWaits 35 = .ok (.getfield 56, 3) := by decide +kernel
theorem d_W_directWaits_38 : decode b_W_directWaits 38 = .ok (.if_icmp .ge 76, 3) := by decide +kernel
theorem d_W_directWaits_41 : decode b_W_directWaits 41 = .ok (.iload 5, 2) := by decide +kernel
theorem d_W_directWaits_43 : decode b_W_directWaits 43 = .ok (.iload 4, 2) := by decide +kernel
theorem d_W_directWaits_45 : decode b_W_directWaits 45 = .ok (.if_icmp .lt 63, 3) := by decide +kernel
theorem d_W_directWaits_48 : decode b_W_directWaits 48 = .ok (.aload_n 3, 1) := by decide +kernel
theorem d_W_directWaits_49 : decode b_W_directWaits 49 = .ok (.iload 5, 2) := by decide +kernel
theorem d_W_directWaits_51 : decode b_W_directWaits 51 = .ok (.invokevirtual 61, 3) := by decide +kernel
theorem d_W_directWaits_54 : decode b_W_directWaits 54 = .ok (.ifCond .ne 6, 3) := by decide +kernel
theorem d_W_directWaits_57 : decode b_W_directWaits 57 = .ok (.goto 51, 3) := by decide +kernel
theorem d_W_directWaits_60 : decode b_W_directWaits 60 = .ok (.aload_n 3, 1) := by decide +kernel
theorem d_W_directWaits_61 : decode b_W_directWaits 61 = .ok (.getfield 65, 3) := by decide +kernel
theorem d_W_directWaits_64 : decode b_W_directWaits 64 = .ok (.iload 5, 2) := by decide +kernel
theorem d_W_directWaits_66 : decode b_W_directWaits 66 = .ok (.iaload, 1) := by decide +kernel
theorem d_W_directWaits_67 : decode b_W_directWaits 67 = .ok (.bipush 14, 2) := by decide +kernel
theorem d_W_directWaits_69 : decode b_W_directWaits 69 = .ok (.if_icmp .ne 15, 3) := by decide +kernel
theorem d_W_directWaits_72 : decode b_W_directWaits 72 = .ok (.aload_n 3, 1) := by decide +kernel
theorem d_W_directWaits_73 : decode b_W_directWaits 73 = .ok (.getfield 68, 3) := by decide +kernel
theorem d_W_directWaits_76 : decode b_W_directWaits 76 = .ok (.iload 5, 2) := by decide +kernel
theorem d_W_directWaits_78 : decode b_W_directWaits 78 = .ok (.iaload, 1) := by decide +kernel
theorem d_W_directWaits_79 : decode b_W_directWaits 79 = .ok (.istore 4, 2) := by decide +kernel
theorem d_W_directWaits_81 : decode b_W_directWaits 81 = .ok (.goto 27, 3) := by decide +kernel
theorem d_W_directWaits_84 : decode b_W_directWaits 84 = .ok (.aload_n 3, 1) := by decide +kernel
theorem d_W_directWaits_85 : decode b_W_directWaits 85 = .ok (.getfield 65, 3) := by decide +kernel
theorem d_W_directWaits_88 : decode b_W_directWaits 88 = .ok (.iload 5, 2) := by decide +kernel
theorem d_W_directWaits_90 : decode b_W_directWaits 90 = .ok (.iaload, 1) := by decide +kernel
theorem d_W_directWaits_91 : decode b_W_directWaits 91 = .ok (.invokestatic 71, 3) := by decide +kernel
theorem d_W_directWaits_94 : decode b_W_directWaits 94 = .ok (.ifCond .eq 14, 3) := by decide +kernel
theorem d_W_directWaits_97 : decode b_W_directWaits 97 = .ok (.iload_n 2, 1) := by decide +kernel
theorem d_W_directWaits_98 : decode b_W_directWaits 98 = .ok (.iconst 1, 1) := by decide +kernel
theorem d_W_directWaits_99 : decode b_W_directWaits 99 = .ok (.aload_n 3, 1) := by decide +kernel
theorem d_W_directWaits_100 : decode b_W_directWaits 100 = .ok (.iload 5, 2) := by decide +kernel
theorem d_W_directWaits_102 : decode b_W_directWaits 102 = .ok (.invokevirtual 74, 3) := by decide +kernel
theorem d_W_directWaits_105 : decode b_W_directWaits 105 = .ok (.ishl, 1) := by decide +kernel
theorem d_W_directWaits_106 : decode b_W_directWaits 106 = .ok (.ior, 1) := by decide +kernel
theorem d_W_directWaits_107 : decode b_W_directWaits 107 = .ok (.istore_n 2, 1) := by decide +kernel
theorem d_W_directWaits_108 : decode b_W_directWaits 108 = .ok (.iinc 5 1, 3) := by decide +kernel
theorem d_W_directWaits_111 : decode b_W_directWaits 111 = .ok (.goto (-79), 3) := by decide +kernel
theorem d_W_directWaits_114 : decode b_W_directWaits 114 = .ok (.iload_n 2, 1) := by decide +kernel
theorem d_W_directWaits_115 : decode b_W_directWaits 115 = .ok (.ireturn, 1) := by decide +kernel
theorem m_W_directWaits : fk_MI y_W_directWaits b_W_directWaits 6 (some .int) 1 := ⟨i_243, i_242, fk_mp (q := (y_W_directWaits, 5)) (by decide +kernel), i_5, by decide +kernel⟩
set_option maxHeartbeats 4000000 in
set_option maxRecDepth 100000 in
theorem c_W_directWaits (l : Launch) (g : fk_G) (ov : Int64) (M : fk_M) (n : Nat) (ck P sz : Nat → Nat) (bb : Nat → Nat → Nat) (hs : fk_Sh n ck P sz bb M) (j : Nat) (hj : j < 12) : fk_CI l y_W_directWaits b_W_directWaits 6 (some .int) (fk_rm 3) g ov M M [.ref (fk_a g 75), .ref (fk_a g (3 + 6 * j))] (fk_nd ck P sz bb M j) := by
  refine fk_ofI rfl (Nat.le_of_ble_eq_true rfl) ?_
  intro p e s m args below meth c ls S hr hlk E G hl
  have hl : lv_has ls 6 [(0, .ref (fk_a g 75)), (1, .ref (fk_a g (3 + 6 * j)))] := hl
  obtain ⟨hX, hq, hck, h25, hsz, h40, hb, hcl, hT, -⟩ := hs.2.2 j hj
  have h12 := hs.2.1
  have loop : ∀ (d : Nat) (i hid : Nat) (mk : Int32) (H : Heap) (locs : List Loc) (ls : Array Slot), i + d = sz j → hid ≤ 40 → fk_dw (bb j) (M (P j + 2)) d i hid mk = fk_nd ck P sz bb M j → fk_H g ov (M) s H locs → lv_has ls 6 [(5, .int (nI i)), (4, .int (nI hid)), (3, .ref (fk_a g (P j))), (2, .int mk), (0, .ref (fk_a g 75)), (1, .ref (fk_a g (3 + 6 * j)))] → W p l e (fk_rm (3)) s m args below meth c H locs 0 0 (MQ below (va_Qi (fun rr (_ : Unit) => rr = fk_nd ck P sz bb M j) (fun _ t => fk_Wd g ov (M) t) (fk_A g)) args s 0 0 (fk_A g)) (F0 m 32 ls []) := by
    intro d
    induction d with
    | zero =>
      intro i hid mk H locs ls hv0 hv1 hv2 G hl
      refine lv_iload S.1 S.2.1 d_W_directWaits_32 (lv_at hl 0 rfl) ?_
      refine lv_aload_n S.1 S.2.1 d_W_directWaits_34 rfl (lv_at hl 2 rfl) ?_
      refine fk_gn S E G (P j) (by have := fk_Xlt hX; omega) (v := .int (M (P j) 4)) (congrArg (fk_ce g ov (P j) (M (P j))) (fk_kx0 hX)) rfl 4 (by decide) rfl (List.mem_of_getElem? (i := 10) rfl) rfl d_W_directWaits_35 ?_
      rw [hsz]
      refine fk_cge (tgt := 114) S.1 S.2.1 (by omega) (by omega) d_W_directWaits_38 rfl (fun hc1 => ?_) (fun hc1 => ?_)
      · refine lv_iload_n S.1 S.2.1 d_W_directWaits_114 rfl (lv_at hl 3 rfl) ?_
        exact fk_iret S hr hlk E G rfl (by rw [← hv2]; rfl) d_W_directWaits_115
      · exact absurd hv0 (by omega)
    | succ d ih =>
      intro i hid mk H locs ls hv0 hv1 hv2 G hl
      refine lv_iload S.1 S.2.1 d_W_directWaits_32 (lv_at hl 0 rfl) ?_
      refine lv_aload_n S.1 S.2.1 d_W_directWaits_34 rfl (lv_at hl 2 rfl) ?_
      refine fk_gn S E G (P j) (by have := fk_Xlt hX; omega) (v := .int (M (P j) 4)) (congrArg (fk_ce g ov (P j) (M (P j))) (fk_kx0 hX)) rfl 4 (by decide) rfl (List.mem_of_getElem? (i := 10) rfl) rfl d_W_directWaits_35 ?_
      rw [hsz]
      refine fk_cge (tgt := 114) S.1 S.2.1 (by omega) (by omega) d_W_directWaits_38 rfl (fun hc2 => ?_) (fun hc2 => ?_)
      · exact absurd hv0 (by omega)
      · have step : ∀ (hid2 : Nat) (mk2 : Int32) (H : Heap) (locs : List Loc) (ls : Array Slot), hid2 ≤ 40 → fk_dw (bb j) (M (P j + 2)) d (i + 1) hid2 mk2 = fk_nd ck P sz bb M j → fk_H g ov M s H locs → lv_has ls 6 [(5, .int (nI i)), (4, .int (nI hid2)), (3, .ref (fk_a g (P j))), (2, .int mk2), (0, .ref (fk_a g 75)), (1, .ref (fk_a g (3 + 6 * j)))] → W p l e (fk_rm (3)) s m args below meth c H locs 0 0 (MQ below (va_Qi (fun rr (_ : Unit) => rr = fk_nd ck P sz bb M j) (fun _ t => fk_Wd g ov (M) t) (fk_A g)) args s 0 0 (fk_A g)) (F0 m 108 ls []) := by
          intro hid2 mk2 H locs ls q1 q2 G hl
          refine lv_iinc (k := 0) (v := nI (i + 1)) (lv' := [(5, .int (nI (i + 1))), (4, .int (nI hid2)), (3, .ref (fk_a g (P j))), (2, .int mk2), (0, .ref (fk_a g 75)), (1, .ref (fk_a g (3 + 6 * j)))]) S.1 S.2.1 d_W_directWaits_108 hl rfl (nI_1 i) (by decide) rfl (fun ls hl => ?_)
          refine lv_goto (tgt := 32) S.1 S.2.1 d_W_directWaits_111 rfl ?_
          exact ih (i + 1) hid2 mk2 H locs ls (by omega) q1 q2 G hl
        refine lv_iload S.1 S.2.1 d_W_directWaits_41 (lv_at hl 0 rfl) ?_
        refine lv_iload S.1 S.2.1 d_W_directWaits_43 (lv_at hl 1 rfl) ?_
        refine fk_clt (tgt := 108) S.1 S.2.1 (by omega) (by omega) d_W_directWaits_45 rfl (fun hc3 => ?_) (fun hc3 => ?_)
        · exact step hid mk H locs ls hv1 (by rw [← hv2]; exact (if_pos (Or.inl hc3)).symm) G hl
        · refine lv_aload_n S.1 S.2.1 d_W_directWaits_48 rfl (lv_at hl 2 rfl) ?_
          refine lv_iload S.1 S.2.1 d_W_directWaits_49 (lv_at hl 0 rfl) ?_
          refine fk_cni S E G (P j) (by have := fk_Xlt hX; omega) (congrArg (fk_ce g ov (P j) (M (P j))) (fk_kx0 hX)) rfl (rest := []) (c_E_beginsAt l g ov M (P j) hX i (by omega)) m_E_beginsAt (List.mem_of_getElem? (i := 11) rfl) ⟨rfl, rfl⟩ ⟨by decide, by decide⟩ rfl rfl hl.1 (Nat.le_of_ble_eq_true rfl) d_W_directWaits_51 ⟨Nat.zero_le _, Nat.zero_le _⟩ (fun H locs G => ?_)
          refine fk_zne (tgt := 60) S.1 S.2.1 (fk_bl _) d_W_directWaits_54 rfl (fun hc4 => ?_) (fun hc4 => ?_)
          · have hE := of_decide_eq_true (fk_bt hc4)
            have hno : ¬ (i < hid ∨ ¬ 0 < M (P j + 2) i) := fun q => q.elim (fun q => by omega) (fun q => q hE)
            obtain ⟨q, ee, hq10, hok, hEe, hlt, hle, hts⟩ := fk_node (by omega) (hT (by omega)) (show i < sz j by omega) hE
            have hok2 := hok.2.1
            have hlen := hok.2.2.1
            refine lv_aload_n S.1 S.2.1 d_W_directWaits_60 rfl (lv_at hl 2 rfl) ?_
            refine fk_gn S E G (P j) (by have := fk_Xlt hX; omega) (v := .ref (fk_a g (P j + 1))) (congrArg (fk_ce g ov (P j) (M (P j))) (fk_kx0 hX)) rfl 0 (by decide) rfl (List.mem_of_getElem? (i := 0) rfl) rfl d_W_directWaits_61 ?_
            refine lv_iload S.1 S.2.1 d_W_directWaits_64 (lv_at hl 0 rfl) ?_
            refine fk_ia S E G (P j + 1) (by have := fk_Xlt hX; omega) (congrArg (fk_ce g ov (P j + 1) (M (P j + 1))) (fk_kx1 hX)) i rfl (by omega) (by decide) (v := nI (bb j i)) (hb i (by omega)).1 d_W_directWaits_66 ?_
            refine lv_bipush (v := nI 14) S.1 S.2.1 d_W_directWaits_67 (by decide +kernel) ?_
            refine fk_cne (tgt := 84) S.1 S.2.1 (by omega) (by omega) d_W_directWaits_69 rfl (fun hc5 => ?_) (fun hc5 => ?_)
            · refine lv_aload_n S.1 S.2.1 d_W_directWaits_84 rfl (lv_at hl 2 rfl) ?_
              refine fk_gn S E G (P j) (by have := fk_Xlt hX; omega) (v := .ref (fk_a g (P j + 1))) (congrArg (fk_ce g ov (P j) (M (P j))) (fk_kx0 hX)) rfl 0 (by decide) rfl (List.mem_of_getElem? (i := 0) rfl) rfl d_W_directWaits_85 ?_
              refine lv_iload S.1 S.2.1 d_W_directWaits_88 (lv_at hl 0 rfl) ?_
              refine fk_ia S E G (P j + 1) (by have := fk_Xlt hX; omega) (congrArg (fk_ce g ov (P j + 1) (M (P j + 1))) (fk_kx1 hX)) i rfl (by omega) (by decide) (v := nI (bb j i)) (hb i (by omega)).1 d_W_directWaits_90 ?_
              refine fk_cti S E G (rest := []) (c_D_namesFlow l g ov M (bb j i) hok2) m_D_namesFlow (List.mem_of_getElem? (i := 12) rfl) ⟨rfl, rfl⟩ ⟨by decide, by decide⟩ rfl rfl hl.1 (Nat.le_of_ble_eq_true rfl) d_W_directWaits_91 ⟨Nat.zero_le _, Nat.zero_le _⟩ (fun H locs G => ?_)
              refine fk_zeq (tgt := 108) S.1 S.2.1 (fk_bl _) d_W_directWaits_94 rfl (fun hc6 => ?_) (fun hc6 => ?_)
              · have hnm := of_decide_eq_false (fk_bf hc6)
                exact step hid mk H locs ls hv1 (by rw [← hv2]; show _ = (if _ then _ else if _ then _ else if _ then _ else _); rw [if_neg hno, if_neg hc5, if_neg hnm]) G hl
              · have hnm := of_decide_eq_true (fk_bt hc6)
                have hd2 := fk_hd2 hnm
                refine lv_iload_n S.1 S.2.1 d_W_directWaits_97 rfl (lv_at hl 3 rfl) ?_
                refine lv_iconst (v := nI 1) S.1 S.2.1 d_W_directWaits_98 (by decide +kernel) ?_
                refine lv_aload_n S.1 S.2.1 d_W_directWaits_99 rfl (lv_at hl 2 rfl) ?_
                refine lv_iload S.1 S.2.1 d_W_directWaits_100 (lv_at hl 0 rfl) ?_
                refine fk_cni S E G (P j) (by have := fk_Xlt hX; omega) (congrArg (fk_ce g ov (P j) (M (P j))) (fk_kx0 hX)) rfl (rest := [.int (nI 1), .int mk]) ((hb (i + 1) (by omega)).1 ▸ c_E_named l g ov M (P j) hX i (by omega)) m_E_named (List.mem_of_getElem? (i := 13) rfl) ⟨rfl, rfl⟩ ⟨by decide, by decide⟩ rfl rfl hl.1 (Nat.le_of_ble_eq_true rfl) d_W_directWaits_102 ⟨Nat.zero_le _, Nat.zero_le _⟩ (fun H locs G => ?_)
                refine lv_ishl S.1 S.2.1 d_W_directWaits_105 ?_
                refine lv_ior S.1 S.2.1 d_W_directWaits_106 ?_
                refine lv_istore_n (lv' := [(2, .int (mk ||| ((nI 1) <<< (nI (bb j (i + 1)) &&& 31)))), (5, .int (nI i)), (4, .int (nI hid)), (3, .ref (fk_a g (P j))), (0, .ref (fk_a g 75)), (1, .ref (fk_a g (3 + 6 * j)))]) S.1 S.2.1 d_W_directWaits_107 rfl hl (by decide) rfl (fun ls hl => ?_)
                exact step hid _ H locs ls hv1 (by rw [← hv2]; show _ = (if _ then _ else if _ then _ else if _ then _ else _); rw [if_neg hno, if_neg hc5, if_pos hnm]) G (lv_sub hl [1, 2, 3, 0, 4, 5] rfl)
            · refine lv_aload_n S.1 S.2.1 d_W_directWaits_72 rfl (lv_at hl 2 rfl) ?_
              refine fk_gn S E G (P j) (by have := fk_Xlt hX; omega) (v := .ref (fk_a g (P j + 2))) (congrArg (fk_ce g ov (P j) (M (P j))) (fk_kx0 hX)) rfl 1 (by decide) rfl (List.mem_of_getElem? (i := 3) rfl) rfl d_W_directWaits_73 ?_
              refine lv_iload S.1 S.2.1 d_W_directWaits_76 (lv_at hl 0 rfl) ?_
              refine fk_ia S E G (P j + 2) (by have := fk_Xlt hX; omega) (congrArg (fk_ce g ov (P j + 2) (M (P j + 2))) (fk_kx2 hX)) i rfl (by omega) (by decide) (v := nI ee) hEe d_W_directWaits_78 ?_
              refine lv_istore (lv' := [(4, .int (nI ee)), (5, .int (nI i)), (3, .ref (fk_a g (P j))), (2, .int mk), (0, .ref (fk_a g 75)), (1, .ref (fk_a g (3 + 6 * j)))]) S.1 S.2.1 d_W_directWaits_79 hl (by decide) rfl (fun ls hl => ?_)
              refine lv_goto (tgt := 108) S.1 S.2.1 d_W_directWaits_81 rfl ?_
              exact step ee mk H locs ls (by omega) (by rw [← hv2]; show _ = (if _ then _ else if _ then _ else _); rw [if_neg hno, if_pos hc5, hEe, nI_clamp (by omega)]) G (lv_sub hl [1, 0, 2, 3, 4, 5] rfl)
          · have hE := of_decide_eq_false (fk_bf hc4)
            refine lv_goto (tgt := 108) S.1 S.2.1 d_W_directWaits_57 rfl ?_
            exact step hid mk H locs ls hv1 (by rw [← hv2]; exact (if_pos (Or.inr hE)).symm) G hl
  refine lv_aload_n S.1 S.2.1 d_W_directWaits_0 rfl (lv_at hl 1 rfl) ?_
  refine fk_gn S E G (3 + 6 * j) (by omega) (v := .int (M (3 + 6 * j) 3)) (congrArg (fk_ce g ov (3 + 6 * j) (M (3 + 6 * j))) (fk_kf hj)) rfl 3 (by decide) rfl (List.mem_of_getElem? (i := 24) rfl) rfl d_W_directWaits_1 ?_
  rw [hck]
  refine fk_zne (tgt := 11) S.1 S.2.1 (by omega) d_W_directWaits_4 rfl (fun hc7 => ?_) (fun hc7 => ?_)
  · refine lv_iconst (v := nI 1) S.1 S.2.1 d_W_directWaits_11 (by decide +kernel) ?_
    refine lv_aload_n S.1 S.2.1 d_W_directWaits_12 rfl (lv_at hl 1 rfl) ?_
    refine fk_gn S E G (3 + 6 * j) (by omega) (v := .int (M (3 + 6 * j) 3)) (congrArg (fk_ce g ov (3 + 6 * j) (M (3 + 6 * j))) (fk_kf hj)) rfl 3 (by decide) rfl (List.mem_of_getElem? (i := 24) rfl) rfl d_W_directWaits_13 ?_
    rw [hck]
    refine fk_cti S E G (rest := [.int (nI 1)]) (c_D_flowBehind l g ov M (ck j) (by omega) (by omega)) m_D_flowBehind (List.mem_of_getElem? (i := 10) rfl) ⟨rfl, rfl⟩ ⟨by decide, by decide⟩ rfl rfl hl.1 (Nat.le_of_ble_eq_true rfl) d_W_directWaits_16 ⟨Nat.zero_le _, Nat.zero_le _⟩ (fun H locs G => ?_)
    refine lv_ishl S.1 S.2.1 d_W_directWaits_19 ?_
    refine lv_istore_n (lv' := [(2, .int ((nI 1) <<< (nI ((ck j - 1) / 2) &&& 31))), (0, .ref (fk_a g 75)), (1, .ref (fk_a g (3 + 6 * j)))]) S.1 S.2.1 d_W_directWaits_20 rfl hl (by decide) rfl (fun ls hl => ?_)
    refine lv_aload_n S.1 S.2.1 d_W_directWaits_21 rfl (lv_at hl 2 rfl) ?_
    refine fk_gn S E G (3 + 6 * j) (by omega) (v := .ref (fk_a g (P j))) (fk_flow hj hq (fk_Xb hX)) rfl 0 (by decide) rfl (List.mem_of_getElem? (i := 14) rfl) rfl d_W_directWaits_22 ?_
    refine lv_astore_n (lv' := [(3, .ref (fk_a g (P j))), (2, .int ((nI 1) <<< (nI ((ck j - 1) / 2) &&& 31))), (0, .ref (fk_a g 75)), (1, .ref (fk_a g (3 + 6 * j)))]) S.1 S.2.1 d_W_directWaits_25 rfl hl (by decide) rfl (fun ls hl => ?_)
    refine lv_iconst (v := nI 0) S.1 S.2.1 d_W_directWaits_26 (by decide +kernel) ?_
    refine lv_istore (lv' := [(4, .int (nI 0)), (3, .ref (fk_a g (P j))), (2, .int ((nI 1) <<< (nI ((ck j - 1) / 2) &&& 31))), (0, .ref (fk_a g 75)), (1, .ref (fk_a g (3 + 6 * j)))]) S.1 S.2.1 d_W_directWaits_27 hl (by decide) rfl (fun ls hl => ?_)
    refine lv_iconst (v := nI 0) S.1 S.2.1 d_W_directWaits_29 (by decide +kernel) ?_
    refine lv_istore (lv' := [(5, .int (nI 0)), (4, .int (nI 0)), (3, .ref (fk_a g (P j))), (2, .int ((nI 1) <<< (nI ((ck j - 1) / 2) &&& 31))), (0, .ref (fk_a g 75)), (1, .ref (fk_a g (3 + 6 * j)))]) S.1 S.2.1 d_W_directWaits_30 hl (by decide) rfl (fun ls hl => ?_)
    exact loop (sz j) 0 0 _ H locs ls (by omega) (by omega) (by unfold fk_nd fk_cm; rw [if_neg (by omega)]) G hl
  · refine lv_iconst (v := nI 0) S.1 S.2.1 d_W_directWaits_7 (by decide +kernel) ?_
    refine lv_goto (tgt := 20) S.1 S.2.1 d_W_directWaits_8 rfl ?_
    refine lv_istore_n (lv' := [(2, .int (nI 0)), (0, .ref (fk_a g 75)), (1, .ref (fk_a g (3 + 6 * j)))]) S.1 S.2.1 d_W_directWaits_20 rfl hl (by decide) rfl (fun ls hl => ?_)
    refine lv_aload_n S.1 S.2.1 d_W_directWaits_21 rfl (lv_at hl 2 rfl) ?_
    refine fk_gn S E G (3 + 6 * j) (by omega) (v := .ref (fk_a g (P j))) (fk_flow hj hq (fk_Xb hX)) rfl 0 (by decide) rfl (List.mem_of_getElem? (i := 14) rfl) rfl d_W_directWaits_22 ?_
    refine lv_astore_n (lv' := [(3, .ref (fk_a g (P j))), (2, .int (nI 0)), (0, .ref (fk_a g 75)), (1, .ref (fk_a g (3 + 6 * j)))]) S.1 S.2.1 d_W_directWaits_25 rfl hl (by decide) rfl (fun ls hl => ?_)
    refine lv_iconst (v := nI 0) S.1 S.2.1 d_W_directWaits_26 (by decide +kernel) ?_
    refine lv_istore (lv' := [(4, .int (nI 0)), (3, .ref (fk_a g (P j))), (2, .int (nI 0)), (0, .ref (fk_a g 75)), (1, .ref (fk_a g (3 + 6 * j)))]) S.1 S.2.1 d_W_directWaits_27 hl (by decide) rfl (fun ls hl => ?_)
    refine lv_iconst (v := nI 0) S.1 S.2.1 d_W_directWaits_29 (by decide +kernel) ?_
    refine lv_istore (lv' := [(5, .int (nI 0)), (4, .int (nI 0)), (3, .ref (fk_a g (P j))), (2, .int (nI 0)), (0, .ref (fk_a g 75)), (1, .ref (fk_a g (3 + 6 * j)))]) S.1 S.2.1 d_W_directWaits_30 hl (by decide) rfl (fun ls hl => ?_)
    exact loop (sz j) 0 0 _ s.heap [] ls (by omega) (by omega) (by unfold fk_nd fk_cm; rw [if_pos hc7]) G hl
theorem d_W_trace_0 : decode b_W_trace 0 = .ok (.iconst 0, 1) := by decide +kernel
theorem d_W_trace_1 : decode b_W_trace 1 = .ok (.istore_n 1, 1) := by decide +kernel
theorem d_W_trace_2 : decode b_W_trace 2 = .ok (.iload_n 1, 1) := by decide +kernel
theorem d_W_trace_3 : decode b_W_trace 3 = .ok (.aload_n 0, 1) := by decide +kernel
theorem d_W_trace_4 : decode b_W_trace 4 = .ok (.getfield 21, 3) := by decide +kernel
theorem d_W_trace_7 : decode b_W_trace 7 = .ok (.getfield 25, 3) := by decide +kernel
theorem d_W_trace_10 : decode b_W_trace 10 = .ok (.if_icmp .ge 28, 3) := by decide +kernel
theorem d_W_trace_13 : decode b_W_trace 13 = .ok (.aload_n 0, 1) := by decide +kernel
theorem d_W_trace_14 : decode b_W_trace 14 = .ok (.getfield 9, 3) := by decide +kernel
theorem d_W_trace_17 : decode b_W_trace 17 = .ok (.iload_n 1, 1) := by decide +kernel
theorem d_W_trace_18 : decode b_W_trace 18 = .ok (.aload_n 0, 1) := by decide +kernel
theorem d_W_trace_19 : decode b_W_trace 19 = .ok (.aload_n 0, 1) := by decide +kernel
theorem d_W_trace_20 : decode b_W_trace 20 = .ok (.getfield 21, 3) := by decide +kernel
theorem d_W_trace_23 : decode b_W_trace 23 = .ok (.getfield 31, 3) := by decide +kernel
theorem d_W_trace_26 : decode b_W_trace 26 = .ok (.iload_n 1, 1) := by decide +kernel
theorem d_W_trace_27 : decode b_W_trace 27 = .ok (.aaload, 1) := by decide +kernel
theorem d_W_trace_28 : decode b_W_trace 28 = .ok (.invokevirtual 35, 3) := by decide +kernel
theorem d_W_trace_31 : decode b_W_trace 31 = .ok (.iastore, 1) := by decide +kernel
theorem d_W_trace_32 : decode b_W_trace 32 = .ok (.iinc 1 1, 3) := by decide +kernel
theorem d_W_trace_35 : decode b_W_trace 35 = .ok (.goto (-33), 3) := by decide +kernel
theorem d_W_trace_38 : decode b_W_trace 38 = .ok (.iconst 0, 1) := by decide +kernel
theorem d_W_trace_39 : decode b_W_trace 39 = .ok (.istore_n 1, 1) := by decide +kernel
theorem d_W_trace_40 : decode b_W_trace 40 = .ok (.iload_n 1, 1) := by decide +kernel
theorem d_W_trace_41 : decode b_W_trace 41 = .ok (.aload_n 0, 1) := by decide +kernel
theorem d_W_trace_42 : decode b_W_trace 42 = .ok (.getfield 21, 3) := by decide +kernel
theorem d_W_trace_45 : decode b_W_trace 45 = .ok (.getfield 25, 3) := by decide +kernel
theorem d_W_trace_48 : decode b_W_trace 48 = .ok (.if_icmp .ge 52, 3) := by decide +kernel
theorem d_W_trace_51 : decode b_W_trace 51 = .ok (.iconst 0, 1) := by decide +kernel
theorem d_W_trace_52 : decode b_W_trace 52 = .ok (.istore_n 2, 1) := by decide +kernel
theorem d_W_trace_53 : decode b_W_trace 53 = .ok (.iload_n 2, 1) := by decide +kernel
theorem d_W_trace_54 : decode b_W_trace 54 = .ok (.aload_n 0, 1) := by decide +kernel
theorem d_W_trace_55 : decode b_W_trace 55 = .ok (.getfield 21, 3) := by decide +kernel
theorem d_W_trace_58 : decode b_W_trace 58 = .ok (.getfield 25, 3) := by decide +kernel
theorem d_W_trace_61 : decode b_W_trace 61 = .ok (.if_icmp .ge 33, 3) := by decide +kernel
theorem d_W_trace_64 : decode b_W_trace 64 = .ok (.aload_n 0, 1) := by decide +kernel
theorem d_W_trace_65 : decode b_W_trace 65 = .ok (.iload_n 2, 1) := by decide +kernel
theorem d_W_trace_66 : decode b_W_trace 66 = .ok (.iload_n 1, 1) := by decide +kernel
theorem d_W_trace_67 : decode b_W_trace 67 = .ok (.invokevirtual 39, 3) := by decide +kernel
theorem d_W_trace_70 : decode b_W_trace 70 = .ok (.ifCond .eq 18, 3) := by decide +kernel
theorem d_W_trace_73 : decode b_W_trace 73 = .ok (.aload_n 0, 1) := by decide +kernel
theorem d_W_trace_74 : decode b_W_trace 74 = .ok (.getfield 9, 3) := by decide +kernel
theorem d_W_trace_77 : decode b_W_trace 77 = .ok (.iload_n 2, 1) := by decide +kernel
theorem d_W_trace_78 : decode b_W_trace 78 = .ok (.dup2, 1) := by decide +kernel
theorem d_W_trace_79 : decode b_W_trace 79 = .ok (.iaload, 1) := by decide +kernel
theorem d_W_trace_80 : decode b_W_trace 80 = .ok (.aload_n 0, 1) := by decide +kernel
theorem d_W_trace_81 : decode b_W_trace 81 = .ok (.getfield 9, 3) := by decide +kernel
theorem d_W_trace_84 : decode b_W_trace 84 = .ok (.iload_n 1, 1) := by decide +kernel
theorem d_W_trace_85 : decode b_W_trace 85 = .ok (.iaload, 1) := by decide +kernel
theorem d_W_trace_86 : decode b_W_trace 86 = .ok (.ior, 1) := by decide +kernel
theorem d_W_trace_87 : decode b_W_trace 87 = .ok (.iastore, 1) := by decide +kernel
theorem d_W_trace_88 : decode b_W_trace 88 = .ok (.iinc 2 1, 3) := by decide +kernel
theorem d_W_trace_91 : decode b_W_trace 91 = .ok (.goto (-38), 3) := by decide +kernel
theorem d_W_trace_94 : decode b_W_trace 94 = .ok (.iinc 1 1, 3) := by decide +kernel
theorem d_W_trace_97 : decode b_W_trace 97 = .ok (.goto (-57), 3) := by decide +kernel
theorem d_W_trace_100 : decode b_W_trace 100 = .ok (.return_, 1) := by decide +kernel
theorem m_W_trace : fk_MI y_W_trace b_W_trace 3 none 0 := ⟨i_239, i_238, fk_mp (q := (y_W_trace, 5)) (by decide +kernel), i_5, by decide +kernel⟩
set_option maxHeartbeats 4000000 in
set_option maxRecDepth 100000 in
theorem c_W_trace (l : Launch) (g : fk_G) (ov : Int64) (M : fk_M) (n : Nat) (ck P sz : Nat → Nat) (bb : Nat → Nat → Nat) (hs : fk_Sh n ck P sz bb M) : fk_CV l y_W_trace b_W_trace 3 (fk_rm 4) g ov M (fk_tr n ck P sz bb M) [.ref (fk_a g 75)] := by
  refine fk_ofV rfl (Nat.le_of_ble_eq_true rfl) ?_
  intro p e s m args below meth c ls S hr hlk E G hl
  have hl : lv_has ls 3 [(0, .ref (fk_a g 75))] := hl
  have h12 := hs.2.1
  have hP : ∀ j, j < 12 → fk_X (P j) := fun j hj => (hs.2.2 j hj).1
  have loop2 : ∀ (d : Nat) (k : Nat) (H : Heap) (locs : List Loc) (ls : Array Slot), k + d = n → fk_H g ov (fk_t2 n (fk_t1 ck P sz bb M n) k) s H locs → lv_has ls 3 [(1, .int (nI k)), (0, .ref (fk_a g 75))] → W p l e (fk_rm (4)) s m args below meth c H locs 0 0 (MQ below (va_Qv (fun (_ : Unit) => True) (fun _ t => fk_Wd g ov (fk_tr n ck P sz bb M) t) (fk_A g)) args s 0 0 (fk_A g)) (F0 m 40 ls []) := by
    intro d
    induction d with
    | zero =>
      intro k H locs ls hv0 G hl
      obtain ⟨M1, hM1⟩ : ∃ z : fk_M, z = fk_t2 n (fk_t1 ck P sz bb M n) k := ⟨_, rfl⟩
      rw [← hM1] at G
      have hs1 : fk_Sh n ck P sz bb M1 := by rw [hM1]; exact hs.to (fk_O.Eq (by omega) (fk_t2_O n (fk_t1_O ck P sz bb M n) k))
      refine lv_iload_n S.1 S.2.1 d_W_trace_40 rfl (lv_at hl 0 rfl) ?_
      refine lv_aload_n S.1 S.2.1 d_W_trace_41 rfl (lv_at hl 1 rfl) ?_
      refine fk_gf S E G 75 (by decide) (v := .ref (fk_a g 1)) (congrArg (fk_ce g ov 75 (M1 75)) kd_75) rfl 0 (by decide) rfl i_131 rfl d_W_trace_42 ?_
      refine fk_gn S E G 1 (by decide) (v := .int (M1 1 1)) (congrArg (fk_ce g ov 1 (M1 1)) kd_1) rfl 1 (by decide) rfl (List.mem_of_getElem? (i := 38) rfl) rfl d_W_trace_45 ?_
      rw [hs1.1]
      refine fk_cge (tgt := 100) S.1 S.2.1 (by omega) (by omega) d_W_trace_48 rfl (fun hc1 => ?_) (fun hc1 => ?_)
      · have hkn : k = n := by omega
        subst hkn
        exact fk_vret S hr hlk E G hM1 d_W_trace_100
      · exact absurd hv0 (by omega)
    | succ d ih =>
      intro k H locs ls hv0 G hl
      obtain ⟨M1, hM1⟩ : ∃ z : fk_M, z = fk_t2 n (fk_t1 ck P sz bb M n) k := ⟨_, rfl⟩
      rw [← hM1] at G
      have hs1 : fk_Sh n ck P sz bb M1 := by rw [hM1]; exact hs.to (fk_O.Eq (by omega) (fk_t2_O n (fk_t1_O ck P sz bb M n) k))
      refine lv_iload_n S.1 S.2.1 d_W_trace_40 rfl (lv_at hl 0 rfl) ?_
      refine lv_aload_n S.1 S.2.1 d_W_trace_41 rfl (lv_at hl 1 rfl) ?_
      refine fk_gf S E G 75 (by decide) (v := .ref (fk_a g 1)) (congrArg (fk_ce g ov 75 (M1 75)) kd_75) rfl 0 (by decide) rfl i_131 rfl d_W_trace_42 ?_
      refine fk_gn S E G 1 (by decide) (v := .int (M1 1 1)) (congrArg (fk_ce g ov 1 (M1 1)) kd_1) rfl 1 (by decide) rfl (List.mem_of_getElem? (i := 38) rfl) rfl d_W_trace_45 ?_
      rw [hs1.1]
      refine fk_cge (tgt := 100) S.1 S.2.1 (by omega) (by omega) d_W_trace_48 rfl (fun hc2 => ?_) (fun hc2 => ?_)
      · exact absurd hv0 (by omega)
      · rw [hM1] at G
        have inner : ∀ (d2 i : Nat) (H : Heap) (locs : List Loc) (ls : Array Slot), i + d2 = n → fk_H g ov (fk_t3 (fk_t2 n (fk_t1 ck P sz bb M n) k) k i) s H locs → lv_has ls 3 [(2, .int (nI i)), (1, .int (nI k)), (0, .ref (fk_a g 75))] → W p l e (fk_rm (4)) s m args below meth c H locs 0 0 (MQ below (va_Qv (fun (_ : Unit) => True) (fun _ t => fk_Wd g ov (fk_tr n ck P sz bb M) t) (fk_A g)) args s 0 0 (fk_A g)) (F0 m 53 ls []) := by
          intro d2
          induction d2 with
          | zero =>
            intro i H locs ls hw0 G hl
            obtain ⟨M2, hM2⟩ : ∃ z : fk_M, z = fk_t3 (fk_t2 n (fk_t1 ck P sz bb M n) k) k i := ⟨_, rfl⟩
            rw [← hM2] at G
            have hs2 : fk_Sh n ck P sz bb M2 := by rw [hM2]; exact hs.to (fk_O.Eq (by omega) (fk_t3_O k (fk_t2_O n (fk_t1_O ck P sz bb M n) k) i))
            refine lv_iload_n S.1 S.2.1 d_W_trace_53 rfl (lv_at hl 0 rfl) ?_
            refine lv_aload_n S.1 S.2.1 d_W_trace_54 rfl (lv_at hl 2 rfl) ?_
            refine fk_gf S E G 75 (by decide) (v := .ref (fk_a g 1)) (congrArg (fk_ce g ov 75 (M2 75)) kd_75) rfl 0 (by decide) rfl i_131 rfl d_W_trace_55 ?_
            refine fk_gn S E G 1 (by decide) (v := .int (M2 1 1)) (congrArg (fk_ce g ov 1 (M2 1)) kd_1) rfl 1 (by decide) rfl (List.mem_of_getElem? (i := 38) rfl) rfl d_W_trace_58 ?_
            rw [hs2.1]
            refine fk_cge (tgt := 94) S.1 S.2.1 (by omega) (by omega) d_W_trace_61 rfl (fun hc3 => ?_) (fun hc3 => ?_)
            · refine lv_iinc (k := 1) (v := nI (k + 1)) (lv' := [(1, .int (nI (k + 1))), (2, .int (nI i)), (0, .ref (fk_a g 75))]) S.1 S.2.1 d_W_trace_94 hl rfl (nI_1 k) (by decide) rfl (fun ls hl => ?_)
              refine lv_goto (tgt := 40) S.1 S.2.1 d_W_trace_97 rfl ?_
              have hin : i = n := by omega
              rw [hM2, hin] at G
              exact ih (k + 1) H locs ls (by omega) G (lv_sub hl [0, 2] rfl)
            · exact absurd hw0 (by omega)
          | succ d2 ih2 =>
            intro i H locs ls hw0 G hl
            obtain ⟨M2, hM2⟩ : ∃ z : fk_M, z = fk_t3 (fk_t2 n (fk_t1 ck P sz bb M n) k) k i := ⟨_, rfl⟩
            rw [← hM2] at G
            have hs2 : fk_Sh n ck P sz bb M2 := by rw [hM2]; exact hs.to (fk_O.Eq (by omega) (fk_t3_O k (fk_t2_O n (fk_t1_O ck P sz bb M n) k) i))
            refine lv_iload_n S.1 S.2.1 d_W_trace_53 rfl (lv_at hl 0 rfl) ?_
            refine lv_aload_n S.1 S.2.1 d_W_trace_54 rfl (lv_at hl 2 rfl) ?_
            refine fk_gf S E G 75 (by decide) (v := .ref (fk_a g 1)) (congrArg (fk_ce g ov 75 (M2 75)) kd_75) rfl 0 (by decide) rfl i_131 rfl d_W_trace_55 ?_
            refine fk_gn S E G 1 (by decide) (v := .int (M2 1 1)) (congrArg (fk_ce g ov 1 (M2 1)) kd_1) rfl 1 (by decide) rfl (List.mem_of_getElem? (i := 38) rfl) rfl d_W_trace_58 ?_
            rw [hs2.1]
            refine fk_cge (tgt := 94) S.1 S.2.1 (by omega) (by omega) d_W_trace_61 rfl (fun hc4 => ?_) (fun hc4 => ?_)
            · exact absurd hw0 (by omega)
            · refine lv_aload_n S.1 S.2.1 d_W_trace_64 rfl (lv_at hl 2 rfl) ?_
              refine lv_iload_n S.1 S.2.1 d_W_trace_65 rfl (lv_at hl 0 rfl) ?_
              refine lv_iload_n S.1 S.2.1 d_W_trace_66 rfl (lv_at hl 1 rfl) ?_
              refine fk_cvi S E G 75 (by decide) (congrArg (fk_ce g ov 75 (M2 75)) kd_75) rfl (rest := []) (c_W_waitsFor l g ov M2 i k (by omega)) m_W_waitsFor i_261 ⟨rfl, rfl⟩ ⟨by decide, by decide⟩ rfl rfl hl.1 (Nat.le_of_ble_eq_true rfl) d_W_trace_67 ⟨Nat.zero_le _, Nat.zero_le _⟩ (fun H locs G => ?_)
              refine fk_zeq (tgt := 88) S.1 S.2.1 (fk_bl _) d_W_trace_70 rfl (fun hc5 => ?_) (fun hc5 => ?_)
              · have hf := fk_bf hc5
                refine lv_iinc (k := 0) (v := nI (i + 1)) (lv' := [(2, .int (nI (i + 1))), (1, .int (nI k)), (0, .ref (fk_a g 75))]) S.1 S.2.1 d_W_trace_88 hl rfl (nI_1 i) (by decide) rfl (fun ls hl => ?_)
                refine lv_goto (tgt := 53) S.1 S.2.1 d_W_trace_91 rfl ?_
                refine ih2 (i + 1) H locs ls (by omega) ?_ hl
                rw [show fk_t3 (fk_t2 n (fk_t1 ck P sz bb M n) k) k (i + 1) = M2 from ?_]
                · exact G
                · rw [hM2] at hf ⊢
                  exact if_neg (by rw [hf]; decide)
              · have hf := fk_bt hc5
                refine lv_aload_n S.1 S.2.1 d_W_trace_73 rfl (lv_at hl 2 rfl) ?_
                refine fk_gf S E G 75 (by decide) (v := .ref (fk_a g 76)) (congrArg (fk_ce g ov 75 (M2 75)) kd_75) rfl 1 (by decide) rfl i_132 rfl d_W_trace_74 ?_
                refine lv_iload_n S.1 S.2.1 d_W_trace_77 rfl (lv_at hl 0 rfl) ?_
                refine lv_dup2_11 S.1 S.2.1 d_W_trace_78 rfl rfl ?_
                refine fk_ia S E G 76 (by decide) (congrArg (fk_ce g ov 76 (M2 76)) kd_76) i rfl (by omega) (by decide) (v := M2 76 i) rfl d_W_trace_79 ?_
                refine lv_aload_n S.1 S.2.1 d_W_trace_80 rfl (lv_at hl 2 rfl) ?_
                refine fk_gf S E G 75 (by decide) (v := .ref (fk_a g 76)) (congrArg (fk_ce g ov 75 (M2 75)) kd_75) rfl 1 (by decide) rfl i_132 rfl d_W_trace_81 ?_
                refine lv_iload_n S.1 S.2.1 d_W_trace_84 rfl (lv_at hl 1 rfl) ?_
                refine fk_ia S E G 76 (by decide) (congrArg (fk_ce g ov 76 (M2 76)) kd_76) k rfl (by omega) (by decide) (v := M2 76 k) rfl d_W_trace_85 ?_
                refine lv_ior S.1 S.2.1 d_W_trace_86 ?_
                refine fk_is S E G 76 (by decide) (fun r => congrArg (fk_ce g ov 76 r) kd_76) i rfl (by omega) (by decide) d_W_trace_87 (fun H locs G => ?_)
                obtain ⟨M6, hM6⟩ : ∃ z : fk_M, z = va_up M2 76 (upd (M2 76) i ((M2 76 i) ||| (M2 76 k))) := ⟨_, rfl⟩
                rw [← hM6] at G
                refine lv_iinc (k := 0) (v := nI (i + 1)) (lv' := [(2, .int (nI (i + 1))), (1, .int (nI k)), (0, .ref (fk_a g 75))]) S.1 S.2.1 d_W_trace_88 hl rfl (nI_1 i) (by decide) rfl (fun ls hl => ?_)
                refine lv_goto (tgt := 53) S.1 S.2.1 d_W_trace_91 rfl ?_
                refine ih2 (i + 1) H locs ls (by omega) ?_ hl
                rw [show fk_t3 (fk_t2 n (fk_t1 ck P sz bb M n) k) k (i + 1) = M6 from ?_]
                · exact G
                · rw [hM6]
                  rw [hM2] at hf ⊢
                  exact if_pos hf
        refine lv_iconst (v := nI 0) S.1 S.2.1 d_W_trace_51 (by decide +kernel) ?_
        refine lv_istore_n (lv' := [(2, .int (nI 0)), (1, .int (nI k)), (0, .ref (fk_a g 75))]) S.1 S.2.1 d_W_trace_52 rfl hl (by decide) rfl (fun ls hl => ?_)
        exact inner n 0 H locs ls (by omega) G hl
  have loop1 : ∀ (d : Nat) (i : Nat) (H : Heap) (locs : List Loc) (ls : Array Slot), i + d = n → fk_H g ov (fk_t1 ck P sz bb M i) s H locs → lv_has ls 3 [(1, .int (nI i)), (0, .ref (fk_a g 75))] → W p l e (fk_rm (4)) s m args below meth c H locs 0 0 (MQ below (va_Qv (fun (_ : Unit) => True) (fun _ t => fk_Wd g ov (fk_tr n ck P sz bb M) t) (fk_A g)) args s 0 0 (fk_A g)) (F0 m 2 ls []) := by
    intro d
    induction d with
    | zero =>
      intro i H locs ls hv0 G hl
      obtain ⟨M1, hM1⟩ : ∃ z : fk_M, z = fk_t1 ck P sz bb M i := ⟨_, rfl⟩
      rw [← hM1] at G
      have hs1 : fk_Sh n ck P sz bb M1 := by rw [hM1]; exact hs.to (fk_O.Eq (by omega) (fk_t1_O ck P sz bb M i))
      refine lv_iload_n S.1 S.2.1 d_W_trace_2 rfl (lv_at hl 0 rfl) ?_
      refine lv_aload_n S.1 S.2.1 d_W_trace_3 rfl (lv_at hl 1 rfl) ?_
      refine fk_gf S E G 75 (by decide) (v := .ref (fk_a g 1)) (congrArg (fk_ce g ov 75 (M1 75)) kd_75) rfl 0 (by decide) rfl i_131 rfl d_W_trace_4 ?_
      refine fk_gn S E G 1 (by decide) (v := .int (M1 1 1)) (congrArg (fk_ce g ov 1 (M1 1)) kd_1) rfl 1 (by decide) rfl (List.mem_of_getElem? (i := 38) rfl) rfl d_W_trace_7 ?_
      rw [hs1.1]
      refine fk_cge (tgt := 38) S.1 S.2.1 (by omega) (by omega) d_W_trace_10 rfl (fun hc7 => ?_) (fun hc7 => ?_)
      · refine lv_iconst (v := nI 0) S.1 S.2.1 d_W_trace_38 (by decide +kernel) ?_
        refine lv_istore_n (lv' := [(1, .int (nI 0)), (0, .ref (fk_a g 75))]) S.1 S.2.1 d_W_trace_39 rfl hl (by decide) rfl (fun ls hl => ?_)
        have hin : i = n := by omega
        subst hin
        rw [hM1] at G
        exact loop2 i 0 H locs ls (by omega) G hl
      · exact absurd hv0 (by omega)
    | succ d ih =>
      intro i H locs ls hv0 G hl
      obtain ⟨M1, hM1⟩ : ∃ z : fk_M, z = fk_t1 ck P sz bb M i := ⟨_, rfl⟩
      rw [← hM1] at G
      have hs1 : fk_Sh n ck P sz bb M1 := by rw [hM1]; exact hs.to (fk_O.Eq (by omega) (fk_t1_O ck P sz bb M i))
      refine lv_iload_n S.1 S.2.1 d_W_trace_2 rfl (lv_at hl 0 rfl) ?_
      refine lv_aload_n S.1 S.2.1 d_W_trace_3 rfl (lv_at hl 1 rfl) ?_
      refine fk_gf S E G 75 (by decide) (v := .ref (fk_a g 1)) (congrArg (fk_ce g ov 75 (M1 75)) kd_75) rfl 0 (by decide) rfl i_131 rfl d_W_trace_4 ?_
      refine fk_gn S E G 1 (by decide) (v := .int (M1 1 1)) (congrArg (fk_ce g ov 1 (M1 1)) kd_1) rfl 1 (by decide) rfl (List.mem_of_getElem? (i := 38) rfl) rfl d_W_trace_7 ?_
      rw [hs1.1]
      refine fk_cge (tgt := 38) S.1 S.2.1 (by omega) (by omega) d_W_trace_10 rfl (fun hc8 => ?_) (fun hc8 => ?_)
      · exact absurd hv0 (by omega)
      · refine lv_aload_n S.1 S.2.1 d_W_trace_13 rfl (lv_at hl 1 rfl) ?_
        refine fk_gf S E G 75 (by decide) (v := .ref (fk_a g 76)) (congrArg (fk_ce g ov 75 (M1 75)) kd_75) rfl 1 (by decide) rfl i_132 rfl d_W_trace_14 ?_
        refine lv_iload_n S.1 S.2.1 d_W_trace_17 rfl (lv_at hl 0 rfl) ?_
        refine lv_aload_n S.1 S.2.1 d_W_trace_18 rfl (lv_at hl 1 rfl) ?_
        refine lv_aload_n S.1 S.2.1 d_W_trace_19 rfl (lv_at hl 1 rfl) ?_
        refine fk_gf S E G 75 (by decide) (v := .ref (fk_a g 1)) (congrArg (fk_ce g ov 75 (M1 75)) kd_75) rfl 0 (by decide) rfl i_131 rfl d_W_trace_20 ?_
        refine fk_gn S E G 1 (by decide) (v := .ref (fk_a g 2)) (congrArg (fk_ce g ov 1 (M1 1)) kd_1) rfl 0 (by decide) rfl (List.mem_of_getElem? (i := 34) rfl) rfl d_W_trace_23 ?_
        refine lv_iload_n S.1 S.2.1 d_W_trace_26 rfl (lv_at hl 0 rfl) ?_
        refine fk_rw S E G i rfl (by omega) d_W_trace_27 ?_
        have hnd : fk_nd ck P sz bb M1 i = fk_nd ck P sz bb M i := by
          unfold fk_nd
          rw [hM1, fk_t1_O ck P sz bb M i (P i + 2) (by rcases hP i (by omega) with h9 | ⟨t, h8, h9⟩ <;> omega)]
        refine fk_cvi S E G 75 (by decide) (congrArg (fk_ce g ov 75 (M1 75)) kd_75) rfl (rest := [.int (nI i), .ref (fk_a g 76)]) (hnd ▸ c_W_directWaits l g ov M1 n ck P sz bb hs1 i (by omega)) m_W_directWaits i_240 ⟨rfl, rfl⟩ ⟨by decide, by decide⟩ rfl rfl hl.1 (Nat.le_of_ble_eq_true rfl) d_W_trace_28 ⟨Nat.zero_le _, Nat.zero_le _⟩ (fun H locs G => ?_)
        refine fk_is S E G 76 (by decide) (fun r => congrArg (fk_ce g ov 76 r) kd_76) i rfl (by omega) (by decide) d_W_trace_31 (fun H locs G => ?_)
        obtain ⟨M9, hM9⟩ : ∃ z : fk_M, z = va_up M1 76 (upd (M1 76) i (fk_nd ck P sz bb M i)) := ⟨_, rfl⟩
        rw [← hM9] at G
        refine lv_iinc (k := 0) (v := nI (i + 1)) (lv' := [(1, .int (nI (i + 1))), (0, .ref (fk_a g 75))]) S.1 S.2.1 d_W_trace_32 hl rfl (nI_1 i) (by decide) rfl (fun ls hl => ?_)
        refine lv_goto (tgt := 2) S.1 S.2.1 d_W_trace_35 rfl ?_
        refine ih (i + 1) H locs ls (by omega) ?_ hl
        rw [hM9, hM1] at G
        exact G
  refine lv_iconst (v := nI 0) S.1 S.2.1 d_W_trace_0 (by decide +kernel) ?_
  refine lv_istore_n (lv' := [(1, .int (nI 0)), (0, .ref (fk_a g 75))]) S.1 S.2.1 d_W_trace_1 rfl hl (by decide) rfl (fun ls hl => ?_)
  exact loop1 n 0 s.heap [] ls (by omega) G hl
