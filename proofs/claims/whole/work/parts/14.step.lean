/-! The shape of the class's state; Clockwork: restart, workOut, remember, step. Written by wip/gen/s_step.py. -/
/-- n flows; of each its clock, the cell of its expression, that one's length and bytes -/
def fk_Sh (n : Nat) (ck P sz : Nat → Nat) (bb : Nat → Nat → Nat) (M : fk_M) : Prop :=
  M 1 1 = nI n ∧ n ≤ 12 ∧ ∀ j, j < 12 → fk_X (P j) ∧ M (3 + 6 * j) 0 = nI (P j) ∧ M (3 + 6 * j) 3 = nI (ck j) ∧ ck j < 25 ∧ M (P j) 4 = nI (sz j) ∧ sz j ≤ 40 ∧ (∀ i, i < sz j → M (P j + 1) i = nI (bb j i) ∧ bb j i < 256) ∧ (∀ i, i < 40 → ∃ q, q < 25 ∧ M (P j + 3) i = nI q) ∧ (0 < sz j → fk_T (bb j) (sz j) n (M (P j + 2)) 11 0 (sz j)) ∧ (M (3 + 6 * j) 1 = 0 ∨ M (3 + 6 * j) 1 = 1) ∧ (M (3 + 6 * j) 2 = 0 ∨ M (3 + 6 * j) 2 = 1) ∧ (¬ M (3 + 6 * j) 2 = 0 → sz j = 0)
/-- what the shape speaks of is the same -/
def fk_Eq (M M' : fk_M) : Prop := M' 1 = M 1 ∧ (∀ j, j < 12 → ∀ t, t < 4 → M' (3 + 6 * j) t = M (3 + 6 * j) t) ∧ ∀ x, fk_X x → M' x = M x ∧ M' (x + 1) = M (x + 1) ∧ M' (x + 2) = M (x + 2) ∧ M' (x + 3) = M (x + 3)
theorem fk_Eq.rf (M : fk_M) : fk_Eq M M := ⟨rfl, fun _ _ _ _ => rfl, fun _ _ => ⟨rfl, rfl, rfl, rfl⟩⟩
theorem fk_Eq.tr {M M' M'' : fk_M} (h : fk_Eq M M') (h' : fk_Eq M' M'') : fk_Eq M M'' := by
  refine ⟨h'.1.trans h.1, fun j hj t ht => (h'.2.1 j hj t ht).trans (h.2.1 j hj t ht), fun x hx => ?_⟩
  obtain ⟨a1, a2, a3, a4⟩ := h.2.2 x hx
  obtain ⟨b1, b2, b3, b4⟩ := h'.2.2 x hx
  exact ⟨b1.trans a1, b2.trans a2, b3.trans a3, b4.trans a4⟩
theorem fk_Sh.to {n : Nat} {ck P sz : Nat → Nat} {bb : Nat → Nat → Nat} {M M' : fk_M} (h : fk_Sh n ck P sz bb M) (q : fk_Eq M M') : fk_Sh n ck P sz bb M' := by
  obtain ⟨h1, h2, h3⟩ := h
  obtain ⟨q1, q2, q3⟩ := q
  refine ⟨by rw [q1]; exact h1, h2, fun j hj => ?_⟩
  obtain ⟨a1, a2, a3, a4, a5, a6, a7, a8, a9, a10, a11, a12⟩ := h3 j hj
  obtain ⟨b1, b2, b3, b4⟩ := q3 _ a1
  have q2' := q2 j hj
  refine ⟨a1, by rw [q2' 0 (by decide)]; exact a2, by rw [q2' 3 (by decide)]; exact a3, a4, by rw [b1]; exact a5, a6, by rw [b2]; exact a7, by rw [b4]; exact a8, by rw [b3]; exact a9, by rw [q2' 1 (by decide)]; exact a10, by rw [q2' 2 (by decide)]; exact a11, by rw [q2' 2 (by decide)]; exact a12⟩
theorem fk_Eq_f {M : fk_M} {j t : Nat} (hj : j < 12) (ht : 4 ≤ t) (v : Int32) : fk_Eq M (va_up M (3 + 6 * j) (upd (M (3 + 6 * j)) t v)) := by
  refine ⟨va_up_ne _ _ (by omega), fun i hi u hu => ?_, fun x hX => ?_⟩
  · by_cases h : i = j
    · subst h
      rw [va_up_self, pk_un (by omega)]
    · rw [va_up_ne _ _ (by omega)]
  · rcases hX with rfl | ⟨i, hi, rfl⟩
    · exact ⟨va_up_ne _ _ (by omega), va_up_ne _ _ (by omega), va_up_ne _ _ (by omega), va_up_ne _ _ (by omega)⟩
    · exact ⟨va_up_ne _ _ (by omega), va_up_ne _ _ (by omega), va_up_ne _ _ (by omega), va_up_ne _ _ (by omega)⟩
theorem fk_Eq_p {M : fk_M} {x : Nat} (hX : fk_X x) (w : Nat → Int32) : fk_Eq M (va_up M (x + 4) w) := by
  rcases hX with rfl | ⟨t, ht, rfl⟩
  · refine ⟨va_up_ne _ _ (by omega), fun i hi u hu => by rw [va_up_ne _ _ (by omega)], fun y hY => ?_⟩
    rcases hY with rfl | ⟨i, hi, rfl⟩
    · exact ⟨va_up_ne _ _ (by omega), va_up_ne _ _ (by omega), va_up_ne _ _ (by omega), va_up_ne _ _ (by omega)⟩
    · exact ⟨va_up_ne _ _ (by omega), va_up_ne _ _ (by omega), va_up_ne _ _ (by omega), va_up_ne _ _ (by omega)⟩
  · refine ⟨va_up_ne _ _ (by omega), fun i hi u hu => by rw [va_up_ne _ _ (by omega)], fun y hY => ?_⟩
    rcases hY with rfl | ⟨i, hi, rfl⟩
    · exact ⟨va_up_ne _ _ (by omega), va_up_ne _ _ (by omega), va_up_ne _ _ (by omega), va_up_ne _ _ (by omega)⟩
    · exact ⟨va_up_ne _ _ (by omega), va_up_ne _ _ (by omega), va_up_ne _ _ (by omega), va_up_ne _ _ (by omega)⟩
/-- a cell that the shape doesn't speak of -/
theorem fk_Eq_k {M : fk_M} {k : Nat} (hk : k = 0 ∨ k = 2 ∨ (75 ≤ k ∧ k < 84) ∨ 89 ≤ k) (w : Nat → Int32) : fk_Eq M (va_up M k w) := by
  refine ⟨va_up_ne _ _ (by omega), fun i hi u hu => by rw [va_up_ne _ _ (by omega)], fun y hY => ?_⟩
  rcases hY with rfl | ⟨i, hi, rfl⟩
  · exact ⟨va_up_ne _ _ (by omega), va_up_ne _ _ (by omega), va_up_ne _ _ (by omega), va_up_ne _ _ (by omega)⟩
  · exact ⟨va_up_ne _ _ (by omega), va_up_ne _ _ (by omega), va_up_ne _ _ (by omega), va_up_ne _ _ (by omega)⟩
/-- the instants begin anew -/
def fk_rs (P : Nat → Nat) (M : fk_M) : Nat → fk_M
  | 0 => va_up M 83 (fk_fl (M 83) 25 0)
  | i + 1 => va_up (va_up (fk_rs P M i) (3 + 6 * i) (upd (fk_rs P M i (3 + 6 * i)) 5 0)) (P i + 4) (fk_fl (va_up (fk_rs P M i) (3 + 6 * i) (upd (fk_rs P M i (3 + 6 * i)) 5 0) (P i + 4)) 40 0)
theorem fk_rs_Eq {P : Nat → Nat} (hP : ∀ j, j < 12 → fk_X (P j)) (M : fk_M) : ∀ i, i ≤ 12 → fk_Eq M (fk_rs P M i) := by
  intro i
  induction i with
  | zero => intro _; exact fk_Eq_k (by omega) _
  | succ i ih => intro hi; exact ((ih (by omega)).tr (fk_Eq_f (by omega) (by decide) _)).tr (fk_Eq_p (hP i (by omega)) _)
/-- a flow is worked out -/
def fk_w1 (M : fk_M) (ck : Nat → Nat) (j : Nat) : fk_M := va_up M (3 + 6 * j) (upd (M (3 + 6 * j)) 5 (nI (fk_hi M (ck j)).toNat))
def fk_wo (ck P : Nat → Nat) (bb : Nat → Nat → Nat) (M : fk_M) (j : Nat) : fk_M :=
  if fk_hi M (ck j) = true then va_up (fk_w1 M ck j) (3 + 6 * j) (upd (fk_w1 M ck j (3 + 6 * j)) 6 (if M (3 + 6 * j) 2 = 0 then fk_ev (fk_w1 M ck j) (P j) (bb j) 11 0 else M (3 + 6 * j) 4)) else fk_w1 M ck j
theorem fk_wo_Eq {ck P : Nat → Nat} {bb : Nat → Nat → Nat} (M : fk_M) {j : Nat} (hj : j < 12) : fk_Eq M (fk_wo ck P bb M j) := by
  unfold fk_wo
  by_cases h : fk_hi M (ck j) = true
  · rw [if_pos h]
    exact (fk_Eq_f hj (by decide) _).tr (fk_Eq_f hj (by decide) _)
  · rw [if_neg h]
    exact fk_Eq_f hj (by decide) _
theorem d_C_restart_0 : decode b_C_restart 0 = .ok (.aload_n 0, 1) := by decide +kernel
theorem d_C_restart_1 : decode b_C_restart 1 = .ok (.getfield 9, 3) := by decide +kernel
theorem d_C_restart_4 : decode b_C_restart 4 = .ok (.iconst 0, 1) := by decide +kernel
theorem d_C_restart_5 : decode b_C_restart 5 = .ok (.invokestatic 23, 3) := by decide +kernel
theorem d_C_restart_8 : decode b_C_restart 8 = .ok (.iconst 0, 1) := by decide +kernel
theorem d_C_restart_9 : decode b_C_restart 9 = .ok (.istore_n 1, 1) := by decide +kernel
theorem d_C_restart_10 : decode b_C_restart 10 = .ok (.iload_n 1, 1) := by decide +kernel
theorem d_C_restart_11 : decode b_C_restart 11 = .ok (.aload_n 0, 1) := by decide +kernel
theorem d_C_restart_12 : decode b_C_restart 12 = .ok (.getfield 15, 3) := by decide +kernel
theorem d_C_restart_15 : decode b_C_restart 15 = .ok (.getfield 29, 3) := by decide +kernel
theorem d_C_restart_18 : decode b_C_restart 18 = .ok (.if_icmp .ge 35, 3) := by decide +kernel
theorem d_C_restart_21 : decode b_C_restart 21 = .ok (.aload_n 0, 1) := by decide +kernel
theorem d_C_restart_22 : decode b_C_restart 22 = .ok (.getfield 15, 3) := by decide +kernel
theorem d_C_restart_25 : decode b_C_restart 25 = .ok (.getfield 35, 3) := by decide +kernel
theorem d_C_restart_28 : decode b_C_restart 28 = .ok (.iload_n 1, 1) := by decide +kernel
theorem d_C_restart_29 : decode b_C_restart 29 = .ok (.aaload, 1) := by decide +kernel
theorem d_C_restart_30 : decode b_C_restart 30 = .ok (.astore_n 2, 1) := by decide +kernel
theorem d_C_restart_31 : decode b_C_restart 31 = .ok (.aload_n 2, 1) := by decide +kernel
theorem d_C_restart_32 : decode b_C_restart 32 = .ok (.iconst 0, 1) := by decide +kernel
theorem d_C_restart_33 : decode b_C_restart 33 = .ok (.putfield 39, 3) := by decide +kernel
theorem d_C_restart_36 : decode b_C_restart 36 = .ok (.aload_n 2, 1) := by decide +kernel
theorem d_C_restart_37 : decode b_C_restart 37 = .ok (.getfield 45, 3) := by decide +kernel
theorem d_C_restart_40 : decode b_C_restart 40 = .ok (.getfield 49, 3) := by decide +kernel
theorem d_C_restart_43 : decode b_C_restart 43 = .ok (.iconst 0, 1) := by decide +kernel
theorem d_C_restart_44 : decode b_C_restart 44 = .ok (.invokestatic 23, 3) := by decide +kernel
theorem d_C_restart_47 : decode b_C_restart 47 = .ok (.iinc 1 1, 3) := by decide +kernel
theorem d_C_restart_50 : decode b_C_restart 50 = .ok (.goto (-40), 3) := by decide +kernel
theorem d_C_restart_53 : decode b_C_restart 53 = .ok (.return_, 1) := by decide +kernel
theorem m_C_restart : fk_MI y_C_restart b_C_restart 3 none 0 := ⟨i_224, i_223, fk_mp (q := (y_C_restart, 3)) (by decide +kernel), i_7, by decide +kernel⟩
set_option maxHeartbeats 4000000 in
set_option maxRecDepth 100000 in
theorem c_C_restart (l : Launch) (g : fk_G) (ov : Int64) (M : fk_M) (n : Nat) (ck P sz : Nat → Nat) (bb : Nat → Nat → Nat) (hs : fk_Sh n ck P sz bb M) : fk_CV l y_C_restart b_C_restart 3 (fk_rm 1) g ov M (fk_rs P M n) [.ref (fk_a g 82)] := by
  refine fk_ofV rfl (Nat.le_of_ble_eq_true rfl) ?_
  intro p e s m args below meth c ls S hr hlk E G hl
  have hl : lv_has ls 3 [(0, .ref (fk_a g 82))] := hl
  have h12 := hs.2.1
  have hP : ∀ j, j < 12 → fk_X (P j) := fun j hj => (hs.2.2 j hj).1
  refine lv_aload_n S.1 S.2.1 d_C_restart_0 rfl (lv_at hl 0 rfl) ?_
  refine fk_gf S E G 82 (by decide) (v := .ref (fk_a g 83)) (congrArg (fk_ce g ov 82 (M 82)) kd_82) rfl 2 (by decide) rfl i_190 rfl d_C_restart_1 ?_
  refine lv_iconst (v := nI 0) S.1 S.2.1 d_C_restart_4 (by decide +kernel) ?_
  refine fk_csv S E G (rest := []) (c_A_fill l g ov M 83 25 (by decide) (by decide) (nI 0) (fun r => congrArg (fk_ce g ov 83 r) kd_83)) m_A_fill i_225 ⟨rfl, rfl⟩ ⟨by decide, by decide⟩ rfl rfl hl.1 (Nat.le_of_ble_eq_true rfl) d_C_restart_5 ⟨Nat.zero_le _, Nat.zero_le _⟩ (fun H locs G => ?_)
  rw [nI_0] at G
  refine lv_iconst (v := nI 0) S.1 S.2.1 d_C_restart_8 (by decide +kernel) ?_
  refine lv_istore_n (lv' := [(1, .int (nI 0)), (0, .ref (fk_a g 82))]) S.1 S.2.1 d_C_restart_9 rfl hl (by decide) rfl (fun ls hl => ?_)
  have loop : ∀ (d i : Nat) (H : Heap) (locs : List Loc) (ls : Array Slot), i + d = n → fk_H g ov (fk_rs P M i) s H locs → lv_has ls 3 [(1, .int (nI i)), (0, .ref (fk_a g 82))] → W p l e (fk_rm 1) s m args below meth c H locs 0 0 (MQ below (va_Qv (fun (_ : Unit) => True) (fun _ t => fk_Wd g ov (fk_rs P M n) t) (fk_A g)) args s 0 0 (fk_A g)) (F0 m 10 ls []) := by
    intro d
    induction d with
    | zero =>
      intro i H locs ls hi G hl
      have hE := fk_rs_Eq hP M i (by omega)
      have hs1 := hs.to hE
      obtain ⟨M1, hM1⟩ : ∃ z : fk_M, z = fk_rs P M i := ⟨_, rfl⟩
      rw [← hM1] at G
      rw [← hM1] at hE hs1
      refine lv_iload_n S.1 S.2.1 d_C_restart_10 rfl (lv_at hl 0 rfl) ?_
      refine lv_aload_n S.1 S.2.1 d_C_restart_11 rfl (lv_at hl 1 rfl) ?_
      refine fk_gf S E G 82 (by decide) (v := .ref (fk_a g 1)) (congrArg (fk_ce g ov 82 (M1 82)) kd_82) rfl 0 (by decide) rfl i_188 rfl d_C_restart_12 ?_
      refine fk_gn S E G 1 (by decide) (v := .int (M1 1 1)) (congrArg (fk_ce g ov 1 (M1 1)) kd_1) rfl 1 (by decide) rfl (List.mem_of_getElem? (i := 39) rfl) rfl d_C_restart_15 ?_
      rw [hs1.1]
      refine fk_cge (tgt := 53) S.1 S.2.1 (by omega) (by omega) d_C_restart_18 rfl (fun hc1 => ?_) (fun hc1 => ?_)
      · have hin : i = n := by omega
        subst hin
        exact fk_vret S hr hlk E G hM1 d_C_restart_53
      · exact absurd hi (by omega)
    | succ d ih =>
      intro i H locs ls hi G hl
      have hE := fk_rs_Eq hP M i (by omega)
      have hs1 := hs.to hE
      obtain ⟨M1, hM1⟩ : ∃ z : fk_M, z = fk_rs P M i := ⟨_, rfl⟩
      rw [← hM1] at G
      rw [← hM1] at hE hs1
      refine lv_iload_n S.1 S.2.1 d_C_restart_10 rfl (lv_at hl 0 rfl) ?_
      refine lv_aload_n S.1 S.2.1 d_C_restart_11 rfl (lv_at hl 1 rfl) ?_
      refine fk_gf S E G 82 (by decide) (v := .ref (fk_a g 1)) (congrArg (fk_ce g ov 82 (M1 82)) kd_82) rfl 0 (by decide) rfl i_188 rfl d_C_restart_12 ?_
      refine fk_gn S E G 1 (by decide) (v := .int (M1 1 1)) (congrArg (fk_ce g ov 1 (M1 1)) kd_1) rfl 1 (by decide) rfl (List.mem_of_getElem? (i := 39) rfl) rfl d_C_restart_15 ?_
      rw [hs1.1]
      refine fk_cge (tgt := 53) S.1 S.2.1 (by omega) (by omega) d_C_restart_18 rfl (fun hc2 => ?_) (fun hc2 => ?_)
      · exact absurd hi (by omega)
      · have hX := hP i (by omega)
        obtain ⟨-, hq, -⟩ := hs1.2.2 i (by omega)
        refine lv_aload_n S.1 S.2.1 d_C_restart_21 rfl (lv_at hl 1 rfl) ?_
        refine fk_gf S E G 82 (by decide) (v := .ref (fk_a g 1)) (congrArg (fk_ce g ov 82 (M1 82)) kd_82) rfl 0 (by decide) rfl i_188 rfl d_C_restart_22 ?_
        refine fk_gn S E G 1 (by decide) (v := .ref (fk_a g 2)) (congrArg (fk_ce g ov 1 (M1 1)) kd_1) rfl 0 (by decide) rfl (List.mem_of_getElem? (i := 35) rfl) rfl d_C_restart_25 ?_
        refine lv_iload_n S.1 S.2.1 d_C_restart_28 rfl (lv_at hl 0 rfl) ?_
        refine fk_rw S E G i rfl (by omega) d_C_restart_29 ?_
        refine lv_astore_n (lv' := [(2, .ref (fk_a g (3 + 6 * i))), (1, .int (nI i)), (0, .ref (fk_a g 82))]) S.1 S.2.1 d_C_restart_30 rfl hl (by decide) rfl (fun ls hl => ?_)
        refine lv_aload_n S.1 S.2.1 d_C_restart_31 rfl (lv_at hl 0 rfl) ?_
        refine lv_iconst (v := nI 0) S.1 S.2.1 d_C_restart_32 (by decide +kernel) ?_
        refine fk_pn S E G (3 + 6 * i) (by omega) (congrArg (fk_ce g ov (3 + 6 * i) (M1 (3 + 6 * i))) (fk_kf (show i < 12 by omega))) rfl 5 (by decide) rfl (List.mem_of_getElem? (i := 30) rfl) (upd (M1 (3 + 6 * i)) 5 (nI 0)) (congrArg (fk_ce g ov (3 + 6 * i) (upd (M1 (3 + 6 * i)) 5 (nI 0))) (fk_kf (show i < 12 by omega))) rfl (ty := (.boolean)) (by decide +kernel) (fk_nb (Or.inl nI_0)) (fk_fb (Or.inl nI_0)) (Nat.le_of_ble_eq_true rfl) d_C_restart_33 (fun H locs G => ?_)
        obtain ⟨M3, hM3⟩ : ∃ z : fk_M, z = va_up M1 (3 + 6 * i) (upd (M1 (3 + 6 * i)) 5 (nI 0)) := ⟨_, rfl⟩
        rw [← hM3] at G
        have hq2 : M3 (3 + 6 * i) 0 = nI (P i) := by rw [hM3, va_up_self, pk_un (by decide)]; exact hq
        refine lv_aload_n S.1 S.2.1 d_C_restart_36 rfl (lv_at hl 0 rfl) ?_
        refine fk_gn S E G (3 + 6 * i) (by omega) (v := .ref (fk_a g (P i))) (fk_flow (show i < 12 by omega) hq2 (fk_Xb hX)) rfl 0 (by decide) rfl (List.mem_of_getElem? (i := 13) rfl) rfl d_C_restart_37 ?_
        refine fk_gn S E G (P i) (by have := fk_Xlt hX; omega) (v := .ref (fk_a g (P i + 4))) (congrArg (fk_ce g ov (P i) (M3 (P i))) (fk_kx0 hX)) rfl 3 (by decide) rfl (List.mem_of_getElem? (i := 7) rfl) rfl d_C_restart_40 ?_
        refine lv_iconst (v := nI 0) S.1 S.2.1 d_C_restart_43 (by decide +kernel) ?_
        refine fk_csv S E G (rest := []) (c_A_fill l g ov M3 (P i + 4) 40 (by have := fk_Xlt hX; omega) (by decide) (nI 0) (fun r => congrArg (fk_ce g ov (P i + 4) r) (fk_kx4 hX))) m_A_fill i_225 ⟨rfl, rfl⟩ ⟨by decide, by decide⟩ rfl rfl hl.1 (Nat.le_of_ble_eq_true rfl) d_C_restart_44 ⟨Nat.zero_le _, Nat.zero_le _⟩ (fun H locs G => ?_)
        refine lv_iinc (k := 1) (v := nI (i + 1)) (lv' := [(1, .int (nI (i + 1))), (2, .ref (fk_a g (3 + 6 * i))), (0, .ref (fk_a g 82))]) S.1 S.2.1 d_C_restart_47 hl rfl (nI_1 i) (by decide) rfl (fun ls hl => ?_)
        refine lv_goto (tgt := 10) S.1 S.2.1 d_C_restart_50 rfl ?_
        refine ih (i + 1) H locs ls (by omega) ?_ (lv_sub hl [0, 2] rfl)
        rw [hM3, hM1, nI_0] at G
        exact G
  exact loop n 0 H locs ls (by omega) G (lv_sub hl [0, 1] rfl)
theorem d_C_workOut_0 : decode b_C_workOut 0 = .ok (.aload_n 1, 1) := by decide +kernel
theorem d_C_workOut_1 : decode b_C_workOut 1 = .ok (.aload_n 0, 1) := by decide +kernel
theorem d_C_workOut_2 : decode b_C_workOut 2 = .ok (.aload_n 1, 1) := by decide +kernel
theorem d_C_workOut_3 : decode b_C_workOut 3 = .ok (.getfield 54, 3) := by decide +kernel
theorem d_C_workOut_6 : decode b_C_workOut 6 = .ok (.invokevirtual 70, 3) := by decide +kernel
theorem d_C_workOut_9 : decode b_C_workOut 9 = .ok (.putfield 39, 3) := by decide +kernel
theorem d_C_workOut_12 : decode b_C_workOut 12 = .ok (.aload_n 1, 1) := by decide +kernel
theorem d_C_workOut_13 : decode b_C_workOut 13 = .ok (.getfield 39, 3) := by decide +kernel
theorem d_C_workOut_16 : decode b_C_workOut 16 = .ok (.ifCond .eq 30, 3) := by decide +kernel
theorem d_C_workOut_19 : decode b_C_workOut 19 = .ok (.aload_n 1, 1) := by decide +kernel
theorem d_C_workOut_20 : decode b_C_workOut 20 = .ok (.aload_n 1, 1) := by decide +kernel
theorem d_C_workOut_21 : decode b_C_workOut 21 = .ok (.getfield 78, 3) := by decide +kernel
theorem d_C_workOut_24 : decode b_C_workOut 24 = .ok (.ifCond .eq 10, 3) := by decide +kernel
theorem d_C_workOut_27 : decode b_C_workOut 27 = .ok (.aload_n 1, 1) := by decide +kernel
theorem d_C_workOut_28 : decode b_C_workOut 28 = .ok (.getfield 81, 3) := by decide +kernel
theorem d_C_workOut_31 : decode b_C_workOut 31 = .ok (.goto 12, 3) := by decide +kernel
theorem d_C_workOut_34 : decode b_C_workOut 34 = .ok (.aload_n 0, 1) := by decide +kernel
theorem d_C_workOut_35 : decode b_C_workOut 35 = .ok (.aload_n 1, 1) := by decide +kernel
theorem d_C_workOut_36 : decode b_C_workOut 36 = .ok (.getfield 45, 3) := by decide +kernel
theorem d_C_workOut_39 : decode b_C_workOut 39 = .ok (.iconst 0, 1) := by decide +kernel
theorem d_C_workOut_40 : decode b_C_workOut 40 = .ok (.invokevirtual 84, 3) := by decide +kernel
theorem d_C_workOut_43 : decode b_C_workOut 43 = .ok (.putfield 88, 3) := by decide +kernel
theorem d_C_workOut_46 : decode b_C_workOut 46 = .ok (.return_, 1) := by decide +kernel
theorem m_C_workOut : fk_MI y_C_workOut b_C_workOut 2 none 1 := ⟨i_552, i_551, fk_mp (q := (y_C_workOut, 3)) (by decide +kernel), i_7, by decide +kernel⟩
set_option maxHeartbeats 4000000 in
set_option maxRecDepth 100000 in
theorem c_C_workOut (l : Launch) (g : fk_G) (ov : Int64) (M : fk_M) (n : Nat) (ck P sz : Nat → Nat) (bb : Nat → Nat → Nat) (hs : fk_Sh n ck P sz bb M) (j : Nat) (hj : j < 12) (h0 : M (3 + 6 * j) 2 = 0 → 0 < sz j) : fk_CV l y_C_workOut b_C_workOut 2 (fk_rm 26) g ov M (fk_wo ck P bb M j) [.ref (fk_a g 82), .ref (fk_a g (3 + 6 * j))] := by
  refine fk_ofV rfl (Nat.le_of_ble_eq_true rfl) ?_
  intro p e s m args below meth c ls S hr hlk E G hl
  have hl : lv_has ls 2 [(0, .ref (fk_a g 82)), (1, .ref (fk_a g (3 + 6 * j)))] := hl
  obtain ⟨hX, hq, hck, h25, hsz, h40, hb, hcl, hT, hz1, hz2, -⟩ := hs.2.2 j hj
  have h12 := hs.2.1
  refine lv_aload_n S.1 S.2.1 d_C_workOut_0 rfl (lv_at hl 1 rfl) ?_
  refine lv_aload_n S.1 S.2.1 d_C_workOut_1 rfl (lv_at hl 0 rfl) ?_
  refine lv_aload_n S.1 S.2.1 d_C_workOut_2 rfl (lv_at hl 1 rfl) ?_
  refine fk_gn S E G (3 + 6 * j) (by omega) (v := .int (M (3 + 6 * j) 3)) (congrArg (fk_ce g ov (3 + 6 * j) (M (3 + 6 * j))) (fk_kf hj)) rfl 3 (by decide) rfl (List.mem_of_getElem? (i := 25) rfl) rfl d_C_workOut_3 ?_
  rw [hck]
  refine fk_cvi S E G 82 (by decide) (congrArg (fk_ce g ov 82 (M 82)) kd_82) rfl (rest := [.ref (fk_a g (3 + 6 * j))]) (c_C_hasInstant l g ov M (ck j) h25) m_C_hasInstant i_553 ⟨rfl, rfl⟩ ⟨by decide, by decide⟩ rfl rfl hl.1 (Nat.le_of_ble_eq_true rfl) d_C_workOut_6 ⟨Nat.zero_le _, Nat.zero_le _⟩ (fun H locs G => ?_)
  refine fk_pn S E G (3 + 6 * j) (by omega) (congrArg (fk_ce g ov (3 + 6 * j) (M (3 + 6 * j))) (fk_kf hj)) rfl 5 (by decide) rfl (List.mem_of_getElem? (i := 30) rfl) (upd (M (3 + 6 * j)) 5 (nI ((fk_hi M (ck j)).toNat))) (congrArg (fk_ce g ov (3 + 6 * j) (upd (M (3 + 6 * j)) 5 (nI ((fk_hi M (ck j)).toNat)))) (fk_kf hj)) rfl (ty := (.boolean)) (by decide +kernel) (fk_nb (fk_bz _)) (fk_fb (fk_bz _)) (Nat.le_of_ble_eq_true rfl) d_C_workOut_9 (fun H locs G => ?_)
  obtain ⟨M1, hM1⟩ : ∃ z : fk_M, z = va_up M (3 + 6 * j) (upd (M (3 + 6 * j)) 5 (nI ((fk_hi M (ck j)).toNat))) := ⟨_, rfl⟩
  rw [← hM1] at G
  have hm1 : M1 = fk_w1 M ck j := hM1
  have hs1 : fk_Sh n ck P sz bb M1 := hs.to (by rw [hm1]; exact fk_Eq_f hj (by decide) _)
  have h5 : M1 (3 + 6 * j) 5 = nI (fk_hi M (ck j)).toNat := by rw [hM1, va_up_self, pk_us]
  have h2 : M1 (3 + 6 * j) 2 = M (3 + 6 * j) 2 := by rw [hM1, va_up_self, pk_un (by decide)]
  have h4 : M1 (3 + 6 * j) 4 = M (3 + 6 * j) 4 := by rw [hM1, va_up_self, pk_un (by decide)]
  refine lv_aload_n S.1 S.2.1 d_C_workOut_12 rfl (lv_at hl 1 rfl) ?_
  refine fk_gn S E G (3 + 6 * j) (by omega) (v := .int (M1 (3 + 6 * j) 5)) (congrArg (fk_ce g ov (3 + 6 * j) (M1 (3 + 6 * j))) (fk_kf hj)) rfl 5 (by decide) rfl (List.mem_of_getElem? (i := 30) rfl) rfl d_C_workOut_13 ?_
  rw [h5]
  refine fk_zeq (tgt := 46) S.1 S.2.1 (fk_bl _) d_C_workOut_16 rfl (fun hc2 => ?_) (fun hc2 => ?_)
  · have hf := fk_bf hc2
    exact fk_vret S hr hlk E G (by rw [hm1]; unfold fk_wo; rw [if_neg (by rw [hf]; decide)]) d_C_workOut_46
  · have hf := fk_bt hc2
    refine lv_aload_n S.1 S.2.1 d_C_workOut_19 rfl (lv_at hl 1 rfl) ?_
    refine lv_aload_n S.1 S.2.1 d_C_workOut_20 rfl (lv_at hl 1 rfl) ?_
    refine fk_gn S E G (3 + 6 * j) (by omega) (v := .int (M1 (3 + 6 * j) 2)) (congrArg (fk_ce g ov (3 + 6 * j) (M1 (3 + 6 * j))) (fk_kf hj)) rfl 2 (by decide) rfl (List.mem_of_getElem? (i := 21) rfl) rfl d_C_workOut_21 ?_
    rw [h2]
    refine lv_if_eq (tgt := 34) S.1 S.2.1 d_C_workOut_24 rfl (fun hc3 => ?_) (fun hc3 => ?_)
    · obtain ⟨-, hq1, -, -, -, -, hb1, hcl1, hT1, -⟩ := hs1.2.2 j hj
      have hpos := h0 hc3
      refine lv_aload_n S.1 S.2.1 d_C_workOut_34 rfl (lv_at hl 0 rfl) ?_
      refine lv_aload_n S.1 S.2.1 d_C_workOut_35 rfl (lv_at hl 1 rfl) ?_
      refine fk_gn S E G (3 + 6 * j) (by omega) (v := .ref (fk_a g (P j))) (fk_flow hj hq1 (fk_Xb hX)) rfl 0 (by decide) rfl (List.mem_of_getElem? (i := 13) rfl) rfl d_C_workOut_36 ?_
      refine lv_iconst (v := nI 0) S.1 S.2.1 d_C_workOut_39 (by decide +kernel) ?_
      refine fk_cvi S E G 82 (by decide) (congrArg (fk_ce g ov 82 (M1 82)) kd_82) rfl (rest := [.ref (fk_a g (3 + 6 * j))]) (c_C_resultOf l g ov M1 (P j) hX (bb j) (sz j) n h40 h12 (fun i hi => (hb1 i hi).1) hcl1 11 0 (sz j) (hT1 hpos)) m_C_resultOf i_558 ⟨rfl, rfl⟩ ⟨by decide, by decide⟩ rfl rfl hl.1 (Nat.le_of_ble_eq_true rfl) d_C_workOut_40 ⟨Nat.zero_le _, Nat.zero_le _⟩ (fun H locs G => ?_)
      refine fk_pn S E G (3 + 6 * j) (by omega) (congrArg (fk_ce g ov (3 + 6 * j) (M1 (3 + 6 * j))) (fk_kf hj)) rfl 6 (by decide) rfl (List.mem_of_getElem? (i := 32) rfl) (upd (M1 (3 + 6 * j)) 6 (fk_ev M1 (P j) (bb j) 11 0)) (congrArg (fk_ce g ov (3 + 6 * j) (upd (M1 (3 + 6 * j)) 6 (fk_ev M1 (P j) (bb j) 11 0))) (fk_kf hj)) rfl (ty := (.int)) (by decide +kernel) rfl rfl (Nat.le_of_ble_eq_true rfl) d_C_workOut_43 (fun H locs G => ?_)
      obtain ⟨M4, hM4⟩ : ∃ z : fk_M, z = va_up M1 (3 + 6 * j) (upd (M1 (3 + 6 * j)) 6 (fk_ev M1 (P j) (bb j) 11 0)) := ⟨_, rfl⟩
      rw [← hM4] at G
      exact fk_vret S hr hlk E G (by rw [hM4]; unfold fk_wo; rw [if_pos hf, if_pos hc3, hm1]) d_C_workOut_46
    · refine lv_aload_n S.1 S.2.1 d_C_workOut_27 rfl (lv_at hl 1 rfl) ?_
      refine fk_gn S E G (3 + 6 * j) (by omega) (v := .int (M1 (3 + 6 * j) 4)) (congrArg (fk_ce g ov (3 + 6 * j) (M1 (3 + 6 * j))) (fk_kf hj)) rfl 4 (by decide) rfl (List.mem_of_getElem? (i := 28) rfl) rfl d_C_workOut_28 ?_
      rw [h4]
      refine lv_goto (tgt := 43) S.1 S.2.1 d_C_workOut_31 rfl ?_
      refine fk_pn S E G (3 + 6 * j) (by omega) (congrArg (fk_ce g ov (3 + 6 * j) (M1 (3 + 6 * j))) (fk_kf hj)) rfl 6 (by decide) rfl (List.mem_of_getElem? (i := 32) rfl) (upd (M1 (3 + 6 * j)) 6 (M (3 + 6 * j) 4)) (congrArg (fk_ce g ov (3 + 6 * j) (upd (M1 (3 + 6 * j)) 6 (M (3 + 6 * j) 4))) (fk_kf hj)) rfl (ty := (.int)) (by decide +kernel) rfl rfl (Nat.le_of_ble_eq_true rfl) d_C_workOut_43 (fun H locs G => ?_)
      obtain ⟨M5, hM5⟩ : ∃ z : fk_M, z = va_up M1 (3 + 6 * j) (upd (M1 (3 + 6 * j)) 6 (M (3 + 6 * j) 4)) := ⟨_, rfl⟩
      rw [← hM5] at G
      exact fk_vret S hr hlk E G (by rw [hM5]; unfold fk_wo; rw [if_pos hf, if_neg hc3, hm1]) d_C_workOut_46
