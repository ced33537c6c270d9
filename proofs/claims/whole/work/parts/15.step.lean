/-! Nodes of an expression by their places; remember, step. Written by wip/gen/s_step2.py. -/
/-- from i on: zeroes up to the next node, trees from there to the end -/
def fk_LI (b : Nat → Nat) (n cnt : Nat) (E : Nat → Int32) (i : Nat) : Prop := ∃ (y : Nat) (L : List Nat), fk_CT b n cnt E L y ∧ i ≤ y ∧ (∀ j, i ≤ j → j < y → E j = 0) ∧ ∀ q ∈ L, q ≤ 11
theorem fk_pos {e : Nat} (h0 : 0 < e) (h : e < 2 ^ 31) : 0 < nI e := by
  have h1 := nI_lt h0 h
  rw [nI_0] at h1
  exact h1
theorem fk_irr : ¬ (0 : Int32) < 0 := by decide
theorem fk_LI_yes {b : Nat → Nat} {n cnt i : Nat} {E : Nat → Int32} (h : fk_LI b n cnt E i) (hi : i < n) (hE : 0 < E i) : ∃ q e, q ≤ 10 ∧ fk_ok b n cnt i ∧ E i = nI e ∧ i < e ∧ e ≤ n ∧ fk_Ts (fk_T b n cnt E q) (fk_ar (b i)) (i + fk_hd (b i)) e ∧ fk_LI b n cnt E (i + 1) := by
  obtain ⟨y, L, h1, h2, h3, h4⟩ := h
  have hiy : i = y := by
    by_cases h : i < y
    · rw [h3 i (Nat.le_refl _) h] at hE
      exact absurd hE fk_irr
    · omega
  subst hiy
  cases L with
  | nil =>
    have h5 : i = n := h1
    omega
  | cons r L =>
    obtain ⟨q, e, hr, hok, a1, a2, a3, a4, a5, a6, a7⟩ := fk_CT_step h1
    subst hr
    have hq : q + 1 ≤ 11 := h4 _ List.mem_cons_self
    have hp := fk_hd_pos (b i)
    refine ⟨q, e, by omega, hok, a1, a2, a3, a6, i + fk_hd (b i), _, a7, by omega, fun j j1 j2 => ?_, fun z hz => ?_⟩
    · have hj : j = i + 1 := by omega
      rw [hj]
      exact a4 (by omega)
    · rcases List.mem_append.mp hz with hz | hz
      · rw [List.eq_of_mem_replicate hz]
        omega
      · exact h4 _ (List.mem_cons_of_mem _ hz)
theorem fk_LI_no {b : Nat → Nat} {n cnt i : Nat} {E : Nat → Int32} (hn : n < 2 ^ 31) (h : fk_LI b n cnt E i) (hi : i < n) (hE : ¬ 0 < E i) : fk_LI b n cnt E (i + 1) := by
  obtain ⟨y, L, h1, h2, h3, h4⟩ := h
  refine ⟨y, L, h1, ?_, fun j j1 j2 => h3 j (by omega) j2, h4⟩
  by_cases hiy : i = y
  · subst hiy
    cases L with
    | nil =>
      have h5 : i = n := h1
      omega
    | cons r L =>
      obtain ⟨q, e, hr, hok, a1, a2, a3, -⟩ := fk_CT_step h1
      rw [a1] at hE
      exact absurd (fk_pos (by omega) (by omega)) hE
  · omega
theorem fk_LI_all {b : Nat → Nat} {n cnt : Nat} {E : Nat → Int32} (hn : n < 2 ^ 31) (h : fk_T b n cnt E 11 0 n) : ∀ i, i ≤ n → fk_LI b n cnt E i := by
  intro i
  induction i with
  | zero => intro _; exact ⟨0, [11], ⟨n, h, rfl⟩, Nat.le_refl _, fun j _ h2 => absurd h2 (Nat.not_lt_zero _), fun q hq => by rw [List.mem_singleton.mp hq]; omega⟩
  | succ i ih =>
    intro hi
    by_cases hE : 0 < E i
    · obtain ⟨q, e, -, -, -, -, -, -, h2⟩ := fk_LI_yes (ih (by omega)) (by omega) hE
      exact h2
    · exact fk_LI_no hn (ih (by omega)) (by omega) hE
/-- a node: its parts are trees -/
theorem fk_node {b : Nat → Nat} {n cnt i : Nat} {E : Nat → Int32} (hn : n < 2 ^ 31) (h : fk_T b n cnt E 11 0 n) (hi : i < n) (hE : 0 < E i) : ∃ q e, q ≤ 10 ∧ fk_ok b n cnt i ∧ E i = nI e ∧ i < e ∧ e ≤ n ∧ fk_Ts (fk_T b n cnt E q) (fk_ar (b i)) (i + fk_hd (b i)) e := by
  obtain ⟨q, e, h1, h2, h3, h4, h5, h6, -⟩ := fk_LI_yes (fk_LI_all hn h i (by omega)) hi hE
  exact ⟨q, e, h1, h2, h3, h4, h5, h6⟩
/-- more levels: the same value -/
theorem fk_ev_up {M : fk_M} {x : Nat} {b : Nat → Nat} {n cnt : Nat} (hn : n ≤ 40) : ∀ r i e, fk_T b n cnt (M (x + 2)) r i e → fk_ev M x b (r + 1) i = fk_ev M x b r i := by
  intro r
  induction r with
  | zero => intro i e h; exact h.elim
  | succ r ih =>
    intro i e h
    obtain ⟨hok, -, -, hts⟩ := h
    have hok2 := hok.2.1
    show fk_ek M x (b i) (b (i + 1)) i _ _ _ = fk_ek M x (b i) (b (i + 1)) i _ _ _
    rcases (show fk_ar (b i) = 0 ∨ fk_ar (b i) = 1 ∨ fk_ar (b i) = 2 ∨ fk_ar (b i) = 3 by have := fk_ar_le (b i); omega) with h9 | h9 | h9 | h9
    · rcases (show b i = 0 ∨ b i = 1 ∨ b i = 2 ∨ b i = 3 by unfold fk_ar at h9; split at h9 <;> (try split at h9) <;> (try split at h9) <;> omega) with hk | hk | hk | hk <;> rw [hk] <;> rfl
    · rw [h9] at hts
      obtain ⟨y1, t1, -⟩ := hts
      rw [ih _ _ t1]
      rcases (show b i = 4 ∨ b i = 5 ∨ b i = 14 ∨ b i = 16 ∨ b i = 17 by unfold fk_ar at h9; split at h9 <;> (try split at h9) <;> (try split at h9) <;> omega) with hk | hk | hk | hk | hk <;> rw [hk] <;> rfl
    · rw [h9] at hts
      obtain ⟨y1, t1, y2, t2, -⟩ := hts
      rw [fk_en_T hn t1, ih _ _ t1, ih _ _ t2]
      rcases (show b i = 6 ∨ b i = 7 ∨ b i = 8 ∨ b i = 9 ∨ b i = 10 ∨ b i = 11 ∨ b i = 12 ∨ b i = 15 ∨ b i = 18 by unfold fk_ar at h9; split at h9 <;> (try split at h9) <;> (try split at h9) <;> omega) with hk | hk | hk | hk | hk | hk | hk | hk | hk <;> rw [hk] <;> rfl
    · rw [h9] at hts
      obtain ⟨y1, t1, y2, t2, y3, t3, -⟩ := hts
      rw [fk_en_T hn t1, fk_en_T hn t2, ih _ _ t1, ih _ _ t2, ih _ _ t3]
theorem fk_T_up {b : Nat → Nat} {n cnt : Nat} {E : Nat → Int32} : ∀ r i e, fk_T b n cnt E r i e → fk_T b n cnt E (r + 1) i e := by
  intro r
  induction r with
  | zero => intro i e h; exact h.elim
  | succ r ih =>
    intro i e h
    obtain ⟨h1, h2, h3, h4⟩ := h
    exact ⟨h1, h2, h3, fk_Ts_cong (lo := 0) (hi := e) (fk_T_lt r) (fun y d _ _ h => ih y d h) _ _ _ (Nat.zero_le _) (Nat.le_refl _) h1.2.2.1 h4⟩
theorem fk_ev_to {M : fk_M} {x : Nat} {b : Nat → Nat} {n cnt r r' i e : Nat} (hn : n ≤ 40) (h : fk_T b n cnt (M (x + 2)) r i e) (hr : r ≤ r') : fk_ev M x b r' i = fk_ev M x b r i ∧ fk_T b n cnt (M (x + 2)) r' i e := by
  induction hr with
  | refl => exact ⟨rfl, h⟩
  | step _ ih => exact ⟨(fk_ev_up hn _ _ _ ih.2).trans ih.1, fk_T_up _ _ _ ih.2⟩
/-- what the befores keep -/
def fk_rb1 (x : Nat) (b : Nat → Nat) (M : fk_M) (i : Nat) : fk_M := if 0 < M (x + 2) i ∧ b i = 14 ∧ fk_hi M (M (x + 3) i).toNatClampNeg = true then va_up M (x + 4) (upd (M (x + 4)) i (fk_ev M x b 11 (i + fk_hd (b i)))) else M
def fk_rb (x : Nat) (b : Nat → Nat) (M : fk_M) : Nat → fk_M
  | 0 => M
  | i + 1 => fk_rb1 x b (fk_rb x b M i) i
theorem fk_rb_Eq {x : Nat} (hX : fk_X x) (b : Nat → Nat) (M : fk_M) : ∀ i, fk_Eq M (fk_rb x b M i) := by
  intro i
  induction i with
  | zero => exact fk_Eq.rf _
  | succ i ih =>
    show fk_Eq M (fk_rb1 x b (fk_rb x b M i) i)
    unfold fk_rb1
    by_cases h : 0 < fk_rb x b M i (x + 2) i ∧ b i = 14 ∧ fk_hi (fk_rb x b M i) (fk_rb x b M i (x + 3) i).toNatClampNeg = true
    · rw [if_pos h]
      exact ih.tr (fk_Eq_p hX _)
    · rw [if_neg h]
      exact ih
theorem d_C_remember_0 : decode b_C_remember 0 = .ok (.iconst 0, 1) := by decide +kernel
theorem d_C_remember_1 : decode b_C_remember 1 = .ok (.istore_n 2, 1) := by decide +kernel
theorem d_C_remember_2 : decode b_C_remember 2 = .ok (.iload_n 2, 1) := by decide +kernel
theorem d_C_remember_3 : decode b_C_remember 3 = .ok (.aload_n 1, 1) := by decide +kernel
theorem d_C_remember_4 : decode b_C_remember 4 = .ok (.getfield 95, 3) := by decide +kernel
theorem d_C_remember_7 : decode b_C_remember 7 = .ok (.if_icmp .ge 67, 3) := by decide +kernel
theorem d_C_remember_10 : decode b_C_remember 10 = .ok (.aload_n 1, 1) := by decide +kernel
theorem d_C_remember_11 : decode b_C_remember 11 = .ok (.iload_n 2, 1) := by decide +kernel
theorem d_C_remember_12 : decode b_C_remember 12 = .ok (.invokevirtual 98, 3) := by decide +kernel
theorem d_C_remember_15 : decode b_C_remember 15 = .ok (.ifCond .eq 18, 3) := by decide +kernel
theorem d_C_remember_18 : decode b_C_remember 18 = .ok (.aload_n 1, 1) := by decide +kernel
theorem d_C_remember_19 : decode b_C_remember 19 = .ok (.getfield 101, 3) := by decide +kernel
theorem d_C_remember_22 : decode b_C_remember 22 = .ok (.iload_n 2, 1) := by decide +kernel
theorem d_C_remember_23 : decode b_C_remember 23 = .ok (.iaload, 1) := by decide +kernel
theorem d_C_remember_24 : decode b_C_remember 24 = .ok (.bipush 14, 2) := by decide +kernel
theorem d_C_remember_26 : decode b_C_remember 26 = .ok (.if_icmp .ne 7, 3) := by decide +kernel
theorem d_C_remember_29 : decode b_C_remember 29 = .ok (.iconst 1, 1) := by decide +kernel
theorem d_C_remember_30 : decode b_C_remember 30 = .ok (.goto 4, 3) := by decide +kernel
theorem d_C_remember_33 : decode b_C_remember 33 = .ok (.iconst 0, 1) := by decide +kernel
theorem d_C_remember_34 : decode b_C_remember 34 = .ok (.istore_n 3, 1) := by decide +kernel
theorem d_C_remember_35 : decode b_C_remember 35 = .ok (.iload_n 3, 1) := by decide +kernel
theorem d_C_remember_36 : decode b_C_remember 36 = .ok (.ifCond .eq 32, 3) := by decide +kernel
theorem d_C_remember_39 : decode b_C_remember 39 = .ok (.aload_n 0, 1) := by decide +kernel
theorem d_C_remember_40 : decode b_C_remember 40 = .ok (.aload_n 1, 1) := by decide +kernel
theorem d_C_remember_41 : decode b_C_remember 41 = .ok (.getfield 104, 3) := by decide +kernel
theorem d_C_remember_44 : decode b_C_remember 44 = .ok (.iload_n 2, 1) := by decide +kernel
theorem d_C_remember_45 : decode b_C_remember 45 = .ok (.iaload, 1) := by decide +kernel
theorem d_C_remember_46 : decode b_C_remember 46 = .ok (.invokevirtual 70, 3) := by decide +kernel
theorem d_C_remember_49 : decode b_C_remember 49 = .ok (.ifCond .eq 19, 3) := by decide +kernel
theorem d_C_remember_52 : decode b_C_remember 52 = .ok (.aload_n 1, 1) := by decide +kernel
theorem d_C_remember_53 : decode b_C_remember 53 = .ok (.getfield 49, 3) := by decide +kernel
theorem d_C_remember_56 : decode b_C_remember 56 = .ok (.iload_n 2, 1) := by decide +kernel
theorem d_C_remember_57 : decode b_C_remember 57 = .ok (.aload_n 0, 1) := by decide +kernel
theorem d_C_remember_58 : decode b_C_remember 58 = .ok (.aload_n 1, 1) := by decide +kernel
theorem d_C_remember_59 : decode b_C_remember 59 = .ok (.aload_n 1, 1) := by decide +kernel
theorem d_C_remember_60 : decode b_C_remember 60 = .ok (.iload_n 2, 1) := by decide +kernel
theorem d_C_remember_61 : decode b_C_remember 61 = .ok (.invokevirtual 107, 3) := by decide +kernel
theorem d_C_remember_64 : decode b_C_remember 64 = .ok (.invokevirtual 84, 3) := by decide +kernel
theorem d_C_remember_67 : decode b_C_remember 67 = .ok (.iastore, 1) := by decide +kernel
theorem d_C_remember_68 : decode b_C_remember 68 = .ok (.iinc 2 1, 3) := by decide +kernel
theorem d_C_remember_71 : decode b_C_remember 71 = .ok (.goto (-69), 3) := by decide +kernel
theorem d_C_remember_74 : decode b_C_remember 74 = .ok (.return_, 1) := by decide +kernel
theorem m_C_remember : fk_MI y_C_remember b_C_remember 4 none 1 := ⟨i_587, i_586, fk_mp (q := (y_C_remember, 3)) (by decide +kernel), i_7, by decide +kernel⟩
set_option maxHeartbeats 4000000 in
set_option maxRecDepth 100000 in
theorem c_C_remember (l : Launch) (g : fk_G) (ov : Int64) (M : fk_M) (x : Nat) (hX : fk_X x) (bf : Nat → Nat) (n cnt : Nat) (hn40 : n ≤ 40) (h12 : cnt ≤ 12) (hn : M x 4 = nI n) (hb : ∀ j, j < n → M (x + 1) j = nI (bf j)) (hck : ∀ j, j < 40 → ∃ q, q < 25 ∧ M (x + 3) j = nI q) (hT : 0 < n → fk_T bf n cnt (M (x + 2)) 11 0 n) : fk_CV l y_C_remember b_C_remember 4 (fk_rm 26) g ov M (fk_rb x bf M n) [.ref (fk_a g 82), .ref (fk_a g x)] := by
  refine fk_ofV rfl (Nat.le_of_ble_eq_true rfl) ?_
  intro p e s m args below meth c ls S hr hlk E G hl
  have hl : lv_has ls 4 [(0, .ref (fk_a g 82)), (1, .ref (fk_a g x))] := hl
  refine lv_iconst (v := nI 0) S.1 S.2.1 d_C_remember_0 (by decide +kernel) ?_
  refine lv_istore_n (lv' := [(2, .int (nI 0)), (0, .ref (fk_a g 82)), (1, .ref (fk_a g x))]) S.1 S.2.1 d_C_remember_1 rfl hl (by decide) rfl (fun ls hl => ?_)
  have loop : ∀ (d i : Nat) (H : Heap) (locs : List Loc) (ls : Array Slot), i + d = n → fk_H g ov (fk_rb x bf M i) s H locs → lv_has ls 4 [(2, .int (nI i)), (0, .ref (fk_a g 82)), (1, .ref (fk_a g x))] → W p l e (fk_rm 26) s m args below meth c H locs 0 0 (MQ below (va_Qv (fun (_ : Unit) => True) (fun _ t => fk_Wd g ov (fk_rb x bf M n) t) (fk_A g)) args s 0 0 (fk_A g)) (F0 m 2 ls []) := by
    intro d
    induction d with
    | zero =>
      intro i H locs ls hi G hl
      obtain ⟨e0, e1, e2, e3⟩ := (fk_rb_Eq hX bf M i).2.2 x hX
      obtain ⟨M1, hM1⟩ : ∃ z : fk_M, z = fk_rb x bf M i := ⟨_, rfl⟩
      rw [← hM1] at G
      rw [← hM1] at e0 e1 e2 e3
      refine lv_iload_n S.1 S.2.1 d_C_remember_2 rfl (lv_at hl 0 rfl) ?_
      refine lv_aload_n S.1 S.2.1 d_C_remember_3 rfl (lv_at hl 2 rfl) ?_
      refine fk_gn S E G x (by have := fk_Xlt hX; omega) (v := .int (M1 x 4)) (congrArg (fk_ce g ov x (M1 x)) (fk_kx0 hX)) rfl 4 (by decide) rfl (List.mem_of_getElem? (i := 12) rfl) rfl d_C_remember_4 ?_
      rw [e0, hn]
      refine fk_cge (tgt := 74) S.1 S.2.1 (by omega) (by omega) d_C_remember_7 rfl (fun hc1 => ?_) (fun hc1 => ?_)
      · have hin : i = n := by omega
        subst hin
        exact fk_vret S hr hlk E G hM1 d_C_remember_74
      · exact absurd hi (by omega)
    | succ d ih =>
      intro i H locs ls hi G hl
      obtain ⟨e0, e1, e2, e3⟩ := (fk_rb_Eq hX bf M i).2.2 x hX
      obtain ⟨M1, hM1⟩ : ∃ z : fk_M, z = fk_rb x bf M i := ⟨_, rfl⟩
      rw [← hM1] at G
      rw [← hM1] at e0 e1 e2 e3
      refine lv_iload_n S.1 S.2.1 d_C_remember_2 rfl (lv_at hl 0 rfl) ?_
      refine lv_aload_n S.1 S.2.1 d_C_remember_3 rfl (lv_at hl 2 rfl) ?_
      refine fk_gn S E G x (by have := fk_Xlt hX; omega) (v := .int (M1 x 4)) (congrArg (fk_ce g ov x (M1 x)) (fk_kx0 hX)) rfl 4 (by decide) rfl (List.mem_of_getElem? (i := 12) rfl) rfl d_C_remember_4 ?_
      rw [e0, hn]
      refine fk_cge (tgt := 74) S.1 S.2.1 (by omega) (by omega) d_C_remember_7 rfl (fun hc2 => ?_) (fun hc2 => ?_)
      · exact absurd hi (by omega)
      · have next : ∀ (vx : Int32) (H : Heap) (locs : List Loc) (ls : Array Slot), fk_H g ov (fk_rb x bf M (i + 1)) s H locs → lv_has ls 4 [(3, .int vx), (2, .int (nI i)), (0, .ref (fk_a g 82)), (1, .ref (fk_a g x))] → W p l e (fk_rm 26) s m args below meth c H locs 0 0 (MQ below (va_Qv (fun (_ : Unit) => True) (fun _ t => fk_Wd g ov (fk_rb x bf M n) t) (fk_A g)) args s 0 0 (fk_A g)) (F0 m 68 ls []) := by
          intro vx H locs ls G hl
          refine lv_iinc (k := 1) (v := nI (i + 1)) (lv' := [(2, .int (nI (i + 1))), (3, .int vx), (0, .ref (fk_a g 82)), (1, .ref (fk_a g x))]) S.1 S.2.1 d_C_remember_68 hl rfl (nI_1 i) (by decide) rfl (fun ls hl => ?_)
          refine lv_goto (tgt := 2) S.1 S.2.1 d_C_remember_71 rfl ?_
          exact ih (i + 1) H locs ls (by omega) G (lv_sub hl [0, 2, 3] rfl)
        refine lv_aload_n S.1 S.2.1 d_C_remember_10 rfl (lv_at hl 2 rfl) ?_
        refine lv_iload_n S.1 S.2.1 d_C_remember_11 rfl (lv_at hl 0 rfl) ?_
        refine fk_cni S E G x (by have := fk_Xlt hX; omega) (congrArg (fk_ce g ov x (M1 x)) (fk_kx0 hX)) rfl (rest := []) (c_E_beginsAt l g ov M1 x hX i (by omega)) m_E_beginsAt (List.mem_of_getElem? (i := 38) rfl) ⟨rfl, rfl⟩ ⟨by decide, by decide⟩ rfl rfl hl.1 (Nat.le_of_ble_eq_true rfl) d_C_remember_12 ⟨Nat.zero_le _, Nat.zero_le _⟩ (fun H locs G => ?_)
        refine fk_zeq (tgt := 33) S.1 S.2.1 (fk_bl _) d_C_remember_15 rfl (fun hc3 => ?_) (fun hc3 => ?_)
        · have hf := of_decide_eq_false (fk_bf hc3)
          have hsame : fk_rb x bf M (i + 1) = M1 := by
            show fk_rb1 x bf (fk_rb x bf M i) i = M1
            rw [← hM1]
            exact if_neg (fun q => hf q.1)
          refine lv_iconst (v := nI 0) S.1 S.2.1 d_C_remember_33 (by decide +kernel) ?_
          refine lv_istore_n (lv' := [(3, .int (nI 0)), (2, .int (nI i)), (0, .ref (fk_a g 82)), (1, .ref (fk_a g x))]) S.1 S.2.1 d_C_remember_34 rfl hl (by decide) rfl (fun ls hl => ?_)
          refine lv_iload_n S.1 S.2.1 d_C_remember_35 rfl (lv_at hl 0 rfl) ?_
          refine fk_zeq (tgt := 68) S.1 S.2.1 (by omega) d_C_remember_36 rfl (fun hc4 => ?_) (fun hc4 => ?_)
          · exact next _ H locs ls (by rw [hsame]; exact G) hl
          · exact absurd hc4 (by omega)
        · have hf := of_decide_eq_true (fk_bt hc3)
          have hT0 := hT (by omega)
          obtain ⟨q, ee, hq, hok, hE, hlt, hle, hts⟩ := fk_node (by omega) hT0 (show i < n by omega) (by rw [← e2]; exact hf)
          have hok2 := hok.2.1
          refine lv_aload_n S.1 S.2.1 d_C_remember_18 rfl (lv_at hl 2 rfl) ?_
          refine fk_gn S E G x (by have := fk_Xlt hX; omega) (v := .ref (fk_a g (x + 1))) (congrArg (fk_ce g ov x (M1 x)) (fk_kx0 hX)) rfl 0 (by decide) rfl (List.mem_of_getElem? (i := 2) rfl) rfl d_C_remember_19 ?_
          refine lv_iload_n S.1 S.2.1 d_C_remember_22 rfl (lv_at hl 0 rfl) ?_
          refine fk_ia S E G (x + 1) (by have := fk_Xlt hX; omega) (congrArg (fk_ce g ov (x + 1) (M1 (x + 1))) (fk_kx1 hX)) i rfl (by omega) (by decide) (v := nI (bf i)) (by rw [e1]; exact hb i (by omega)) d_C_remember_23 ?_
          refine lv_bipush (v := nI 14) S.1 S.2.1 d_C_remember_24 (by decide +kernel) ?_
          refine fk_cne (tgt := 33) S.1 S.2.1 (by omega) (by omega) d_C_remember_26 rfl (fun hc5 => ?_) (fun hc5 => ?_)
          · have hsame : fk_rb x bf M (i + 1) = M1 := by
              show fk_rb1 x bf (fk_rb x bf M i) i = M1
              rw [← hM1]
              exact if_neg (fun q => hc5 q.2.1)
            refine lv_iconst (v := nI 0) S.1 S.2.1 d_C_remember_33 (by decide +kernel) ?_
            refine lv_istore_n (lv' := [(3, .int (nI 0)), (2, .int (nI i)), (0, .ref (fk_a g 82)), (1, .ref (fk_a g x))]) S.1 S.2.1 d_C_remember_34 rfl hl (by decide) rfl (fun ls hl => ?_)
            refine lv_iload_n S.1 S.2.1 d_C_remember_35 rfl (lv_at hl 0 rfl) ?_
            refine fk_zeq (tgt := 68) S.1 S.2.1 (by omega) d_C_remember_36 rfl (fun hc6 => ?_) (fun hc6 => ?_)
            · exact next _ H locs ls (by rw [hsame]; exact G) hl
            · exact absurd hc6 (by omega)
          · obtain ⟨w, hw1, hw2⟩ := hck i (by omega)
            rw [← e3] at hw2
            refine lv_iconst (v := nI 1) S.1 S.2.1 d_C_remember_29 (by decide +kernel) ?_
            refine lv_goto (tgt := 34) S.1 S.2.1 d_C_remember_30 rfl ?_
            refine lv_istore_n (lv' := [(3, .int (nI 1)), (2, .int (nI i)), (0, .ref (fk_a g 82)), (1, .ref (fk_a g x))]) S.1 S.2.1 d_C_remember_34 rfl hl (by decide) rfl (fun ls hl => ?_)
            refine lv_iload_n S.1 S.2.1 d_C_remember_35 rfl (lv_at hl 0 rfl) ?_
            refine fk_zeq (tgt := 68) S.1 S.2.1 (by omega) d_C_remember_36 rfl (fun hc7 => ?_) (fun hc7 => ?_)
            · exact absurd hc7 (by omega)
            · refine lv_aload_n S.1 S.2.1 d_C_remember_39 rfl (lv_at hl 2 rfl) ?_
              refine lv_aload_n S.1 S.2.1 d_C_remember_40 rfl (lv_at hl 3 rfl) ?_
              refine fk_gn S E G x (by have := fk_Xlt hX; omega) (v := .ref (fk_a g (x + 3))) (congrArg (fk_ce g ov x (M1 x)) (fk_kx0 hX)) rfl 2 (by decide) rfl (List.mem_of_getElem? (i := 5) rfl) rfl d_C_remember_41 ?_
              refine lv_iload_n S.1 S.2.1 d_C_remember_44 rfl (lv_at hl 1 rfl) ?_
              refine fk_ia S E G (x + 3) (by have := fk_Xlt hX; omega) (congrArg (fk_ce g ov (x + 3) (M1 (x + 3))) (fk_kx3 hX)) i rfl (by omega) (by decide) (v := nI w) hw2 d_C_remember_45 ?_
              refine fk_cvi S E G 82 (by decide) (congrArg (fk_ce g ov 82 (M1 82)) kd_82) rfl (rest := []) (c_C_hasInstant l g ov M1 w hw1) m_C_hasInstant i_553 ⟨rfl, rfl⟩ ⟨by decide, by decide⟩ rfl rfl hl.1 (Nat.le_of_ble_eq_true rfl) d_C_remember_46 ⟨Nat.zero_le _, Nat.zero_le _⟩ (fun H locs G => ?_)
              refine fk_zeq (tgt := 68) S.1 S.2.1 (fk_bl _) d_C_remember_49 rfl (fun hc8 => ?_) (fun hc8 => ?_)
              · have hhi := fk_bf hc8
                have hsame : fk_rb x bf M (i + 1) = M1 := by
                  show fk_rb1 x bf (fk_rb x bf M i) i = M1
                  rw [← hM1]
                  exact if_neg (fun q => by have := q.2.2; rw [hw2, nI_clamp (by omega), hhi] at this; cases this)
                exact next _ H locs ls (by rw [hsame]; exact G) hl
              · have hhi := fk_bt hc8
                have har : fk_ar (bf i) = 1 := by rw [hc5]; decide
                rw [har] at hts
                obtain ⟨y1, t1, -⟩ := hts
                have l1 := fk_T_lt _ _ _ t1
                obtain ⟨v1, t2⟩ := fk_ev_to (M := M) (x := x) (r' := 11) hn40 t1 (by omega)
                rw [← e2] at t1 t2
                refine lv_aload_n S.1 S.2.1 d_C_remember_52 rfl (lv_at hl 3 rfl) ?_
                refine fk_gn S E G x (by have := fk_Xlt hX; omega) (v := .ref (fk_a g (x + 4))) (congrArg (fk_ce g ov x (M1 x)) (fk_kx0 hX)) rfl 3 (by decide) rfl (List.mem_of_getElem? (i := 7) rfl) rfl d_C_remember_53 ?_
                refine lv_iload_n S.1 S.2.1 d_C_remember_56 rfl (lv_at hl 1 rfl) ?_
                refine lv_aload_n S.1 S.2.1 d_C_remember_57 rfl (lv_at hl 2 rfl) ?_
                refine lv_aload_n S.1 S.2.1 d_C_remember_58 rfl (lv_at hl 3 rfl) ?_
                refine lv_aload_n S.1 S.2.1 d_C_remember_59 rfl (lv_at hl 3 rfl) ?_
                refine lv_iload_n S.1 S.2.1 d_C_remember_60 rfl (lv_at hl 1 rfl) ?_
                refine fk_cni S E G x (by have := fk_Xlt hX; omega) (congrArg (fk_ce g ov x (M1 x)) (fk_kx0 hX)) rfl (rest := [.ref (fk_a g x), .ref (fk_a g 82), .int (nI i), .ref (fk_a g (x + 4))]) (c_E_firstPart l g ov M1 x hX i (bf i) (by omega) (by omega) (by rw [e1]; exact hb i (by omega))) m_E_firstPart (List.mem_of_getElem? (i := 34) rfl) ⟨rfl, rfl⟩ ⟨by decide, by decide⟩ rfl rfl hl.1 (Nat.le_of_ble_eq_true rfl) d_C_remember_61 ⟨Nat.zero_le _, Nat.zero_le _⟩ (fun H locs G => ?_)
                refine fk_cvi S E G 82 (by decide) (congrArg (fk_ce g ov 82 (M1 82)) kd_82) rfl (rest := [.int (nI i), .ref (fk_a g (x + 4))]) (c_C_resultOf l g ov M1 x hX bf n cnt hn40 h12 (fun j hj => by rw [e1]; exact hb j hj) (fun j hj => by rw [e3]; exact hck j hj) 11 (i + fk_hd (bf i)) y1 t2) m_C_resultOf i_558 ⟨rfl, rfl⟩ ⟨by decide, by decide⟩ rfl rfl hl.1 (Nat.le_of_ble_eq_true rfl) d_C_remember_64 ⟨Nat.zero_le _, Nat.zero_le _⟩ (fun H locs G => ?_)
                refine fk_is S E G (x + 4) (by have := fk_Xlt hX; omega) (fun r => congrArg (fk_ce g ov (x + 4) r) (fk_kx4 hX)) i rfl (by omega) (by decide) d_C_remember_67 (fun H locs G => ?_)
                obtain ⟨M9, hM9⟩ : ∃ z : fk_M, z = va_up M1 (x + 4) (upd (M1 (x + 4)) i (fk_ev M1 x bf 11 (i + fk_hd (bf i)))) := ⟨_, rfl⟩
                rw [← hM9] at G
                have hdo : fk_rb x bf M (i + 1) = M9 := by
                  show fk_rb1 x bf (fk_rb x bf M i) i = M9
                  rw [← hM1, hM9]
                  exact if_pos ⟨hf, hc5, by rw [hw2, nI_clamp (by omega)]; exact hhi⟩
                exact next _ H locs ls (by rw [hdo]; exact G) hl
  exact loop n 0 s.heap [] ls (by omega) G hl
/-- one instant: flows in their turns, what befores keep, what clocks count -/
def fk_s1 (ck P tn : Nat → Nat) (bb : Nat → Nat → Nat) (M : fk_M) : Nat → fk_M
  | 0 => M
  | k + 1 => fk_wo ck P bb (fk_s1 ck P tn bb M k) (tn k)
def fk_s2 (P sz : Nat → Nat) (bb : Nat → Nat → Nat) (M : fk_M) : Nat → fk_M
  | 0 => M
  | k + 1 => fk_rb (P k) (bb k) (fk_s2 P sz bb M k) (sz k)
def fk_s3 (M : fk_M) : Nat → fk_M
  | 0 => M
  | k + 1 => va_up (fk_s3 M k) 83 (upd (fk_s3 M k 83) k (fk_s3 M k 83 k + nI (fk_hi (fk_s3 M k) k).toNat))
def fk_st (n : Nat) (ck P sz tn : Nat → Nat) (bb : Nat → Nat → Nat) (M : fk_M) : fk_M := fk_s3 (fk_s2 P sz bb (fk_s1 ck P tn bb M n) n) (2 * n + 1)
theorem fk_wo_ne {ck P : Nat → Nat} {bb : Nat → Nat → Nat} (M : fk_M) {j k : Nat} (h : k ≠ 3 + 6 * j) : fk_wo ck P bb M j k = M k := by
  unfold fk_wo
  by_cases hh : fk_hi M (ck j) = true
  · rw [if_pos hh, va_up_ne _ _ h]
    exact va_up_ne _ _ h
  · rw [if_neg hh]
    exact va_up_ne _ _ h
/-- what working out leaves: the rows of slots that aren't presence and value -/
theorem fk_wo_row {ck P : Nat → Nat} {bb : Nat → Nat → Nat} (M : fk_M) {j i t : Nat} (h5 : t ≠ 5) (h6 : t ≠ 6) : fk_wo ck P bb M j (3 + 6 * i) t = M (3 + 6 * i) t := by
  by_cases hij : i = j
  · subst hij
    unfold fk_wo
    by_cases hh : fk_hi M (ck i) = true
    · rw [if_pos hh, va_up_self, pk_un h6]
      unfold fk_w1
      rw [va_up_self, pk_un h5]
    · rw [if_neg hh]
      unfold fk_w1
      rw [va_up_self, pk_un h5]
  · rw [fk_wo_ne _ (by omega)]
theorem fk_s1_Eq {ck P tn : Nat → Nat} {bb : Nat → Nat → Nat} {M : fk_M} {n : Nat} (hn : n ≤ 12) (ht : ∀ k, k < n → tn k < n) : ∀ k, k ≤ n → fk_Eq M (fk_s1 ck P tn bb M k) ∧ fk_s1 ck P tn bb M k 78 = M 78 := by
  intro k
  induction k with
  | zero => intro _; exact ⟨fk_Eq.rf _, rfl⟩
  | succ k ih =>
    intro hk
    obtain ⟨h1, h2⟩ := ih (by omega)
    have h3 := ht k (by omega)
    exact ⟨h1.tr (fk_wo_Eq _ (by omega)), (fk_wo_ne _ (by omega)).trans h2⟩
theorem fk_s2_Eq {P sz : Nat → Nat} {bb : Nat → Nat → Nat} {M : fk_M} (hP : ∀ j, j < 12 → fk_X (P j)) : ∀ k, k ≤ 12 → fk_Eq M (fk_s2 P sz bb M k) := by
  intro k
  induction k with
  | zero => intro _; exact fk_Eq.rf _
  | succ k ih => intro hk; exact (ih (by omega)).tr (fk_rb_Eq (hP k (by omega)) _ _ _)
theorem fk_s3_Eq {M : fk_M} : ∀ k, fk_Eq M (fk_s3 M k) := by
  intro k
  induction k with
  | zero => exact fk_Eq.rf _
  | succ k ih => exact ih.tr (fk_Eq_k (by omega) _)
theorem d_C_step_0 : decode b_C_step 0 = .ok (.iconst 0, 1) := by decide +kernel
theorem d_C_step_1 : decode b_C_step 1 = .ok (.istore_n 1, 1) := by decide +kernel
theorem d_C_step_2 : decode b_C_step 2 = .ok (.iload_n 1, 1) := by decide +kernel
theorem d_C_step_3 : decode b_C_step 3 = .ok (.aload_n 0, 1) := by decide +kernel
theorem d_C_step_4 : decode b_C_step 4 = .ok (.getfield 15, 3) := by decide +kernel
theorem d_C_step_7 : decode b_C_step 7 = .ok (.getfield 29, 3) := by decide +kernel
theorem d_C_step_10 : decode b_C_step 10 = .ok (.if_icmp .ge 30, 3) := by decide +kernel
theorem d_C_step_13 : decode b_C_step 13 = .ok (.aload_n 0, 1) := by decide +kernel
theorem d_C_step_14 : decode b_C_step 14 = .ok (.aload_n 0, 1) := by decide +kernel
theorem d_C_step_15 : decode b_C_step 15 = .ok (.getfield 15, 3) := by decide +kernel
theorem d_C_step_18 : decode b_C_step 18 = .ok (.getfield 35, 3) := by decide +kernel
theorem d_C_step_21 : decode b_C_step 21 = .ok (.aload_n 0, 1) := by decide +kernel
theorem d_C_step_22 : decode b_C_step 22 = .ok (.getfield 19, 3) := by decide +kernel
theorem d_C_step_25 : decode b_C_step 25 = .ok (.getfield 57, 3) := by decide +kernel
theorem d_C_step_28 : decode b_C_step 28 = .ok (.iload_n 1, 1) := by decide +kernel
theorem d_C_step_29 : decode b_C_step 29 = .ok (.iaload, 1) := by decide +kernel
theorem d_C_step_30 : decode b_C_step 30 = .ok (.aaload, 1) := by decide +kernel
theorem d_C_step_31 : decode b_C_step 31 = .ok (.invokevirtual 62, 3) := by decide +kernel
theorem d_C_step_34 : decode b_C_step 34 = .ok (.iinc 1 1, 3) := by decide +kernel
theorem d_C_step_37 : decode b_C_step 37 = .ok (.goto (-35), 3) := by decide +kernel
theorem d_C_step_40 : decode b_C_step 40 = .ok (.iconst 0, 1) := by decide +kernel
theorem d_C_step_41 : decode b_C_step 41 = .ok (.istore_n 1, 1) := by decide +kernel
theorem d_C_step_42 : decode b_C_step 42 = .ok (.iload_n 1, 1) := by decide +kernel
theorem d_C_step_43 : decode b_C_step 43 = .ok (.aload_n 0, 1) := by decide +kernel
theorem d_C_step_44 : decode b_C_step 44 = .ok (.getfield 15, 3) := by decide +kernel
theorem d_C_step_47 : decode b_C_step 47 = .ok (.getfield 29, 3) := by decide +kernel
theorem d_C_step_50 : decode b_C_step 50 = .ok (.if_icmp .ge 25, 3) := by decide +kernel
theorem d_C_step_53 : decode b_C_step 53 = .ok (.aload_n 0, 1) := by decide +kernel
theorem d_C_step_54 : decode b_C_step 54 = .ok (.aload_n 0, 1) := by decide +kernel
theorem d_C_step_55 : decode b_C_step 55 = .ok (.getfield 15, 3) := by decide +kernel
theorem d_C_step_58 : decode b_C_step 58 = .ok (.getfield 35, 3) := by decide +kernel
theorem d_C_step_61 : decode b_C_step 61 = .ok (.iload_n 1, 1) := by decide +kernel
theorem d_C_step_62 : decode b_C_step 62 = .ok (.aaload, 1) := by decide +kernel
theorem d_C_step_63 : decode b_C_step 63 = .ok (.getfield 45, 3) := by decide +kernel
theorem d_C_step_66 : decode b_C_step 66 = .ok (.invokevirtual 66, 3) := by decide +kernel
theorem d_C_step_69 : decode b_C_step 69 = .ok (.iinc 1 1, 3) := by decide +kernel
theorem d_C_step_72 : decode b_C_step 72 = .ok (.goto (-30), 3) := by decide +kernel
theorem d_C_step_75 : decode b_C_step 75 = .ok (.iconst 0, 1) := by decide +kernel
theorem d_C_step_76 : decode b_C_step 76 = .ok (.istore_n 1, 1) := by decide +kernel
theorem d_C_step_77 : decode b_C_step 77 = .ok (.iload_n 1, 1) := by decide +kernel
theorem d_C_step_78 : decode b_C_step 78 = .ok (.iconst 2, 1) := by decide +kernel
theorem d_C_step_79 : decode b_C_step 79 = .ok (.aload_n 0, 1) := by decide +kernel
theorem d_C_step_80 : decode b_C_step 80 = .ok (.getfield 15, 3) := by decide +kernel
theorem d_C_step_83 : decode b_C_step 83 = .ok (.getfield 29, 3) := by decide +kernel
theorem d_C_step_86 : decode b_C_step 86 = .ok (.imul, 1) := by decide +kernel
theorem d_C_step_87 : decode b_C_step 87 = .ok (.if_icmp .gt 26, 3) := by decide +kernel
theorem d_C_step_90 : decode b_C_step 90 = .ok (.aload_n 0, 1) := by decide +kernel
theorem d_C_step_91 : decode b_C_step 91 = .ok (.getfield 9, 3) := by decide +kernel
theorem d_C_step_94 : decode b_C_step 94 = .ok (.iload_n 1, 1) := by decide +kernel
theorem d_C_step_95 : decode b_C_step 95 = .ok (.dup2, 1) := by decide +kernel
theorem d_C_step_96 : decode b_C_step 96 = .ok (.iaload, 1) := by decide +kernel
theorem d_C_step_97 : decode b_C_step 97 = .ok (.aload_n 0, 1) := by decide +kernel
theorem d_C_step_98 : decode b_C_step 98 = .ok (.iload_n 1, 1) := by decide +kernel
theorem d_C_step_99 : decode b_C_step 99 = .ok (.invokevirtual 70, 3) := by decide +kernel
theorem d_C_step_102 : decode b_C_step 102 = .ok (.invokestatic 74, 3) := by decide +kernel
theorem d_C_step_105 : decode b_C_step 105 = .ok (.iadd, 1) := by decide +kernel
theorem d_C_step_106 : decode b_C_step 106 = .ok (.iastore, 1) := by decide +kernel
theorem d_C_step_107 : decode b_C_step 107 = .ok (.iinc 1 1, 3) := by decide +kernel
theorem d_C_step_110 : decode b_C_step 110 = .ok (.goto (-33), 3) := by decide +kernel
theorem d_C_step_113 : decode b_C_step 113 = .ok (.return_, 1) := by decide +kernel
theorem m_C_step : fk_MI y_C_step b_C_step 2 none 0 := ⟨i_548, i_547, fk_mp (q := (y_C_step, 3)) (by decide +kernel), i_7, by decide +kernel⟩
set_option maxHeartbeats 4000000 in
set_option maxRecDepth 100000 in
theorem c_C_step (l : Launch) (g : fk_G) (ov : Int64) (M : fk_M) (n : Nat) (ck P sz : Nat → Nat) (bb : Nat → Nat → Nat) (hs : fk_Sh n ck P sz bb M) (tn : Nat → Nat) (ht : ∀ k, k < n → M 78 k = nI (tn k) ∧ tn k < n) (h0 : ∀ j, j < n → M (3 + 6 * j) 2 = 0 → 0 < sz j) : fk_CV l y_C_step b_C_step 2 (fk_rm 27) g ov M (fk_st n ck P sz tn bb M) [.ref (fk_a g 82)] := by
  refine fk_ofV rfl (Nat.le_of_ble_eq_true rfl) ?_
  intro p e s m args below meth c ls S hr hlk E G hl
  have hl : lv_has ls 2 [(0, .ref (fk_a g 82))] := hl
  have h12 := hs.2.1
  have hP : ∀ j, j < 12 → fk_X (P j) := fun j hj => (hs.2.2 j hj).1
  have ht2 : ∀ k, k < n → tn k < n := fun k hk => (ht k hk).2
  have after2 : ∀ (H : Heap) (locs : List Loc) (ls : Array Slot), fk_H g ov (fk_s2 P sz bb (fk_s1 ck P tn bb M n) n) s H locs → lv_has ls 2 [(1, .int (nI n)), (0, .ref (fk_a g 82))] → W p l e (fk_rm 27) s m args below meth c H locs 0 0 (MQ below (va_Qv (fun (_ : Unit) => True) (fun _ t => fk_Wd g ov (fk_st n ck P sz tn bb M) t) (fk_A g)) args s 0 0 (fk_A g)) (F0 m 75 ls []) := by
    intro H locs ls G hl
    have hs0 : fk_Sh n ck P sz bb (fk_s2 P sz bb (fk_s1 ck P tn bb M n) n) := (hs.to (fk_s1_Eq h12 ht2 n (Nat.le_refl _)).1).to (fk_s2_Eq (sz := sz) (bb := bb) hP n h12)
    obtain ⟨M0, hM0⟩ : ∃ z : fk_M, z = fk_s2 P sz bb (fk_s1 ck P tn bb M n) n := ⟨_, rfl⟩
    rw [← hM0] at G hs0
    have loop3 : ∀ (d i : Nat) (H : Heap) (locs : List Loc) (ls : Array Slot), i + d = 2 * n + 1 → fk_H g ov (fk_s3 M0 i) s H locs → lv_has ls 2 [(1, .int (nI i)), (0, .ref (fk_a g 82))] → W p l e (fk_rm 27) s m args below meth c H locs 0 0 (MQ below (va_Qv (fun (_ : Unit) => True) (fun _ t => fk_Wd g ov (fk_st n ck P sz tn bb M) t) (fk_A g)) args s 0 0 (fk_A g)) (F0 m 77 ls []) := by
      intro d
      induction d with
      | zero =>
        intro i H locs ls hi G hl
        obtain ⟨M1, hM1⟩ : ∃ z : fk_M, z = fk_s3 M0 i := ⟨_, rfl⟩
        rw [← hM1] at G
        have hs1 : fk_Sh n ck P sz bb M1 := by rw [hM1]; exact hs0.to (fk_s3_Eq i)
        refine lv_iload_n S.1 S.2.1 d_C_step_77 rfl (lv_at hl 0 rfl) ?_
        refine lv_iconst (v := nI 2) S.1 S.2.1 d_C_step_78 (by decide +kernel) ?_
        refine lv_aload_n S.1 S.2.1 d_C_step_79 rfl (lv_at hl 1 rfl) ?_
        refine fk_gf S E G 82 (by decide) (v := .ref (fk_a g 1)) (congrArg (fk_ce g ov 82 (M1 82)) kd_82) rfl 0 (by decide) rfl i_188 rfl d_C_step_80 ?_
        refine fk_gn S E G 1 (by decide) (v := .int (M1 1 1)) (congrArg (fk_ce g ov 1 (M1 1)) kd_1) rfl 1 (by decide) rfl (List.mem_of_getElem? (i := 39) rfl) rfl d_C_step_83 ?_
        rw [hs1.1]
        refine fk_imul S.1 S.2.1 d_C_step_86 ?_
        refine fk_cgt (tgt := 113) S.1 S.2.1 (by omega) (by omega) d_C_step_87 rfl (fun hc1 => ?_) (fun hc1 => ?_)
        · have hin : i = 2 * n + 1 := by omega
          subst hin
          exact fk_vret S hr hlk E G (by rw [hM1, hM0]; rfl) d_C_step_113
        · exact absurd hi (by omega)
      | succ d ih =>
        intro i H locs ls hi G hl
        obtain ⟨M1, hM1⟩ : ∃ z : fk_M, z = fk_s3 M0 i := ⟨_, rfl⟩
        rw [← hM1] at G
        have hs1 : fk_Sh n ck P sz bb M1 := by rw [hM1]; exact hs0.to (fk_s3_Eq i)
        refine lv_iload_n S.1 S.2.1 d_C_step_77 rfl (lv_at hl 0 rfl) ?_
        refine lv_iconst (v := nI 2) S.1 S.2.1 d_C_step_78 (by decide +kernel) ?_
        refine lv_aload_n S.1 S.2.1 d_C_step_79 rfl (lv_at hl 1 rfl) ?_
        refine fk_gf S E G 82 (by decide) (v := .ref (fk_a g 1)) (congrArg (fk_ce g ov 82 (M1 82)) kd_82) rfl 0 (by decide) rfl i_188 rfl d_C_step_80 ?_
        refine fk_gn S E G 1 (by decide) (v := .int (M1 1 1)) (congrArg (fk_ce g ov 1 (M1 1)) kd_1) rfl 1 (by decide) rfl (List.mem_of_getElem? (i := 39) rfl) rfl d_C_step_83 ?_
        rw [hs1.1]
        refine fk_imul S.1 S.2.1 d_C_step_86 ?_
        refine fk_cgt (tgt := 113) S.1 S.2.1 (by omega) (by omega) d_C_step_87 rfl (fun hc2 => ?_) (fun hc2 => ?_)
        · exact absurd hi (by omega)
        · refine lv_aload_n S.1 S.2.1 d_C_step_90 rfl (lv_at hl 1 rfl) ?_
          refine fk_gf S E G 82 (by decide) (v := .ref (fk_a g 83)) (congrArg (fk_ce g ov 82 (M1 82)) kd_82) rfl 2 (by decide) rfl i_190 rfl d_C_step_91 ?_
          refine lv_iload_n S.1 S.2.1 d_C_step_94 rfl (lv_at hl 0 rfl) ?_
          refine lv_dup2_11 S.1 S.2.1 d_C_step_95 rfl rfl ?_
          refine fk_ia S E G 83 (by decide) (congrArg (fk_ce g ov 83 (M1 83)) kd_83) i rfl (by omega) (by decide) (v := M1 83 i) rfl d_C_step_96 ?_
          refine lv_aload_n S.1 S.2.1 d_C_step_97 rfl (lv_at hl 1 rfl) ?_
          refine lv_iload_n S.1 S.2.1 d_C_step_98 rfl (lv_at hl 0 rfl) ?_
          refine fk_cvi S E G 82 (by decide) (congrArg (fk_ce g ov 82 (M1 82)) kd_82) rfl (rest := [.int (M1 83 i), .int (nI i), .ref (fk_a g 83)]) (c_C_hasInstant l g ov M1 i (by omega)) m_C_hasInstant i_553 ⟨rfl, rfl⟩ ⟨by decide, by decide⟩ rfl rfl hl.1 (Nat.le_of_ble_eq_true rfl) d_C_step_99 ⟨Nat.zero_le _, Nat.zero_le _⟩ (fun H locs G => ?_)
          refine fk_cti S E G (rest := [.int (M1 83 i), .int (nI i), .ref (fk_a g 83)]) (c_D_truth l g ov M1 (fk_hi M1 i).toNat (by cases fk_hi M1 i <;> decide)) m_D_truth (List.mem_of_getElem? (i := 37) rfl) ⟨rfl, rfl⟩ ⟨by decide, by decide⟩ rfl rfl hl.1 (Nat.le_of_ble_eq_true rfl) d_C_step_102 ⟨Nat.zero_le _, Nat.zero_le _⟩ (fun H locs G => ?_)
          refine lv_iadd S.1 S.2.1 d_C_step_105 ?_
          refine fk_is S E G 83 (by decide) (fun r => congrArg (fk_ce g ov 83 r) kd_83) i rfl (by omega) (by decide) d_C_step_106 (fun H locs G => ?_)
          obtain ⟨M3, hM3⟩ : ∃ z : fk_M, z = va_up M1 83 (upd (M1 83) i ((M1 83 i) + (nI ((fk_hi M1 i).toNat)))) := ⟨_, rfl⟩
          rw [← hM3] at G
          refine lv_iinc (k := 0) (v := nI (i + 1)) (lv' := [(1, .int (nI (i + 1))), (0, .ref (fk_a g 82))]) S.1 S.2.1 d_C_step_107 hl rfl (nI_1 i) (by decide) rfl (fun ls hl => ?_)
          refine lv_goto (tgt := 77) S.1 S.2.1 d_C_step_110 rfl ?_
          refine ih (i + 1) H locs ls (by omega) ?_ hl
          rw [hM3, hM1] at G
          exact G
    refine lv_iconst (v := nI 0) S.1 S.2.1 d_C_step_75 (by decide +kernel) ?_
    refine lv_istore_n (lv' := [(1, .int (nI 0)), (0, .ref (fk_a g 82))]) S.1 S.2.1 d_C_step_76 rfl hl (by decide) rfl (fun ls hl => ?_)
    exact loop3 (2 * n + 1) 0 H locs ls (by omega) G hl
  have loop2 : ∀ (d i : Nat) (H : Heap) (locs : List Loc) (ls : Array Slot), i + d = n → fk_H g ov (fk_s2 P sz bb (fk_s1 ck P tn bb M n) i) s H locs → lv_has ls 2 [(1, .int (nI i)), (0, .ref (fk_a g 82))] → W p l e (fk_rm 27) s m args below meth c H locs 0 0 (MQ below (va_Qv (fun (_ : Unit) => True) (fun _ t => fk_Wd g ov (fk_st n ck P sz tn bb M) t) (fk_A g)) args s 0 0 (fk_A g)) (F0 m 42 ls []) := by
    intro d
    induction d with
    | zero =>
      intro i H locs ls hi G hl
      obtain ⟨M1, hM1⟩ : ∃ z : fk_M, z = fk_s2 P sz bb (fk_s1 ck P tn bb M n) i := ⟨_, rfl⟩
      rw [← hM1] at G
      have hs1 : fk_Sh n ck P sz bb M1 := by rw [hM1]; exact (hs.to (fk_s1_Eq h12 ht2 n (Nat.le_refl _)).1).to (fk_s2_Eq hP i (by omega))
      refine lv_iload_n S.1 S.2.1 d_C_step_42 rfl (lv_at hl 0 rfl) ?_
      refine lv_aload_n S.1 S.2.1 d_C_step_43 rfl (lv_at hl 1 rfl) ?_
      refine fk_gf S E G 82 (by decide) (v := .ref (fk_a g 1)) (congrArg (fk_ce g ov 82 (M1 82)) kd_82) rfl 0 (by decide) rfl i_188 rfl d_C_step_44 ?_
      refine fk_gn S E G 1 (by decide) (v := .int (M1 1 1)) (congrArg (fk_ce g ov 1 (M1 1)) kd_1) rfl 1 (by decide) rfl (List.mem_of_getElem? (i := 39) rfl) rfl d_C_step_47 ?_
      rw [hs1.1]
      refine fk_cge (tgt := 75) S.1 S.2.1 (by omega) (by omega) d_C_step_50 rfl (fun hc4 => ?_) (fun hc4 => ?_)
      · have hin : i = n := by omega
        subst hin
        rw [hM1] at G
        exact after2 H locs ls G hl
      · exact absurd hi (by omega)
    | succ d ih =>
      intro i H locs ls hi G hl
      obtain ⟨M1, hM1⟩ : ∃ z : fk_M, z = fk_s2 P sz bb (fk_s1 ck P tn bb M n) i := ⟨_, rfl⟩
      rw [← hM1] at G
      have hs1 : fk_Sh n ck P sz bb M1 := by rw [hM1]; exact (hs.to (fk_s1_Eq h12 ht2 n (Nat.le_refl _)).1).to (fk_s2_Eq hP i (by omega))
      refine lv_iload_n S.1 S.2.1 d_C_step_42 rfl (lv_at hl 0 rfl) ?_
      refine lv_aload_n S.1 S.2.1 d_C_step_43 rfl (lv_at hl 1 rfl) ?_
      refine fk_gf S E G 82 (by decide) (v := .ref (fk_a g 1)) (congrArg (fk_ce g ov 82 (M1 82)) kd_82) rfl 0 (by decide) rfl i_188 rfl d_C_step_44 ?_
      refine fk_gn S E G 1 (by decide) (v := .int (M1 1 1)) (congrArg (fk_ce g ov 1 (M1 1)) kd_1) rfl 1 (by decide) rfl (List.mem_of_getElem? (i := 39) rfl) rfl d_C_step_47 ?_
      rw [hs1.1]
      refine fk_cge (tgt := 75) S.1 S.2.1 (by omega) (by omega) d_C_step_50 rfl (fun hc5 => ?_) (fun hc5 => ?_)
      · exact absurd hi (by omega)
      · obtain ⟨hX, hq, -, -, hsz, h40, hb, hcl, hT, -⟩ := hs1.2.2 i (by omega)
        refine lv_aload_n S.1 S.2.1 d_C_step_53 rfl (lv_at hl 1 rfl) ?_
        refine lv_aload_n S.1 S.2.1 d_C_step_54 rfl (lv_at hl 1 rfl) ?_
        refine fk_gf S E G 82 (by decide) (v := .ref (fk_a g 1)) (congrArg (fk_ce g ov 82 (M1 82)) kd_82) rfl 0 (by decide) rfl i_188 rfl d_C_step_55 ?_
        refine fk_gn S E G 1 (by decide) (v := .ref (fk_a g 2)) (congrArg (fk_ce g ov 1 (M1 1)) kd_1) rfl 0 (by decide) rfl (List.mem_of_getElem? (i := 35) rfl) rfl d_C_step_58 ?_
        refine lv_iload_n S.1 S.2.1 d_C_step_61 rfl (lv_at hl 0 rfl) ?_
        refine fk_rw S E G i rfl (by omega) d_C_step_62 ?_
        refine fk_gn S E G (3 + 6 * i) (by omega) (v := .ref (fk_a g (P i))) (fk_flow (show i < 12 by omega) hq (fk_Xb hX)) rfl 0 (by decide) rfl (List.mem_of_getElem? (i := 13) rfl) rfl d_C_step_63 ?_
        refine fk_cvv S E G 82 (by decide) (congrArg (fk_ce g ov 82 (M1 82)) kd_82) rfl (rest := []) (c_C_remember l g ov M1 (P i) hX (bb i) (sz i) n h40 h12 hsz (fun j hj => (hb j hj).1) hcl hT) m_C_remember i_584 ⟨rfl, rfl⟩ ⟨by decide, by decide⟩ rfl rfl hl.1 (Nat.le_of_ble_eq_true rfl) d_C_step_66 ⟨Nat.zero_le _, Nat.zero_le _⟩ (fun H locs G => ?_)
        refine lv_iinc (k := 0) (v := nI (i + 1)) (lv' := [(1, .int (nI (i + 1))), (0, .ref (fk_a g 82))]) S.1 S.2.1 d_C_step_69 hl rfl (nI_1 i) (by decide) rfl (fun ls hl => ?_)
        refine lv_goto (tgt := 42) S.1 S.2.1 d_C_step_72 rfl ?_
        refine ih (i + 1) H locs ls (by omega) ?_ hl
        rw [hM1] at G
        exact G
  have loop1 : ∀ (d i : Nat) (H : Heap) (locs : List Loc) (ls : Array Slot), i + d = n → fk_H g ov (fk_s1 ck P tn bb M i) s H locs → lv_has ls 2 [(1, .int (nI i)), (0, .ref (fk_a g 82))] → W p l e (fk_rm 27) s m args below meth c H locs 0 0 (MQ below (va_Qv (fun (_ : Unit) => True) (fun _ t => fk_Wd g ov (fk_st n ck P sz tn bb M) t) (fk_A g)) args s 0 0 (fk_A g)) (F0 m 2 ls []) := by
    intro d
    induction d with
    | zero =>
      intro i H locs ls hi G hl
      obtain ⟨M1, hM1⟩ : ∃ z : fk_M, z = fk_s1 ck P tn bb M i := ⟨_, rfl⟩
      rw [← hM1] at G
      obtain ⟨hq1, hq2⟩ := fk_s1_Eq (ck := ck) (P := P) (bb := bb) (M := M) h12 ht2 i (by omega)
      rw [← hM1] at hq1 hq2
      have hs1 := hs.to hq1
      refine lv_iload_n S.1 S.2.1 d_C_step_2 rfl (lv_at hl 0 rfl) ?_
      refine lv_aload_n S.1 S.2.1 d_C_step_3 rfl (lv_at hl 1 rfl) ?_
      refine fk_gf S E G 82 (by decide) (v := .ref (fk_a g 1)) (congrArg (fk_ce g ov 82 (M1 82)) kd_82) rfl 0 (by decide) rfl i_188 rfl d_C_step_4 ?_
      refine fk_gn S E G 1 (by decide) (v := .int (M1 1 1)) (congrArg (fk_ce g ov 1 (M1 1)) kd_1) rfl 1 (by decide) rfl (List.mem_of_getElem? (i := 39) rfl) rfl d_C_step_7 ?_
      rw [hs1.1]
      refine fk_cge (tgt := 40) S.1 S.2.1 (by omega) (by omega) d_C_step_10 rfl (fun hc6 => ?_) (fun hc6 => ?_)
      · have hin : i = n := by omega
        subst hin
        rw [hM1] at G
        refine lv_iconst (v := nI 0) S.1 S.2.1 d_C_step_40 (by decide +kernel) ?_
        refine lv_istore_n (lv' := [(1, .int (nI 0)), (0, .ref (fk_a g 82))]) S.1 S.2.1 d_C_step_41 rfl hl (by decide) rfl (fun ls hl => ?_)
        exact loop2 i 0 H locs ls (by omega) G hl
      · exact absurd hi (by omega)
    | succ d ih =>
      intro i H locs ls hi G hl
      obtain ⟨M1, hM1⟩ : ∃ z : fk_M, z = fk_s1 ck P tn bb M i := ⟨_, rfl⟩
      rw [← hM1] at G
      obtain ⟨hq1, hq2⟩ := fk_s1_Eq (ck := ck) (P := P) (bb := bb) (M := M) h12 ht2 i (by omega)
      rw [← hM1] at hq1 hq2
      have hs1 := hs.to hq1
      refine lv_iload_n S.1 S.2.1 d_C_step_2 rfl (lv_at hl 0 rfl) ?_
      refine lv_aload_n S.1 S.2.1 d_C_step_3 rfl (lv_at hl 1 rfl) ?_
      refine fk_gf S E G 82 (by decide) (v := .ref (fk_a g 1)) (congrArg (fk_ce g ov 82 (M1 82)) kd_82) rfl 0 (by decide) rfl i_188 rfl d_C_step_4 ?_
      refine fk_gn S E G 1 (by decide) (v := .int (M1 1 1)) (congrArg (fk_ce g ov 1 (M1 1)) kd_1) rfl 1 (by decide) rfl (List.mem_of_getElem? (i := 39) rfl) rfl d_C_step_7 ?_
      rw [hs1.1]
      refine fk_cge (tgt := 40) S.1 S.2.1 (by omega) (by omega) d_C_step_10 rfl (fun hc7 => ?_) (fun hc7 => ?_)
      · exact absurd hi (by omega)
      · obtain ⟨ht1, ht3⟩ := ht i (by omega)
        have h2in : M1 (3 + 6 * tn i) 2 = M (3 + 6 * tn i) 2 := hq1.2.1 (tn i) (by omega) 2 (by decide)
        refine lv_aload_n S.1 S.2.1 d_C_step_13 rfl (lv_at hl 1 rfl) ?_
        refine lv_aload_n S.1 S.2.1 d_C_step_14 rfl (lv_at hl 1 rfl) ?_
        refine fk_gf S E G 82 (by decide) (v := .ref (fk_a g 1)) (congrArg (fk_ce g ov 82 (M1 82)) kd_82) rfl 0 (by decide) rfl i_188 rfl d_C_step_15 ?_
        refine fk_gn S E G 1 (by decide) (v := .ref (fk_a g 2)) (congrArg (fk_ce g ov 1 (M1 1)) kd_1) rfl 0 (by decide) rfl (List.mem_of_getElem? (i := 35) rfl) rfl d_C_step_18 ?_
        refine lv_aload_n S.1 S.2.1 d_C_step_21 rfl (lv_at hl 1 rfl) ?_
        refine fk_gf S E G 82 (by decide) (v := .ref (fk_a g 75)) (congrArg (fk_ce g ov 82 (M1 82)) kd_82) rfl 1 (by decide) rfl i_189 rfl d_C_step_22 ?_
        refine fk_gn S E G 75 (by decide) (v := .ref (fk_a g 78)) (congrArg (fk_ce g ov 75 (M1 75)) kd_75) rfl 4 (by decide) rfl (List.mem_of_getElem? (i := 44) rfl) rfl d_C_step_25 ?_
        refine lv_iload_n S.1 S.2.1 d_C_step_28 rfl (lv_at hl 0 rfl) ?_
        refine fk_ia S E G 78 (by decide) (congrArg (fk_ce g ov 78 (M1 78)) kd_78) i rfl (by omega) (by decide) (v := nI (tn i)) (by rw [hq2]; exact ht1) d_C_step_29 ?_
        refine fk_rw S E G (tn i) rfl (by omega) d_C_step_30 ?_
        refine fk_cvv S E G 82 (by decide) (congrArg (fk_ce g ov 82 (M1 82)) kd_82) rfl (rest := []) (c_C_workOut l g ov M1 n ck P sz bb hs1 (tn i) (by omega) (fun h => h0 (tn i) ht3 (by rw [← h2in]; exact h))) m_C_workOut i_549 ⟨rfl, rfl⟩ ⟨by decide, by decide⟩ rfl rfl hl.1 (Nat.le_of_ble_eq_true rfl) d_C_step_31 ⟨Nat.zero_le _, Nat.zero_le _⟩ (fun H locs G => ?_)
        refine lv_iinc (k := 0) (v := nI (i + 1)) (lv' := [(1, .int (nI (i + 1))), (0, .ref (fk_a g 82))]) S.1 S.2.1 d_C_step_34 hl rfl (nI_1 i) (by decide) rfl (fun ls hl => ?_)
        refine lv_goto (tgt := 2) S.1 S.2.1 d_C_step_37 rfl ?_
        refine ih (i + 1) H locs ls (by omega) ?_ hl
        rw [hM1] at G
        exact G
  refine lv_iconst (v := nI 0) S.1 S.2.1 d_C_step_0 (by decide +kernel) ?_
  refine lv_istore_n (lv' := [(1, .int (nI 0)), (0, .ref (fk_a g 82))]) S.1 S.2.1 d_C_step_1 rfl hl (by decide) rfl (fun ls hl => ?_)
  exact loop1 n 0 s.heap [] ls (by omega) G hl
