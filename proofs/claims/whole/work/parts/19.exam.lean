/-! Checker: faultOf, holdsForAll, examine. Written by wip/gen/s_exam.py. -/
/-- the rows of clocks stay rows of clocks -/
def fk_Cl (A : Nat → Int32) : Prop := ∀ i, i < 40 → ∃ q, q < 25 ∧ A i = nI q
theorem fk_Cl_up {A : Nat → Int32} (h : fk_Cl A) (y : Nat) {q : Nat} (hq : q < 25) : fk_Cl (upd A y (nI q)) := by
  intro i hi
  by_cases hy : i = y
  · subst hy
    exact ⟨q, hq, pk_us⟩
  · obtain ⟨z, h1, h2⟩ := h i hi
    exact ⟨z, h1, by rw [pk_un hy]; exact h2⟩
theorem fk_cpt_Cl {ck : Nat → Nat} {k w q z : Nat} (hck : k = 3 ∨ 15 < k → ck w < 25 ∧ w < 12) (hz : z < 25) : ∃ y, y < 25 ∧ fk_cpt ck k w q (nI z) = nI y := by
  by_cases h : k = 3 ∨ 15 < k
  · obtain ⟨h1, h2⟩ := hck h
    unfold fk_cpt
    split
    · exact ⟨_, h1, rfl⟩
    · exact ⟨_, h1, rfl⟩
    · exact ⟨2 * w + if q = 0 then 1 else 2, by split <;> omega, rfl⟩
    · exact ⟨z, hz, rfl⟩
  · unfold fk_cpt
    split
    · exact absurd (Or.inr (by decide)) h
    · exact absurd (Or.inr (by decide)) h
    · exact absurd (Or.inr (by decide)) h
    · exact ⟨z, hz, rfl⟩
theorem fk_wc_Cl {E : Nat → Int32} {ck : Nat → Nat} {k w i : Nat} (hi : i < 40) (hck : k = 3 ∨ 15 < k → ck w < 25 ∧ w < 12) : ∀ d q y A, fk_Cl A → fk_Cl (fk_wc E ck k w i d q y A) := by
  intro d
  induction d with
  | zero => intro q y A h; exact h
  | succ d ih =>
    intro q y A h
    obtain ⟨z, h1, h2⟩ := h i hi
    obtain ⟨z2, h3, h4⟩ := fk_cpt_Cl (q := q) hck h1
    refine ih _ _ _ ?_
    rw [h2, h4]
    exact fk_Cl_up h _ h3
theorem fk_cf_Cl {b : Nat → Nat} {n cnt : Nat} {E : Nat → Int32} {ck : Nat → Nat} (hn : n ≤ 40) (h12 : cnt ≤ 12) (hck : ∀ j, j < 12 → ck j < 25) (hT : fk_T b n cnt E 11 0 n) : ∀ d i A, i + d = n → fk_Cl A → fk_Cl (fk_cf b E ck d i A).2 := by
  intro d
  induction d with
  | zero => intro i A _ h; exact h
  | succ d ih =>
    intro i A hi h
    rw [fk_cf_S]
    by_cases hE : 0 < E i
    · rw [if_neg (fun q => q hE)]
      obtain ⟨r, ee, -, hok, -⟩ := fk_node (by omega) hT (show i < n by omega) hE
      by_cases ho : fk_oc ck (b i) (b (i + 1)) (A i) = A i
      · rw [if_pos ho]
        refine ih _ _ (by omega) (fk_wc_Cl (by omega) (fun h9 => ?_) _ _ _ _ h)
        have := hok.2.2.2 h9
        exact ⟨hck _ (by omega), by omega⟩
      · rw [if_neg ho]
        exact h
    · rw [if_pos hE]
      exact ih _ _ (by omega) h
/-- the rows of an expression's clocks change, no more -/
theorem fk_Sh_clk {n : Nat} {ck P sz : Nat → Nat} {bb : Nat → Nat → Nat} {M : fk_M} (h : fk_Sh n ck P sz bb M) {x : Nat} (hX : fk_X x) {A : Nat → Int32} (hA : fk_Cl A) : fk_Sh n ck P sz bb (va_up M (x + 3) A) := by
  obtain ⟨h1, h2, h3⟩ := h
  refine ⟨by rw [va_up_ne _ _ (by omega)]; exact h1, h2, fun j hj => ?_⟩
  obtain ⟨a1, a2, a3, a4, a5, a6, a7, a8, a9, a10, a11, a12⟩ := h3 j hj
  have e0 : 3 + 6 * j ≠ x + 3 := by rcases hX with h9 | ⟨z, h8, h9⟩ <;> omega
  have e1 : P j ≠ x + 3 := by rcases hX with h9 | ⟨z, h8, h9⟩ <;> rcases a1 with g9 | ⟨y, g8, g9⟩ <;> omega
  have e2 : P j + 1 ≠ x + 3 := by rcases hX with h9 | ⟨z, h8, h9⟩ <;> rcases a1 with g9 | ⟨y, g8, g9⟩ <;> omega
  have e3 : P j + 2 ≠ x + 3 := by rcases hX with h9 | ⟨z, h8, h9⟩ <;> rcases a1 with g9 | ⟨y, g8, g9⟩ <;> omega
  rw [va_up_ne _ _ e0, va_up_ne _ _ e1, va_up_ne _ _ e2, va_up_ne _ _ e3]
  refine ⟨a1, a2, a3, a4, a5, a6, a7, ?_, a9, a10, a11, a12⟩
  by_cases hx : P j + 3 = x + 3
  · rw [hx, va_up_self]
    exact hA
  · rw [va_up_ne _ _ hx]
    exact a8
/-- a rule at a flow: where it fails (-1: nowhere), and what the rows hold behind it -/
def fk_fo (ck P sz : Nat → Nat) (bb : Nat → Nat → Nat) (M : fk_M) (rule j : Nat) : Int32 × fk_M :=
  if rule = 5 then (if fk_wf (M 76 j) j = true then nI 0 else -1, M)
  else if ¬ M (3 + 6 * j) 2 = 0 then (-1, M)
  else match rule with
    | 1 => (if 0 < sz j then -1 else nI 0, M)
    | 2 => (fk_rv (fk_tf M (bb j) (M (P j + 2)) (sz j) 0 (upd (M 80) 0 (nI (fk_ty1 M j)))).1, va_up M 80 (fk_tf M (bb j) (M (P j + 2)) (sz j) 0 (upd (M 80) 0 (nI (fk_ty1 M j)))).2)
    | 3 => (fk_rv (fk_cf (bb j) (M (P j + 2)) ck (sz j) 0 (upd (M (P j + 3)) 0 (nI (ck j)))).1, va_up M (P j + 3) (fk_cf (bb j) (M (P j + 2)) ck (sz j) 0 (upd (M (P j + 3)) 0 (nI (ck j)))).2)
    | _ => (if (fk_bg (bb j) (M (P j + 2)) (sz j) none (M 81)).2 0 = 0 then fk_rv (fk_bg (bb j) (M (P j + 2)) (sz j) none (M 81)).1 else nI 0, va_up M 81 (fk_bg (bb j) (M (P j + 2)) (sz j) none (M 81)).2)
theorem fk_fo_Sh {n : Nat} {ck P sz : Nat → Nat} {bb : Nat → Nat → Nat} {M : fk_M} (h : fk_Sh n ck P sz bb M) {rule j : Nat} (hj : j < 12) (hp : 2 ≤ rule → M (3 + 6 * j) 2 = 0 → 0 < sz j) : fk_Sh n ck P sz bb (fk_fo ck P sz bb M rule j).2 := by
  obtain ⟨hX, hq, hck, h25, hsz, h40, hb, hcl, hT, -⟩ := h.2.2 j hj
  unfold fk_fo
  by_cases h5 : rule = 5
  · rw [if_pos h5]
    exact h
  · rw [if_neg h5]
    by_cases hin : M (3 + 6 * j) 2 = 0
    · rw [if_neg (fun q => q hin)]
      split
      · exact h
      · exact h.to (fk_Eq_k (by omega) _)
      · refine fk_Sh_clk h hX ?_
        exact fk_cf_Cl h40 h.2.1 (fun i hi => (h.2.2 i hi).2.2.2.1) (hT (hp (by decide) hin)) _ _ _ (by omega) (fk_Cl_up hcl _ h25)
      · exact h.to (fk_Eq_k (by omega) _)
    · rw [if_pos hin]
      exact h
/-- what a rule's rows don't touch: the masks, the answer of the check, the counts .. -/
theorem fk_fo_ne {n : Nat} {ck P sz : Nat → Nat} {bb : Nat → Nat → Nat} {M : fk_M} (h : fk_Sh n ck P sz bb M) {rule j k : Nat} (hj : j < 12) (hk : k ≠ 80 ∧ k ≠ 81 ∧ k ≠ P j + 3) : (fk_fo ck P sz bb M rule j).2 k = M k := by
  unfold fk_fo
  by_cases h5 : rule = 5
  · rw [if_pos h5]
  · rw [if_neg h5]
    by_cases hin : M (3 + 6 * j) 2 = 0
    · rw [if_neg (fun q => q hin)]
      split
      · rfl
      · exact va_up_ne _ _ hk.1
      · exact va_up_ne _ _ hk.2.2
      · exact va_up_ne _ _ hk.2.1
    · rw [if_pos hin]
def fk_hf (ck P sz : Nat → Nat) (bb : Nat → Nat → Nat) (rule : Nat) : Nat → Nat → fk_M → Bool × fk_M
  | 0, _, M => (true, M)
  | d + 1, j, M => if (fk_fo ck P sz bb M rule j).1 = -1 then fk_hf ck P sz bb rule d (j + 1) (fk_fo ck P sz bb M rule j).2 else (false, va_up (fk_fo ck P sz bb M rule j).2 79 (upd (upd ((fk_fo ck P sz bb M rule j).2 79) 5 (nI j)) 6 (fk_fo ck P sz bb M rule j).1))
theorem fk_hf_S (ck P sz : Nat → Nat) (bb : Nat → Nat → Nat) (rule d j : Nat) (M : fk_M) : fk_hf ck P sz bb rule (d + 1) j M = if (fk_fo ck P sz bb M rule j).1 = -1 then fk_hf ck P sz bb rule d (j + 1) (fk_fo ck P sz bb M rule j).2 else (false, va_up (fk_fo ck P sz bb M rule j).2 79 (upd (upd ((fk_fo ck P sz bb M rule j).2 79) 5 (nI j)) 6 (fk_fo ck P sz bb M rule j).1)) := rfl
theorem d_K_faultOf_0 : decode b_K_faultOf 0 = .ok (.aload_n 0, 1) := by decide +kernel
theorem d_K_faultOf_1 : decode b_K_faultOf 1 = .ok (.getfield 26, 3) := by decide +kernel
theorem d_K_faultOf_4 : decode b_K_faultOf 4 = .ok (.getfield 62, 3) := by decide +kernel
theorem d_K_faultOf_7 : decode b_K_faultOf 7 = .ok (.iload_n 2, 1) := by decide +kernel
theorem d_K_faultOf_8 : decode b_K_faultOf 8 = .ok (.aaload, 1) := by decide +kernel
theorem d_K_faultOf_9 : decode b_K_faultOf 9 = .ok (.astore_n 3, 1) := by decide +kernel
theorem d_K_faultOf_10 : decode b_K_faultOf 10 = .ok (.iload_n 1, 1) := by decide +kernel
theorem d_K_faultOf_11 : decode b_K_faultOf 11 = .ok (.iconst 5, 1) := by decide +kernel
theorem d_K_faultOf_12 : decode b_K_faultOf 12 = .ok (.if_icmp .ne 21, 3) := by decide +kernel
theorem d_K_faultOf_15 : decode b_K_faultOf 15 = .ok (.aload_n 0, 1) := by decide +kernel
theorem d_K_faultOf_16 : decode b_K_faultOf 16 = .ok (.getfield 30, 3) := by decide +kernel
theorem d_K_faultOf_19 : decode b_K_faultOf 19 = .ok (.iload_n 2, 1) := by decide +kernel
theorem d_K_faultOf_20 : decode b_K_faultOf 20 = .ok (.iload_n 2, 1) := by decide +kernel
theorem d_K_faultOf_21 : decode b_K_faultOf 21 = .ok (.invokevirtual 66, 3) := by decide +kernel
theorem d_K_faultOf_24 : decode b_K_faultOf 24 = .ok (.ifCond .eq 7, 3) := by decide +kernel
theorem d_K_faultOf_27 : decode b_K_faultOf 27 = .ok (.iconst 0, 1) := by decide +kernel
theorem d_K_faultOf_28 : decode b_K_faultOf 28 = .ok (.goto 4, 3) := by decide +kernel
theorem d_K_faultOf_31 : decode b_K_faultOf 31 = .ok (.iconst (-1), 1) := by decide +kernel
theorem d_K_faultOf_32 : decode b_K_faultOf 32 = .ok (.ireturn, 1) := by decide +kernel
theorem d_K_faultOf_33 : decode b_K_faultOf 33 = .ok (.aload_n 3, 1) := by decide +kernel
theorem d_K_faultOf_34 : decode b_K_faultOf 34 = .ok (.getfield 70, 3) := by decide +kernel
theorem d_K_faultOf_37 : decode b_K_faultOf 37 = .ok (.ifCond .eq 5, 3) := by decide +kernel
theorem d_K_faultOf_40 : decode b_K_faultOf 40 = .ok (.iconst (-1), 1) := by decide +kernel
theorem d_K_faultOf_41 : decode b_K_faultOf 41 = .ok (.ireturn, 1) := by decide +kernel
theorem d_K_faultOf_42 : decode b_K_faultOf 42 = .ok (.iload_n 1, 1) := by decide +kernel
theorem d_K_faultOf_43 : decode b_K_faultOf 43 = .ok (.tableswitch 81 1 4 #[29, 42, 59, 72], 29) := by decide +kernel
theorem d_K_faultOf_72 : decode b_K_faultOf 72 = .ok (.aload_n 3, 1) := by decide +kernel
theorem d_K_faultOf_73 : decode b_K_faultOf 73 = .ok (.invokevirtual 75, 3) := by decide +kernel
theorem d_K_faultOf_76 : decode b_K_faultOf 76 = .ok (.ifCond .eq 7, 3) := by decide +kernel
theorem d_K_faultOf_79 : decode b_K_faultOf 79 = .ok (.iconst (-1), 1) := by decide +kernel
theorem d_K_faultOf_80 : decode b_K_faultOf 80 = .ok (.goto 4, 3) := by decide +kernel
theorem d_K_faultOf_83 : decode b_K_faultOf 83 = .ok (.iconst 0, 1) := by decide +kernel
theorem d_K_faultOf_84 : decode b_K_faultOf 84 = .ok (.ireturn, 1) := by decide +kernel
theorem d_K_faultOf_85 : decode b_K_faultOf 85 = .ok (.aload_n 0, 1) := by decide +kernel
theorem d_K_faultOf_86 : decode b_K_faultOf 86 = .ok (.aload_n 3, 1) := by decide +kernel
theorem d_K_faultOf_87 : decode b_K_faultOf 87 = .ok (.getfield 79, 3) := by decide +kernel
theorem d_K_faultOf_90 : decode b_K_faultOf 90 = .ok (.aload_n 0, 1) := by decide +kernel
theorem d_K_faultOf_91 : decode b_K_faultOf 91 = .ok (.getfield 26, 3) := by decide +kernel
theorem d_K_faultOf_94 : decode b_K_faultOf 94 = .ok (.iload_n 2, 1) := by decide +kernel
theorem d_K_faultOf_95 : decode b_K_faultOf 95 = .ok (.invokevirtual 83, 3) := by decide +kernel
theorem d_K_faultOf_98 : decode b_K_faultOf 98 = .ok (.invokevirtual 87, 3) := by decide +kernel
theorem d_K_faultOf_101 : decode b_K_faultOf 101 = .ok (.ireturn, 1) := by decide +kernel
theorem d_K_faultOf_102 : decode b_K_faultOf 102 = .ok (.aload_n 0, 1) := by decide +kernel
theorem d_K_faultOf_103 : decode b_K_faultOf 103 = .ok (.aload_n 3, 1) := by decide +kernel
theorem d_K_faultOf_104 : decode b_K_faultOf 104 = .ok (.getfield 79, 3) := by decide +kernel
theorem d_K_faultOf_107 : decode b_K_faultOf 107 = .ok (.aload_n 3, 1) := by decide +kernel
theorem d_K_faultOf_108 : decode b_K_faultOf 108 = .ok (.getfield 91, 3) := by decide +kernel
theorem d_K_faultOf_111 : decode b_K_faultOf 111 = .ok (.invokevirtual 94, 3) := by decide +kernel
theorem d_K_faultOf_114 : decode b_K_faultOf 114 = .ok (.ireturn, 1) := by decide +kernel
theorem d_K_faultOf_115 : decode b_K_faultOf 115 = .ok (.aload_n 0, 1) := by decide +kernel
theorem d_K_faultOf_116 : decode b_K_faultOf 116 = .ok (.aload_n 3, 1) := by decide +kernel
theorem d_K_faultOf_117 : decode b_K_faultOf 117 = .ok (.getfield 79, 3) := by decide +kernel
theorem d_K_faultOf_120 : decode b_K_faultOf 120 = .ok (.invokevirtual 97, 3) := by decide +kernel
theorem d_K_faultOf_123 : decode b_K_faultOf 123 = .ok (.ireturn, 1) := by decide +kernel
theorem d_K_faultOf_124 : decode b_K_faultOf 124 = .ok (.iconst (-1), 1) := by decide +kernel
theorem d_K_faultOf_125 : decode b_K_faultOf 125 = .ok (.ireturn, 1) := by decide +kernel
theorem m_K_faultOf : fk_MI y_K_faultOf b_K_faultOf 4 (some .int) 2 := ⟨i_272, i_271, fk_mp (q := (y_K_faultOf, 7)) (by decide +kernel), i_6, by decide +kernel⟩
set_option maxHeartbeats 4000000 in
set_option maxRecDepth 100000 in
theorem c_K_faultOf (l : Launch) (g : fk_G) (ov : Int64) (M : fk_M) (n : Nat) (ck P sz : Nat → Nat) (bb : Nat → Nat → Nat) (hs : fk_Sh n ck P sz bb M) (rule j : Nat) (hr1 : 1 ≤ rule) (hr5 : rule ≤ 5) (hj : j < 12) (hp : 2 ≤ rule → M (3 + 6 * j) 2 = 0 → 0 < sz j) : fk_CI l y_K_faultOf b_K_faultOf 4 (some .int) (fk_rm 4) g ov M ((fk_fo ck P sz bb M rule j).2) [.ref (fk_a g 79), .int (nI rule), .int (nI j)] ((fk_fo ck P sz bb M rule j).1) := by
  refine fk_ofI rfl (Nat.le_of_ble_eq_true rfl) ?_
  intro p e s m args below meth c ls S hr hlk E G hl
  have hl : lv_has ls 4 [(0, .ref (fk_a g 79)), (1, .int (nI rule)), (2, .int (nI j))] := hl
  obtain ⟨hX, hq, hck, h25, hsz, h40, hb, hcl, hT, -⟩ := hs.2.2 j hj
  have h12 := hs.2.1
  have hckA : ∀ i, i < 12 → M (3 + 6 * i) 3 = nI (ck i) := fun i hi => (hs.2.2 i hi).2.2.1
  refine lv_aload_n S.1 S.2.1 d_K_faultOf_0 rfl (lv_at hl 0 rfl) ?_
  refine fk_gf S E G 79 (by decide) (v := .ref (fk_a g 1)) (congrArg (fk_ce g ov 79 (M 79)) kd_79) rfl 0 (by decide) rfl i_156 rfl d_K_faultOf_1 ?_
  refine fk_gn S E G 1 (by decide) (v := .ref (fk_a g 2)) (congrArg (fk_ce g ov 1 (M 1)) kd_1) rfl 0 (by decide) rfl (List.mem_of_getElem? (i := 37) rfl) rfl d_K_faultOf_4 ?_
  refine lv_iload_n S.1 S.2.1 d_K_faultOf_7 rfl (lv_at hl 2 rfl) ?_
  refine fk_rw S E G j rfl (by omega) d_K_faultOf_8 ?_
  refine lv_astore_n (lv' := [(3, .ref (fk_a g (3 + 6 * j))), (0, .ref (fk_a g 79)), (1, .int (nI rule)), (2, .int (nI j))]) S.1 S.2.1 d_K_faultOf_9 rfl hl (by decide) rfl (fun ls hl => ?_)
  refine lv_iload_n S.1 S.2.1 d_K_faultOf_10 rfl (lv_at hl 2 rfl) ?_
  refine lv_iconst (v := nI 5) S.1 S.2.1 d_K_faultOf_11 (by decide +kernel) ?_
  refine fk_cne (tgt := 33) S.1 S.2.1 (by omega) (by omega) d_K_faultOf_12 rfl (fun hc1 => ?_) (fun hc1 => ?_)
  · refine lv_aload_n S.1 S.2.1 d_K_faultOf_33 rfl (lv_at hl 0 rfl) ?_
    refine fk_gn S E G (3 + 6 * j) (by omega) (v := .int (M (3 + 6 * j) 2)) (congrArg (fk_ce g ov (3 + 6 * j) (M (3 + 6 * j))) (fk_kf hj)) rfl 2 (by decide) rfl (List.mem_of_getElem? (i := 22) rfl) rfl d_K_faultOf_34 ?_
    refine lv_if_eq (tgt := 42) S.1 S.2.1 d_K_faultOf_37 rfl (fun hc2 => ?_) (fun hc2 => ?_)
    · rcases (show rule = 1 ∨ rule = 2 ∨ rule = 3 ∨ rule = 4 by omega) with hk | hk | hk | hk
      · subst hk
        have hfo : fk_fo ck P sz bb M 1 j = _ := (if_neg hc1).trans (if_neg (fun q => q hc2))
        refine lv_iload_n S.1 S.2.1 d_K_faultOf_42 rfl (lv_at hl 2 rfl) ?_
        refine lv_tableIn (off := 29) (tgt := 72) S.1 S.2.1 d_K_faultOf_43 (by decide +kernel) (by decide +kernel) (by decide +kernel) rfl ?_
        refine lv_aload_n S.1 S.2.1 d_K_faultOf_72 rfl (lv_at hl 0 rfl) ?_
        refine fk_cni S E G (3 + 6 * j) (by omega) (congrArg (fk_ce g ov (3 + 6 * j) (M (3 + 6 * j))) (fk_kf hj)) rfl (rest := []) (c_F_hasEquation l g ov M j (P j) hj hq hX) m_F_hasEquation (List.mem_of_getElem? (i := 15) rfl) ⟨rfl, rfl⟩ ⟨by decide, by decide⟩ rfl rfl hl.1 (Nat.le_of_ble_eq_true rfl) d_K_faultOf_73 ⟨Nat.zero_le _, Nat.zero_le _⟩ (fun H locs G => ?_)
        refine fk_zeq (tgt := 83) S.1 S.2.1 (fk_bl _) d_K_faultOf_76 rfl (fun hc3 => ?_) (fun hc3 => ?_)
        · have hz := of_decide_eq_false (fk_bf hc3)
          rw [hsz] at hz
          refine lv_iconst (v := nI 0) S.1 S.2.1 d_K_faultOf_83 (by decide +kernel) ?_
          exact fk_iret S hr hlk E G (by rw [hfo]; rfl) (by rw [hfo]; show _ = (if 0 < sz j then (-1 : Int32) else nI 0); rw [if_neg (fun h9 => hz (fk_pos h9 (by omega)))]) d_K_faultOf_84
        · have hz := of_decide_eq_true (fk_bt hc3)
          rw [hsz] at hz
          refine lv_iconst (v := -1) S.1 S.2.1 d_K_faultOf_79 (by decide +kernel) ?_
          refine lv_goto (tgt := 84) S.1 S.2.1 d_K_faultOf_80 rfl ?_
          exact fk_iret S hr hlk E G (by rw [hfo]; rfl) (by rw [hfo]; show _ = (if 0 < sz j then (-1 : Int32) else nI 0); rw [if_pos (by by_cases h9 : 0 < sz j; exact h9; rw [show sz j = 0 by omega, nI_0] at hz; exact absurd hz fk_irr)]) d_K_faultOf_84
      · subst hk
        have hfo : fk_fo ck P sz bb M 2 j = _ := (if_neg hc1).trans (if_neg (fun q => q hc2))
        refine lv_iload_n S.1 S.2.1 d_K_faultOf_42 rfl (lv_at hl 2 rfl) ?_
        refine lv_tableIn (off := 42) (tgt := 85) S.1 S.2.1 d_K_faultOf_43 (by decide +kernel) (by decide +kernel) (by decide +kernel) rfl ?_
        have hpos := hp (by decide) hc2
        refine lv_aload_n S.1 S.2.1 d_K_faultOf_85 rfl (lv_at hl 1 rfl) ?_
        refine lv_aload_n S.1 S.2.1 d_K_faultOf_86 rfl (lv_at hl 0 rfl) ?_
        refine fk_gn S E G (3 + 6 * j) (by omega) (v := .ref (fk_a g (P j))) (fk_flow hj hq (fk_Xb hX)) rfl 0 (by decide) rfl (List.mem_of_getElem? (i := 16) rfl) rfl d_K_faultOf_87 ?_
        refine lv_aload_n S.1 S.2.1 d_K_faultOf_90 rfl (lv_at hl 1 rfl) ?_
        refine fk_gf S E G 79 (by decide) (v := .ref (fk_a g 1)) (congrArg (fk_ce g ov 79 (M 79)) kd_79) rfl 0 (by decide) rfl i_156 rfl d_K_faultOf_91 ?_
        refine lv_iload_n S.1 S.2.1 d_K_faultOf_94 rfl (lv_at hl 3 rfl) ?_
        refine fk_cni S E G 1 (by decide) (congrArg (fk_ce g ov 1 (M 1)) kd_1) rfl (rest := [.ref (fk_a g (P j)), .ref (fk_a g 79)]) (c_N_typeOf l g ov M j hj) m_N_typeOf (List.mem_of_getElem? (i := 16) rfl) ⟨rfl, rfl⟩ ⟨by decide, by decide⟩ rfl rfl hl.1 (Nat.le_of_ble_eq_true rfl) d_K_faultOf_95 ⟨Nat.zero_le _, Nat.zero_le _⟩ (fun H locs G => ?_)
        refine fk_cvi S E G 79 (by decide) (congrArg (fk_ce g ov 79 (M 79)) kd_79) rfl (rest := []) (c_K_typeFault l g ov M (P j) hX (bb j) (sz j) n h40 h12 (fun i hi => (hb i hi).1) hsz (hT hpos) (fk_ty1 M j)) m_K_typeFault i_282 ⟨rfl, rfl⟩ ⟨by decide, by decide⟩ rfl rfl hl.1 (Nat.le_of_ble_eq_true rfl) d_K_faultOf_98 ⟨Nat.zero_le _, Nat.zero_le _⟩ (fun H locs G => ?_)
        exact fk_iret S hr hlk E G (by rw [hfo]; rfl) (by rw [hfo]; rfl) d_K_faultOf_101
      · subst hk
        have hfo : fk_fo ck P sz bb M 3 j = _ := (if_neg hc1).trans (if_neg (fun q => q hc2))
        refine lv_iload_n S.1 S.2.1 d_K_faultOf_42 rfl (lv_at hl 2 rfl) ?_
        refine lv_tableIn (off := 59) (tgt := 102) S.1 S.2.1 d_K_faultOf_43 (by decide +kernel) (by decide +kernel) (by decide +kernel) rfl ?_
        have hpos := hp (by decide) hc2
        refine lv_aload_n S.1 S.2.1 d_K_faultOf_102 rfl (lv_at hl 1 rfl) ?_
        refine lv_aload_n S.1 S.2.1 d_K_faultOf_103 rfl (lv_at hl 0 rfl) ?_
        refine fk_gn S E G (3 + 6 * j) (by omega) (v := .ref (fk_a g (P j))) (fk_flow hj hq (fk_Xb hX)) rfl 0 (by decide) rfl (List.mem_of_getElem? (i := 16) rfl) rfl d_K_faultOf_104 ?_
        refine lv_aload_n S.1 S.2.1 d_K_faultOf_107 rfl (lv_at hl 0 rfl) ?_
        refine fk_gn S E G (3 + 6 * j) (by omega) (v := .int (M (3 + 6 * j) 3)) (congrArg (fk_ce g ov (3 + 6 * j) (M (3 + 6 * j))) (fk_kf hj)) rfl 3 (by decide) rfl (List.mem_of_getElem? (i := 27) rfl) rfl d_K_faultOf_108 ?_
        rw [hck]
        refine fk_cvi S E G 79 (by decide) (congrArg (fk_ce g ov 79 (M 79)) kd_79) rfl (rest := []) (c_K_clockFault l g ov M (P j) hX (bb j) (sz j) n h40 h12 (fun i hi => (hb i hi).1) hsz (hT hpos) ck hckA (ck j)) m_K_clockFault i_309 ⟨rfl, rfl⟩ ⟨by decide, by decide⟩ rfl rfl hl.1 (Nat.le_of_ble_eq_true rfl) d_K_faultOf_111 ⟨Nat.zero_le _, Nat.zero_le _⟩ (fun H locs G => ?_)
        exact fk_iret S hr hlk E G (by rw [hfo]; rfl) (by rw [hfo]; rfl) d_K_faultOf_114
      · subst hk
        have hfo : fk_fo ck P sz bb M 4 j = _ := (if_neg hc1).trans (if_neg (fun q => q hc2))
        refine lv_iload_n S.1 S.2.1 d_K_faultOf_42 rfl (lv_at hl 2 rfl) ?_
        refine lv_tableIn (off := 72) (tgt := 115) S.1 S.2.1 d_K_faultOf_43 (by decide +kernel) (by decide +kernel) (by decide +kernel) rfl ?_
        have hpos := hp (by decide) hc2
        refine lv_aload_n S.1 S.2.1 d_K_faultOf_115 rfl (lv_at hl 1 rfl) ?_
        refine lv_aload_n S.1 S.2.1 d_K_faultOf_116 rfl (lv_at hl 0 rfl) ?_
        refine fk_gn S E G (3 + 6 * j) (by omega) (v := .ref (fk_a g (P j))) (fk_flow hj hq (fk_Xb hX)) rfl 0 (by decide) rfl (List.mem_of_getElem? (i := 16) rfl) rfl d_K_faultOf_117 ?_
        refine fk_cvi S E G 79 (by decide) (congrArg (fk_ce g ov 79 (M 79)) kd_79) rfl (rest := []) (c_K_beginningFault l g ov M (P j) hX (bb j) (sz j) n h40 h12 (fun i hi => (hb i hi).1) hsz (hT hpos) hpos) m_K_beginningFault i_328 ⟨rfl, rfl⟩ ⟨by decide, by decide⟩ rfl rfl hl.1 (Nat.le_of_ble_eq_true rfl) d_K_faultOf_120 ⟨Nat.zero_le _, Nat.zero_le _⟩ (fun H locs G => ?_)
        exact fk_iret S hr hlk E G (by rw [hfo]; rfl) (by rw [hfo]; rfl) d_K_faultOf_123
    · have hfo : fk_fo ck P sz bb M rule j = (-1, M) := (if_neg hc1).trans (if_pos hc2)
      refine lv_iconst (v := -1) S.1 S.2.1 d_K_faultOf_40 (by decide +kernel) ?_
      exact fk_iret S hr hlk E G (by rw [hfo]) (by rw [hfo]) d_K_faultOf_41
  · have hfo : fk_fo ck P sz bb M rule j = (if fk_wf (M 76 j) j = true then nI 0 else -1, M) := if_pos hc1
    refine lv_aload_n S.1 S.2.1 d_K_faultOf_15 rfl (lv_at hl 1 rfl) ?_
    refine fk_gf S E G 79 (by decide) (v := .ref (fk_a g 75)) (congrArg (fk_ce g ov 79 (M 79)) kd_79) rfl 1 (by decide) rfl i_157 rfl d_K_faultOf_16 ?_
    refine lv_iload_n S.1 S.2.1 d_K_faultOf_19 rfl (lv_at hl 3 rfl) ?_
    refine lv_iload_n S.1 S.2.1 d_K_faultOf_20 rfl (lv_at hl 3 rfl) ?_
    refine fk_cni S E G 75 (by decide) (congrArg (fk_ce g ov 75 (M 75)) kd_75) rfl (rest := []) (c_W_waitsFor l g ov M j j hj) m_W_waitsFor (List.mem_of_getElem? (i := 14) rfl) ⟨rfl, rfl⟩ ⟨by decide, by decide⟩ rfl rfl hl.1 (Nat.le_of_ble_eq_true rfl) d_K_faultOf_21 ⟨Nat.zero_le _, Nat.zero_le _⟩ (fun H locs G => ?_)
    refine fk_zeq (tgt := 31) S.1 S.2.1 (fk_bl _) d_K_faultOf_24 rfl (fun hc4 => ?_) (fun hc4 => ?_)
    · have hz := fk_bf hc4
      refine lv_iconst (v := -1) S.1 S.2.1 d_K_faultOf_31 (by decide +kernel) ?_
      exact fk_iret S hr hlk E G (by rw [hfo]) (by rw [hfo]; show _ = (if fk_wf (M 76 j) j = true then nI 0 else (-1 : Int32)); rw [if_neg (by rw [hz]; decide)]) d_K_faultOf_32
    · have hz := fk_bt hc4
      refine lv_iconst (v := nI 0) S.1 S.2.1 d_K_faultOf_27 (by decide +kernel) ?_
      refine lv_goto (tgt := 32) S.1 S.2.1 d_K_faultOf_28 rfl ?_
      exact fk_iret S hr hlk E G (by rw [hfo]) (by rw [hfo]; show _ = (if fk_wf (M 76 j) j = true then nI 0 else (-1 : Int32)); rw [if_pos hz]) d_K_faultOf_32
theorem d_K_holdsForAll_0 : decode b_K_holdsForAll 0 = .ok (.iconst 0, 1) := by decide +kernel
theorem d_K_holdsForAll_1 : decode b_K_holdsForAll 1 = .ok (.istore_n 2, 1) := by decide +kernel
theorem d_K_holdsForAll_2 : decode b_K_holdsForAll 2 = .ok (.iload_n 2, 1) := by decide +kernel
theorem d_K_holdsForAll_3 : decode b_K_holdsForAll 3 = .ok (.aload_n 0, 1) := by decide +kernel
theorem d_K_holdsForAll_4 : decode b_K_holdsForAll 4 = .ok (.getfield 26, 3) := by decide +kernel
theorem d_K_holdsForAll_7 : decode b_K_holdsForAll 7 = .ok (.getfield 53, 3) := by decide +kernel
theorem d_K_holdsForAll_10 : decode b_K_holdsForAll 10 = .ok (.if_icmp .ge 33, 3) := by decide +kernel
theorem d_K_holdsForAll_13 : decode b_K_holdsForAll 13 = .ok (.aload_n 0, 1) := by decide +kernel
theorem d_K_holdsForAll_14 : decode b_K_holdsForAll 14 = .ok (.iload_n 1, 1) := by decide +kernel
theorem d_K_holdsForAll_15 : decode b_K_holdsForAll 15 = .ok (.iload_n 2, 1) := by decide +kernel
theorem d_K_holdsForAll_16 : decode b_K_holdsForAll 16 = .ok (.invokevirtual 58, 3) := by decide +kernel
theorem d_K_holdsForAll_19 : decode b_K_holdsForAll 19 = .ok (.istore_n 3, 1) := by decide +kernel
theorem d_K_holdsForAll_20 : decode b_K_holdsForAll 20 = .ok (.iload_n 3, 1) := by decide +kernel
theorem d_K_holdsForAll_21 : decode b_K_holdsForAll 21 = .ok (.iconst (-1), 1) := by decide +kernel
theorem d_K_holdsForAll_22 : decode b_K_holdsForAll 22 = .ok (.if_icmp .eq 15, 3) := by decide +kernel
theorem d_K_holdsForAll_25 : decode b_K_holdsForAll 25 = .ok (.aload_n 0, 1) := by decide +kernel
theorem d_K_holdsForAll_26 : decode b_K_holdsForAll 26 = .ok (.iload_n 2, 1) := by decide +kernel
theorem d_K_holdsForAll_27 : decode b_K_holdsForAll 27 = .ok (.putfield 19, 3) := by decide +kernel
theorem d_K_holdsForAll_30 : decode b_K_holdsForAll 30 = .ok (.aload_n 0, 1) := by decide +kernel
theorem d_K_holdsForAll_31 : decode b_K_holdsForAll 31 = .ok (.iload_n 3, 1) := by decide +kernel
theorem d_K_holdsForAll_32 : decode b_K_holdsForAll 32 = .ok (.putfield 23, 3) := by decide +kernel
theorem d_K_holdsForAll_35 : decode b_K_holdsForAll 35 = .ok (.iconst 0, 1) := by decide +kernel
theorem d_K_holdsForAll_36 : decode b_K_holdsForAll 36 = .ok (.ireturn, 1) := by decide +kernel
theorem d_K_holdsForAll_37 : decode b_K_holdsForAll 37 = .ok (.iinc 2 1, 3) := by decide +kernel
theorem d_K_holdsForAll_40 : decode b_K_holdsForAll 40 = .ok (.goto (-38), 3) := by decide +kernel
theorem d_K_holdsForAll_43 : decode b_K_holdsForAll 43 = .ok (.iconst 1, 1) := by decide +kernel
theorem d_K_holdsForAll_44 : decode b_K_holdsForAll 44 = .ok (.ireturn, 1) := by decide +kernel
theorem m_K_holdsForAll : fk_MI y_K_holdsForAll b_K_holdsForAll 4 (some .boolean) 1 := ⟨i_268, i_267, fk_mp (q := (y_K_holdsForAll, 7)) (by decide +kernel), i_6, by decide +kernel⟩
set_option maxHeartbeats 4000000 in
set_option maxRecDepth 100000 in
theorem c_K_holdsForAll (l : Launch) (g : fk_G) (ov : Int64) (M : fk_M) (n : Nat) (ck P sz : Nat → Nat) (bb : Nat → Nat → Nat) (hs : fk_Sh n ck P sz bb M) (rule : Nat) (hr1 : 1 ≤ rule) (hr5 : rule ≤ 5) (hp : 2 ≤ rule → ∀ j, j < n → M (3 + 6 * j) 2 = 0 → 0 < sz j) : fk_CI l y_K_holdsForAll b_K_holdsForAll 4 (some .boolean) (fk_rm 5) g ov M ((fk_hf ck P sz bb rule n 0 M).2) [.ref (fk_a g 79), .int (nI rule)] (nI (fk_hf ck P sz bb rule n 0 M).1.toNat) := by
  refine fk_ofI rfl (Nat.le_of_ble_eq_true rfl) ?_
  intro p e s m args below meth c ls S hr hlk E G hl
  have hl : lv_has ls 4 [(0, .ref (fk_a g 79)), (1, .int (nI rule))] := hl
  refine lv_iconst (v := nI 0) S.1 S.2.1 d_K_holdsForAll_0 (by decide +kernel) ?_
  refine lv_istore_n (lv' := [(2, .int (nI 0)), (0, .ref (fk_a g 79)), (1, .int (nI rule))]) S.1 S.2.1 d_K_holdsForAll_1 rfl hl (by decide) rfl (fun ls hl => ?_)
  have loop : ∀ (d : Nat) (j : Nat) (Mc : fk_M) (H : Heap) (locs : List Loc) (ls : Array Slot), j + d = n → fk_Sh n ck P sz bb Mc → (2 ≤ rule → ∀ i, i < n → Mc (3 + 6 * i) 2 = 0 → 0 < sz i) → fk_hf ck P sz bb rule d j Mc = fk_hf ck P sz bb rule n 0 M → fk_H g ov (Mc) s H locs → lv_has ls 4 [(2, .int (nI j)), (0, .ref (fk_a g 79)), (1, .int (nI rule))] → W p l e (fk_rm (5)) s m args below meth c H locs 0 0 (MQ below (va_Qi (fun rr (_ : Unit) => rr = nI (fk_hf ck P sz bb rule n 0 M).1.toNat) (fun _ t9 => fk_Wd g ov ((fk_hf ck P sz bb rule n 0 M).2) t9) (fk_A g)) args s 0 0 (fk_A g)) (F0 m 2 ls []) := by
    intro d
    induction d with
    | zero =>
      intro j Mc H locs ls hv0 hv1 hv2 hv3 G hl
      have h12 := hv1.2.1
      refine lv_iload_n S.1 S.2.1 d_K_holdsForAll_2 rfl (lv_at hl 0 rfl) ?_
      refine lv_aload_n S.1 S.2.1 d_K_holdsForAll_3 rfl (lv_at hl 1 rfl) ?_
      refine fk_gf S E G 79 (by decide) (v := .ref (fk_a g 1)) (congrArg (fk_ce g ov 79 (Mc 79)) kd_79) rfl 0 (by decide) rfl i_156 rfl d_K_holdsForAll_4 ?_
      refine fk_gn S E G 1 (by decide) (v := .int (Mc 1 1)) (congrArg (fk_ce g ov 1 (Mc 1)) kd_1) rfl 1 (by decide) rfl (List.mem_of_getElem? (i := 41) rfl) rfl d_K_holdsForAll_7 ?_
      rw [hv1.1]
      refine fk_cge (tgt := 43) S.1 S.2.1 (by omega) (by omega) d_K_holdsForAll_10 rfl (fun hc1 => ?_) (fun hc1 => ?_)
      · refine lv_iconst (v := nI 1) S.1 S.2.1 d_K_holdsForAll_43 (by decide +kernel) ?_
        exact fk_zret S hr hlk E G (by rw [← hv3]; rfl) (by rw [← hv3]; rfl) (fk_bz _) d_K_holdsForAll_44
      · exact absurd hv0 (by omega)
    | succ d ih =>
      intro j Mc H locs ls hv0 hv1 hv2 hv3 G hl
      have h12 := hv1.2.1
      refine lv_iload_n S.1 S.2.1 d_K_holdsForAll_2 rfl (lv_at hl 0 rfl) ?_
      refine lv_aload_n S.1 S.2.1 d_K_holdsForAll_3 rfl (lv_at hl 1 rfl) ?_
      refine fk_gf S E G 79 (by decide) (v := .ref (fk_a g 1)) (congrArg (fk_ce g ov 79 (Mc 79)) kd_79) rfl 0 (by decide) rfl i_156 rfl d_K_holdsForAll_4 ?_
      refine fk_gn S E G 1 (by decide) (v := .int (Mc 1 1)) (congrArg (fk_ce g ov 1 (Mc 1)) kd_1) rfl 1 (by decide) rfl (List.mem_of_getElem? (i := 41) rfl) rfl d_K_holdsForAll_7 ?_
      rw [hv1.1]
      refine fk_cge (tgt := 43) S.1 S.2.1 (by omega) (by omega) d_K_holdsForAll_10 rfl (fun hc2 => ?_) (fun hc2 => ?_)
      · exact absurd hv0 (by omega)
      · refine lv_aload_n S.1 S.2.1 d_K_holdsForAll_13 rfl (lv_at hl 1 rfl) ?_
        refine lv_iload_n S.1 S.2.1 d_K_holdsForAll_14 rfl (lv_at hl 2 rfl) ?_
        refine lv_iload_n S.1 S.2.1 d_K_holdsForAll_15 rfl (lv_at hl 0 rfl) ?_
        have hsn : fk_Sh n ck P sz bb (fk_fo ck P sz bb Mc rule j).2 := fk_fo_Sh hv1 (by omega) (fun h9 => hv2 h9 j (by omega))
        have hcon := c_K_faultOf l g ov Mc n ck P sz bb hv1 rule j hr1 hr5 (by omega) (fun h9 => hv2 h9 j (by omega))
        obtain ⟨vf, hvf⟩ : ∃ z, z = (fk_fo ck P sz bb Mc rule j).1 := ⟨_, rfl⟩
        obtain ⟨Mf, hMf⟩ : ∃ z, z = (fk_fo ck P sz bb Mc rule j).2 := ⟨_, rfl⟩
        rw [← hvf, ← hMf] at hcon
        rw [← hMf] at hsn
        refine fk_cvi S E G 79 (by decide) (congrArg (fk_ce g ov 79 (Mc 79)) kd_79) rfl (rest := []) hcon m_K_faultOf i_269 ⟨rfl, rfl⟩ ⟨by decide, by decide⟩ rfl rfl hl.1 (Nat.le_of_ble_eq_true rfl) d_K_holdsForAll_16 ⟨Nat.zero_le _, Nat.zero_le _⟩ (fun H locs G => ?_)
        refine lv_istore_n (lv' := [(3, .int vf), (2, .int (nI j)), (0, .ref (fk_a g 79)), (1, .int (nI rule))]) S.1 S.2.1 d_K_holdsForAll_19 rfl hl (by decide) rfl (fun ls hl => ?_)
        refine lv_iload_n S.1 S.2.1 d_K_holdsForAll_20 rfl (lv_at hl 0 rfl) ?_
        refine lv_iconst (v := -1) S.1 S.2.1 d_K_holdsForAll_21 (by decide +kernel) ?_
        refine lv_icmp_eq (tgt := 37) S.1 S.2.1 d_K_holdsForAll_22 rfl (fun hc3 => ?_) (fun hc3 => ?_)
        · refine lv_iinc (k := 1) (v := nI (j + 1)) (lv' := [(2, .int (nI (j + 1))), (3, .int vf), (0, .ref (fk_a g 79)), (1, .int (nI rule))]) S.1 S.2.1 d_K_holdsForAll_37 hl rfl (nI_1 j) (by decide) rfl (fun ls hl => ?_)
          refine lv_goto (tgt := 2) S.1 S.2.1 d_K_holdsForAll_40 rfl ?_
          refine ih (j + 1) Mf H locs ls (by omega) hsn (fun h9 i hi => ?_) (by rw [← hv3, fk_hf_S, ← hvf, if_pos hc3, hMf]) G (lv_sub hl [0, 2, 3] rfl)
          rw [hMf, fk_fo_ne hv1 (by omega) (by rcases (hv1.2.2 j (by omega)).1 with z9 | ⟨z, z8, z9⟩ <;> omega)]
          exact hv2 h9 i hi
        · refine lv_aload_n S.1 S.2.1 d_K_holdsForAll_25 rfl (lv_at hl 2 rfl) ?_
          refine lv_iload_n S.1 S.2.1 d_K_holdsForAll_26 rfl (lv_at hl 1 rfl) ?_
          refine fk_pf S E G 79 (by decide) (congrArg (fk_ce g ov 79 (Mf 79)) kd_79) rfl 5 (by decide) rfl i_162 (upd (Mf 79) 5 (nI j)) (congrArg (fk_ce g ov 79 (upd (Mf 79) 5 (nI j))) kd_79) rfl (ty := (.int)) (by decide +kernel) rfl rfl (Nat.le_of_ble_eq_true rfl) d_K_holdsForAll_27 (fun H locs G => ?_)
          obtain ⟨M4, hM4⟩ : ∃ z : fk_M, z = va_up Mf 79 (upd (Mf 79) 5 (nI j)) := ⟨_, rfl⟩
          rw [← hM4] at G
          refine lv_aload_n S.1 S.2.1 d_K_holdsForAll_30 rfl (lv_at hl 2 rfl) ?_
          refine lv_iload_n S.1 S.2.1 d_K_holdsForAll_31 rfl (lv_at hl 0 rfl) ?_
          refine fk_pf S E G 79 (by decide) (congrArg (fk_ce g ov 79 (M4 79)) kd_79) rfl 6 (by decide) rfl i_164 (upd (M4 79) 6 vf) (congrArg (fk_ce g ov 79 (upd (M4 79) 6 vf)) kd_79) rfl (ty := (.int)) (by decide +kernel) rfl rfl (Nat.le_of_ble_eq_true rfl) d_K_holdsForAll_32 (fun H locs G => ?_)
          obtain ⟨M5, hM5⟩ : ∃ z : fk_M, z = va_up M4 79 (upd (M4 79) 6 vf) := ⟨_, rfl⟩
          rw [← hM5] at G
          refine lv_iconst (v := nI 0) S.1 S.2.1 d_K_holdsForAll_35 (by decide +kernel) ?_
          have hres : fk_hf ck P sz bb rule n 0 M = (false, M5) := by
            rw [← hv3, fk_hf_S, ← hvf, if_neg hc3, hM5, hM4, bx_uu, va_up_self, hMf]
          exact fk_zret S hr hlk E G (by rw [hres]) (by rw [hres]; rfl) (fk_bz _) d_K_holdsForAll_36
  exact loop n 0 M s.heap [] ls (by omega) hs hp rfl G hl
/-- the rules one after the other: the number of the first that fails, or 0 -/
def fk_ru (n : Nat) (ck P sz : Nat → Nat) (bb : Nat → Nat → Nat) : Nat → Nat → fk_M → Nat × fk_M
  | 0, _, M => (0, M)
  | d + 1, r, M => if (fk_hf ck P sz bb r n 0 M).1 = true then fk_ru n ck P sz bb d (r + 1) (fk_hf ck P sz bb r n 0 M).2 else (r, (fk_hf ck P sz bb r n 0 M).2)
theorem fk_ru_S (n : Nat) (ck P sz : Nat → Nat) (bb : Nat → Nat → Nat) (d r : Nat) (M : fk_M) : fk_ru n ck P sz bb (d + 1) r M = if (fk_hf ck P sz bb r n 0 M).1 = true then fk_ru n ck P sz bb d (r + 1) (fk_hf ck P sz bb r n 0 M).2 else (r, (fk_hf ck P sz bb r n 0 M).2) := rfl
def fk_pd (M : fk_M) : fk_M := va_up M 79 (upd (M 79) 4 (nI 1))
def fk_ag0 (n : Nat) (M : fk_M) : fk_M := fk_ag n n 0 0 (nI 0) (va_up M 75 (upd (M 75) 3 (nI 0)))
def fk_exm (n : Nat) (ck P sz : Nat → Nat) (bb : Nat → Nat → Nat) (M : fk_M) : Nat × fk_M :=
  if (fk_ru n ck P sz bb 5 1 (fk_tr n ck P sz bb (fk_fg M))).1 = 0 then (0, fk_pd (fk_ag0 n (fk_ru n ck P sz bb 5 1 (fk_tr n ck P sz bb (fk_fg M))).2)) else fk_ru n ck P sz bb 5 1 (fk_tr n ck P sz bb (fk_fg M))
theorem fk_hf_Sh {n : Nat} {ck P sz : Nat → Nat} {bb : Nat → Nat → Nat} {rule : Nat} : ∀ d j M, j + d ≤ 12 → fk_Sh n ck P sz bb M → (2 ≤ rule → ∀ i, j ≤ i → i < j + d → M (3 + 6 * i) 2 = 0 → 0 < sz i) → fk_Sh n ck P sz bb (fk_hf ck P sz bb rule d j M).2 ∧ (∀ i, i < 12 → (fk_hf ck P sz bb rule d j M).2 (3 + 6 * i) = M (3 + 6 * i)) ∧ (rule = 1 → (fk_hf ck P sz bb rule d j M).1 = true → ∀ i, j ≤ i → i < j + d → M (3 + 6 * i) 2 = 0 → 0 < sz i) := by
  intro d
  induction d with
  | zero => intro j M _ hs _; exact ⟨hs, fun _ _ => rfl, fun _ _ i h1 h2 => absurd h2 (by omega)⟩
  | succ d ih =>
    intro j M hj hs hp
    have hsn := fk_fo_Sh (rule := rule) hs (show j < 12 by omega) (fun h9 => hp h9 j (Nat.le_refl _) (by omega))
    have hne : ∀ i, i < 12 → (fk_fo ck P sz bb M rule j).2 (3 + 6 * i) = M (3 + 6 * i) := fun i hi => fk_fo_ne hs (by omega) (by rcases (hs.2.2 j (by omega)).1 with z9 | ⟨z, z8, z9⟩ <;> omega)
    rw [fk_hf_S]
    by_cases h : (fk_fo ck P sz bb M rule j).1 = -1
    · rw [if_pos h]
      obtain ⟨a1, a2, a3⟩ := ih (j + 1) _ (by omega) hsn (fun h9 i h1 h2 h3 => hp h9 i (by omega) (by omega) (by rw [← hne i (by omega)]; exact h3))
      refine ⟨a1, fun i hi => (a2 i hi).trans (hne i hi), fun h1 h2 i i1 i2 i3 => ?_⟩
      by_cases hij : i = j
      · subst hij
        by_cases hz : 0 < sz i
        · exact hz
        · subst h1
          have h9 : (fk_fo ck P sz bb M 1 i).1 = nI 0 := by
            unfold fk_fo
            rw [if_neg (by decide), if_neg (fun q => q i3)]
            show (if 0 < sz i then (-1 : Int32) else nI 0) = nI 0
            rw [if_neg hz]
          rw [h9] at h
          exact absurd h (fk_nm1 (by decide))
      · exact a3 h1 h2 i (by omega) (by omega) (by rw [hne i (by omega)]; exact i3)
    · rw [if_neg h]
      exact ⟨hsn.to (fk_Eq_k (by omega) _), fun i hi => (va_up_ne _ _ (by omega)).trans (hne i hi), fun _ h2 => by cases h2⟩
theorem d_K_examine_0 : decode b_K_examine 0 = .ok (.aload_n 0, 1) := by decide +kernel
theorem d_K_examine_1 : decode b_K_examine 1 = .ok (.invokevirtual 38, 3) := by decide +kernel
theorem d_K_examine_4 : decode b_K_examine 4 = .ok (.aload_n 0, 1) := by decide +kernel
theorem d_K_examine_5 : decode b_K_examine 5 = .ok (.getfield 30, 3) := by decide +kernel
theorem d_K_examine_8 : decode b_K_examine 8 = .ok (.invokevirtual 41, 3) := by decide +kernel
theorem d_K_examine_11 : decode b_K_examine 11 = .ok (.iconst 1, 1) := by decide +kernel
theorem d_K_examine_12 : decode b_K_examine 12 = .ok (.istore_n 1, 1) := by decide +kernel
theorem d_K_examine_13 : decode b_K_examine 13 = .ok (.iload_n 1, 1) := by decide +kernel
theorem d_K_examine_14 : decode b_K_examine 14 = .ok (.iconst 5, 1) := by decide +kernel
theorem d_K_examine_15 : decode b_K_examine 15 = .ok (.if_icmp .gt 19, 3) := by decide +kernel
theorem d_K_examine_18 : decode b_K_examine 18 = .ok (.aload_n 0, 1) := by decide +kernel
theorem d_K_examine_19 : decode b_K_examine 19 = .ok (.iload_n 1, 1) := by decide +kernel
theorem d_K_examine_20 : decode b_K_examine 20 = .ok (.invokevirtual 46, 3) := by decide +kernel
theorem d_K_examine_23 : decode b_K_examine 23 = .ok (.ifCond .ne 5, 3) := by decide +kernel
theorem d_K_examine_26 : decode b_K_examine 26 = .ok (.iload_n 1, 1) := by decide +kernel
theorem d_K_examine_27 : decode b_K_examine 27 = .ok (.ireturn, 1) := by decide +kernel
theorem d_K_examine_28 : decode b_K_examine 28 = .ok (.iinc 1 1, 3) := by decide +kernel
theorem d_K_examine_31 : decode b_K_examine 31 = .ok (.goto (-18), 3) := by decide +kernel
theorem d_K_examine_34 : decode b_K_examine 34 = .ok (.aload_n 0, 1) := by decide +kernel
theorem d_K_examine_35 : decode b_K_examine 35 = .ok (.getfield 30, 3) := by decide +kernel
theorem d_K_examine_38 : decode b_K_examine 38 = .ok (.invokevirtual 50, 3) := by decide +kernel
theorem d_K_examine_41 : decode b_K_examine 41 = .ok (.aload_n 0, 1) := by decide +kernel
theorem d_K_examine_42 : decode b_K_examine 42 = .ok (.iconst 1, 1) := by decide +kernel
theorem d_K_examine_43 : decode b_K_examine 43 = .ok (.putfield 34, 3) := by decide +kernel
theorem d_K_examine_46 : decode b_K_examine 46 = .ok (.iconst 0, 1) := by decide +kernel
theorem d_K_examine_47 : decode b_K_examine 47 = .ok (.ireturn, 1) := by decide +kernel
theorem m_K_examine : fk_MI y_K_examine b_K_examine 2 (some .int) 0 := ⟨i_231, i_230, fk_mp (q := (y_K_examine, 7)) (by decide +kernel), i_6, by decide +kernel⟩
set_option maxHeartbeats 4000000 in
set_option maxRecDepth 100000 in
theorem c_K_examine (l : Launch) (g : fk_G) (ov : Int64) (M : fk_M) (n : Nat) (ck P sz : Nat → Nat) (bb : Nat → Nat → Nat) (hs : fk_Sh n ck P sz bb M) : fk_CI l y_K_examine b_K_examine 2 (some .int) (fk_rm 6) g ov M ((fk_exm n ck P sz bb M).2) [.ref (fk_a g 79)] (nI (fk_exm n ck P sz bb M).1) := by
  refine fk_ofI rfl (Nat.le_of_ble_eq_true rfl) ?_
  intro p e s m args below meth c ls S hr hlk E G hl
  have hl : lv_has ls 2 [(0, .ref (fk_a g 79))] := hl
  have h12 := hs.2.1
  have hs1 : fk_Sh n ck P sz bb (fk_fg M) := hs.to (fk_Eq_k (by omega) _)
  have hs2 : fk_Sh n ck P sz bb (fk_tr n ck P sz bb (fk_fg M)) := hs1.to (fk_O.Eq (by omega) (fk_t2_O n (fk_t1_O ck P sz bb (fk_fg M) n) n))
  refine lv_aload_n S.1 S.2.1 d_K_examine_0 rfl (lv_at hl 0 rfl) ?_
  refine fk_cvv S E G 79 (by decide) (congrArg (fk_ce g ov 79 (M 79)) kd_79) rfl (rest := []) (c_K_forget l g ov M) m_K_forget i_232 ⟨rfl, rfl⟩ ⟨by decide, by decide⟩ rfl rfl hl.1 (Nat.le_of_ble_eq_true rfl) d_K_examine_1 ⟨Nat.zero_le _, Nat.zero_le _⟩ (fun H locs G => ?_)
  obtain ⟨M1, hM1⟩ : ∃ z : fk_M, z = fk_fg M := ⟨_, rfl⟩
  rw [← hM1] at G
  rw [← hM1] at hs1 hs2
  refine lv_aload_n S.1 S.2.1 d_K_examine_4 rfl (lv_at hl 0 rfl) ?_
  refine fk_gf S E G 79 (by decide) (v := .ref (fk_a g 75)) (congrArg (fk_ce g ov 79 (M1 79)) kd_79) rfl 1 (by decide) rfl i_157 rfl d_K_examine_5 ?_
  refine fk_cnv S E G 75 (by decide) (congrArg (fk_ce g ov 75 (M1 75)) kd_75) rfl (rest := []) (c_W_trace l g ov M1 n ck P sz bb hs1) m_W_trace (List.mem_of_getElem? (i := 9) rfl) ⟨rfl, rfl⟩ ⟨by decide, by decide⟩ rfl rfl hl.1 (Nat.le_of_ble_eq_true rfl) d_K_examine_8 ⟨Nat.zero_le _, Nat.zero_le _⟩ (fun H locs G => ?_)
  rw [hM1] at G
  refine lv_iconst (v := nI 1) S.1 S.2.1 d_K_examine_11 (by decide +kernel) ?_
  refine lv_istore_n (lv' := [(1, .int (nI 1)), (0, .ref (fk_a g 79))]) S.1 S.2.1 d_K_examine_12 rfl hl (by decide) rfl (fun ls hl => ?_)
  have loop : ∀ (d : Nat) (r : Nat) (Mc : fk_M) (H : Heap) (locs : List Loc) (ls : Array Slot), r + d = 6 → 1 ≤ r → fk_Sh n ck P sz bb Mc → (2 ≤ r → ∀ j, j < n → Mc (3 + 6 * j) 2 = 0 → 0 < sz j) → fk_ru n ck P sz bb d r Mc = fk_ru n ck P sz bb 5 1 (fk_tr n ck P sz bb (fk_fg M)) → fk_H g ov (Mc) s H locs → lv_has ls 2 [(1, .int (nI r)), (0, .ref (fk_a g 79))] → W p l e (fk_rm (6)) s m args below meth c H locs 0 0 (MQ below (va_Qi (fun rr (_ : Unit) => rr = nI (fk_exm n ck P sz bb M).1) (fun _ t9 => fk_Wd g ov ((fk_exm n ck P sz bb M).2) t9) (fk_A g)) args s 0 0 (fk_A g)) (F0 m 13 ls []) := by
    intro d
    induction d with
    | zero =>
      intro r Mc H locs ls hv0 hv1 hv2 hv3 hv4 G hl
      refine lv_iload_n S.1 S.2.1 d_K_examine_13 rfl (lv_at hl 0 rfl) ?_
      refine lv_iconst (v := nI 5) S.1 S.2.1 d_K_examine_14 (by decide +kernel) ?_
      refine fk_cgt (tgt := 34) S.1 S.2.1 (by omega) (by omega) d_K_examine_15 rfl (fun hc1 => ?_) (fun hc1 => ?_)
      · have hru : fk_ru n ck P sz bb 5 1 (fk_tr n ck P sz bb (fk_fg M)) = (0, Mc) := hv4.symm
        have hex : fk_exm n ck P sz bb M = (0, fk_pd (fk_ag0 n Mc)) := by
          unfold fk_exm
          rw [hru]
          rfl
        refine lv_aload_n S.1 S.2.1 d_K_examine_34 rfl (lv_at hl 1 rfl) ?_
        refine fk_gf S E G 79 (by decide) (v := .ref (fk_a g 75)) (congrArg (fk_ce g ov 79 (Mc 79)) kd_79) rfl 1 (by decide) rfl i_157 rfl d_K_examine_35 ?_
        refine fk_cnv S E G 75 (by decide) (congrArg (fk_ce g ov 75 (Mc 75)) kd_75) rfl (rest := []) (c_W_arrange l g ov Mc n hv2.1 h12) m_W_arrange (List.mem_of_getElem? (i := 22) rfl) ⟨rfl, rfl⟩ ⟨by decide, by decide⟩ rfl rfl hl.1 (Nat.le_of_ble_eq_true rfl) d_K_examine_38 ⟨Nat.zero_le _, Nat.zero_le _⟩ (fun H locs G => ?_)
        change fk_H g ov (fk_ag0 n Mc) s H locs at G
        obtain ⟨M5, hM5⟩ : ∃ z : fk_M, z = fk_ag0 n Mc := ⟨_, rfl⟩
        rw [← hM5] at G
        refine lv_aload_n S.1 S.2.1 d_K_examine_41 rfl (lv_at hl 1 rfl) ?_
        refine lv_iconst (v := nI 1) S.1 S.2.1 d_K_examine_42 (by decide +kernel) ?_
        refine fk_pf S E G 79 (by decide) (congrArg (fk_ce g ov 79 (M5 79)) kd_79) rfl 4 (by decide) rfl i_160 (upd (M5 79) 4 (nI 1)) (congrArg (fk_ce g ov 79 (upd (M5 79) 4 (nI 1))) kd_79) rfl (ty := (.boolean)) (by decide +kernel) (fk_nb (Or.inr (by decide +kernel))) (fk_fb (Or.inr (by decide +kernel))) (Nat.le_of_ble_eq_true rfl) d_K_examine_43 (fun H locs G => ?_)
        obtain ⟨M2, hM2⟩ : ∃ z : fk_M, z = va_up M5 79 (upd (M5 79) 4 (nI 1)) := ⟨_, rfl⟩
        rw [← hM2] at G
        refine lv_iconst (v := nI 0) S.1 S.2.1 d_K_examine_46 (by decide +kernel) ?_
        exact fk_iret S hr hlk E G (by rw [hex, hM2, hM5]; rfl) (by rw [hex]) d_K_examine_47
      · exact absurd hv0 (by omega)
    | succ d ih =>
      intro r Mc H locs ls hv0 hv1 hv2 hv3 hv4 G hl
      refine lv_iload_n S.1 S.2.1 d_K_examine_13 rfl (lv_at hl 0 rfl) ?_
      refine lv_iconst (v := nI 5) S.1 S.2.1 d_K_examine_14 (by decide +kernel) ?_
      refine fk_cgt (tgt := 34) S.1 S.2.1 (by omega) (by omega) d_K_examine_15 rfl (fun hc3 => ?_) (fun hc3 => ?_)
      · exact absurd hv0 (by omega)
      · refine lv_aload_n S.1 S.2.1 d_K_examine_18 rfl (lv_at hl 1 rfl) ?_
        refine lv_iload_n S.1 S.2.1 d_K_examine_19 rfl (lv_at hl 0 rfl) ?_
        obtain ⟨a1, a2, a3⟩ := fk_hf_Sh (rule := r) n 0 Mc (by omega) hv2 (fun h9 i _ h2 h3 => hv3 h9 i (by omega) h3)
        have hcon := c_K_holdsForAll l g ov Mc n ck P sz bb hv2 r hv1 (by omega) hv3
        obtain ⟨vf, hvf⟩ : ∃ z, z = (fk_hf ck P sz bb r n 0 Mc).1 := ⟨_, rfl⟩
        obtain ⟨Mf, hMf⟩ : ∃ z, z = (fk_hf ck P sz bb r n 0 Mc).2 := ⟨_, rfl⟩
        rw [← hvf, ← hMf] at hcon
        rw [← hMf] at a1 a2
        rw [← hvf] at a3
        refine fk_cvi S E G 79 (by decide) (congrArg (fk_ce g ov 79 (Mc 79)) kd_79) rfl (rest := []) hcon m_K_holdsForAll i_265 ⟨rfl, rfl⟩ ⟨by decide, by decide⟩ rfl rfl hl.1 (Nat.le_of_ble_eq_true rfl) d_K_examine_20 ⟨Nat.zero_le _, Nat.zero_le _⟩ (fun H locs G => ?_)
        refine fk_zne (tgt := 28) S.1 S.2.1 (fk_bl _) d_K_examine_23 rfl (fun hc4 => ?_) (fun hc4 => ?_)
        · have ht := fk_bt hc4
          refine lv_iinc (k := 0) (v := nI (r + 1)) (lv' := [(1, .int (nI (r + 1))), (0, .ref (fk_a g 79))]) S.1 S.2.1 d_K_examine_28 hl rfl (nI_1 r) (by decide) rfl (fun ls hl => ?_)
          refine lv_goto (tgt := 13) S.1 S.2.1 d_K_examine_31 rfl ?_
          refine ih (r + 1) Mf H locs ls (by omega) (by omega) a1 (fun h9 j hj hz => ?_) (by rw [← hv4, fk_ru_S, ← hvf, if_pos ht, hMf]) G hl
          rw [a2 j (by omega)] at hz
          by_cases hr : r = 1
          · exact a3 hr ht j (by omega) (by omega) hz
          · exact hv3 (by omega) j hj hz
        · have hf := fk_bf hc4
          have hru : fk_ru n ck P sz bb 5 1 (fk_tr n ck P sz bb (fk_fg M)) = (r, Mf) := by
            rw [← hv4, fk_ru_S, ← hvf, if_neg (by rw [hf]; decide), hMf]
          have hex : fk_exm n ck P sz bb M = (r, Mf) := by
            unfold fk_exm
            rw [hru]
            exact if_neg (show ¬ r = 0 by omega)
          refine lv_iload_n S.1 S.2.1 d_K_examine_26 rfl (lv_at hl 0 rfl) ?_
          exact fk_iret S hr hlk E G (by rw [hex]) (by rw [hex]) d_K_examine_27
  rw [hM1] at hs2
  exact loop 5 1 _ H locs ls rfl (by decide) hs2 (fun h9 => absurd h9 (by decide)) rfl G hl
