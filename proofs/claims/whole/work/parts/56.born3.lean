/-! The constructors of Network (its loop of twelve flows) and of FlowDesk. Written by wip/gen/s_born3.py. -/
theorem fk_BH2 {g : fk_G} {n : Nat} {C : Nat → va_E} {s : State} {H : Heap} {locs : List Loc} (G : fk_BH g n C s H locs) {k : Nat} (hk : k < n) {cA : ClassId} {N : Nat} {f f' : Nat → Option Nat} (he : C k = .inl (cA, N, .inr (.inr (.inr (.inr f))))) (hf : ∀ j, j < N → f j = f' j) : fk_BH g n (va_up C k (.inl (cA, N, .inr (.inr (.inr (.inr f')))))) s H locs := by
  refine ⟨fun j q hq => ?_, G.2⟩
  have hj := fk_ws_lt hq
  have h2 := G.1 j _ (fk_ws_at hj)
  rw [fk_ws_at hj] at hq
  cases hq
  by_cases h : j = k
  · subst h
    rw [va_up_self]
    rw [he] at h2
    have h2 : H[fk_a g j]? = some (vp_cell cA (N, .inr (.inr (.inr (.inr f))))) := h2
    show H[fk_a g j]? = some (vp_cell cA (N, .inr (.inr (.inr (.inr f')))))
    rw [h2, vp_cell_q, vp_cell_q]
    refine congrArg some ?_
    show ({ cls := cA, slots := Array.ofFn _, vm := .none } : Cell) = { cls := cA, slots := Array.ofFn _, vm := .none }
    refine congrArg (fun z => ({ cls := cA, slots := z, vm := .none } : Cell)) ?_
    apply Array.ext
    · simp
    · intro i h1 h3
      simp at h1
      simp [hf i h1]
  · rw [va_up_ne _ _ h]
    exact h2
theorem d_N_init_0 : decode b_N_init 0 = .ok (.aload_n 0, 1) := by decide +kernel
theorem d_N_init_1 : decode b_N_init 1 = .ok (.invokespecial 3, 3) := by decide +kernel
theorem d_N_init_4 : decode b_N_init 4 = .ok (.aload_n 0, 1) := by decide +kernel
theorem d_N_init_5 : decode b_N_init 5 = .ok (.bipush 12, 2) := by decide +kernel
theorem d_N_init_7 : decode b_N_init 7 = .ok (.anewarray 9, 3) := by decide +kernel
theorem d_N_init_10 : decode b_N_init 10 = .ok (.putfield 11, 3) := by decide +kernel
theorem d_N_init_13 : decode b_N_init 13 = .ok (.iconst 0, 1) := by decide +kernel
theorem d_N_init_14 : decode b_N_init 14 = .ok (.istore_n 1, 1) := by decide +kernel
theorem d_N_init_15 : decode b_N_init 15 = .ok (.iload_n 1, 1) := by decide +kernel
theorem d_N_init_16 : decode b_N_init 16 = .ok (.bipush 12, 2) := by decide +kernel
theorem d_N_init_18 : decode b_N_init 18 = .ok (.if_icmp .ge 22, 3) := by decide +kernel
theorem d_N_init_21 : decode b_N_init 21 = .ok (.aload_n 0, 1) := by decide +kernel
theorem d_N_init_22 : decode b_N_init 22 = .ok (.getfield 11, 3) := by decide +kernel
theorem d_N_init_25 : decode b_N_init 25 = .ok (.iload_n 1, 1) := by decide +kernel
theorem d_N_init_26 : decode b_N_init 26 = .ok (.new 9, 3) := by decide +kernel
theorem d_N_init_29 : decode b_N_init 29 = .ok (.dup, 1) := by decide +kernel
theorem d_N_init_30 : decode b_N_init 30 = .ok (.invokespecial 17, 3) := by decide +kernel
theorem d_N_init_33 : decode b_N_init 33 = .ok (.aastore, 1) := by decide +kernel
theorem d_N_init_34 : decode b_N_init 34 = .ok (.iinc 1 1, 3) := by decide +kernel
theorem d_N_init_37 : decode b_N_init 37 = .ok (.goto (-22), 3) := by decide +kernel
theorem d_N_init_40 : decode b_N_init 40 = .ok (.return_, 1) := by decide +kernel
set_option maxHeartbeats 4000000 in
set_option maxRecDepth 100000 in
theorem b_Ni (l : Launch) (g : fk_G) (hg : fk_row g) (C : Nat → va_E)  (hC : C 1 = .inr (4, [.null, .int 0])) : fk_CN l y_N_init b_N_init 2 (fk_rb9 6 73 2076) g (1 + 1) (75) C (fk_mix g 1 C) [.ref (fk_a g 1)] 73 2076 := by
  refine fk_ofN rfl (Nat.le_of_ble_eq_true rfl) ?_
  intro p e s m args below meth c ls S hr hlk hnm E O h0 G hl
  have hl : lv_has ls 2 [(0, .ref (fk_a g 1))] := hl
  have loop : ∀ (d i : Nat) (Ci : Nat → va_E) (H : Heap) (locs : List Loc) (ls : Array Slot), i + d = 12 → Ci 0 = C 0 → Ci 1 = .inr (4, [.ref (fk_a g 2), .int 0]) → Ci 2 = .inl (g.2.1 3, 12, .inr (.inr (.inr (.inr (fun q => if q < i then some (fk_a g (3 + 6 * q)) else none))))) → (∀ j, 3 ≤ j → j < 3 + 6 * i → Ci j = fk_F g j) → fk_BH g (3 + 6 * i) Ci s H locs → lv_has ls 2 [(1, .int (nI i)), (0, .ref (fk_a g 1))] → W p l e (fk_rb9 6 73 2076) s m args below meth c H locs (1 + 6 * i) (12 + 172 * i) (MQ below (va_Qv (fun (_ : Unit) => True) (fun _ t => fk_Wb g 75 (fk_mix g 1 C) t) (fk_A g)) args s 73 2076 (fk_A g)) (F0 m 15 ls []) := by
    intro d
    induction d with
    | zero =>
      intro i Ci H locs ls hv0 hv1 hv2 hv3 hv4 G hl
      have hi12 : i = 12 := by omega
      subst hi12
      refine lv_iload_n S.1 S.2.1 d_N_init_15 rfl (lv_at hl 0 rfl) ?_
      refine lv_bipush (v := nI 12) S.1 S.2.1 d_N_init_16 (by decide +kernel) ?_
      refine fk_cge (tgt := 40) S.1 S.2.1 (by omega) (by omega) d_N_init_18 rfl (fun hc1 => ?_) (fun hc1 => ?_)
      · have G := fk_BH2 G (k := 2) (by decide) hv3 (f' := fun i => some (fk_a g (3 + 6 * i))) (fun j hj => if_pos hj)
        refine fk_bret hg S hr hlk E O h0 (by omega) G (by omega) (fun j hj => ?_) ⟨rfl, rfl⟩ d_N_init_40
        rcases (by omega : j = 0 ∨ j = 1 ∨ j = 2 ∨ (3 ≤ j ∧ j < 75)) with h9 | h9 | h9 | ⟨h9, h8⟩
        · subst h9
          rw [fk_mix_lt (by decide), va_up_ne _ _ (by decide)]
          exact hv1
        · subst h9
          rw [fk_mix_ge (by decide), va_up_ne _ _ (by decide), hv2]
          exact fk_FN.symm
        · subst h9
          rw [fk_mix_ge (by decide), va_up_self]
          exact fk_FR.symm
        · rw [fk_mix_ge (by omega), va_up_ne _ _ (by omega)]
          exact hv4 j h9 h8
      · exact absurd hc1 (by omega)
    | succ d ih =>
      intro i Ci H locs ls hv0 hv1 hv2 hv3 hv4 G hl
      have hi : i < 12 := by omega
      refine lv_iload_n S.1 S.2.1 d_N_init_15 rfl (lv_at hl 0 rfl) ?_
      refine lv_bipush (v := nI 12) S.1 S.2.1 d_N_init_16 (by decide +kernel) ?_
      refine fk_cge (tgt := 40) S.1 S.2.1 (by omega) (by omega) d_N_init_18 rfl (fun hc2 => ?_) (fun hc2 => ?_)
      · exact absurd hc2 (by omega)
      · refine lv_aload_n S.1 S.2.1 d_N_init_21 rfl (lv_at hl 1 rfl) ?_
        refine fk_bget S E G 1 (by omega) hv2 rfl 0 (by decide) rfl i_110 rfl d_N_init_22 ?_
        refine lv_iload_n S.1 S.2.1 d_N_init_25 rfl (lv_at hl 0 rfl) ?_
        refine fk_bnew hg S E h0 (by omega) G (ci := 3) rfl p_F bd_F i_30 i_32 i_3 ⟨by show 1 + 6 * i + 1 ≤ 73; omega, by show 12 + 172 * i + 7 ≤ 2076; omega⟩ d_N_init_26 (fun H G => ?_)
        obtain ⟨Cn, hCn⟩ : ∃ z : Nat → va_E, z = va_up Ci (3 + 6 * i) (.inr (3, [.null, .int 0, .int 0, .int 0, .int 0, .int 0, .int 0])) := ⟨_, rfl⟩
        rw [← hCn] at G
        have hr1 : Cn (3 + 6 * i) = .inr (3, [.null, .int 0, .int 0, .int 0, .int 0, .int 0, .int 0]) := by rw [hCn, va_up_self]
        refine lv_dup S.1 S.2.1 d_N_init_29 rfl ?_
        refine fk_bcn hg S E O h0 (by omega) G (rest := [.ref (fk_a g (3 + 6 * i)), .int (nI i), .ref (fk_a g 2)]) (b_Fi l g hg Cn i hi hr1) i_35 i_34 i_3 (by decide +kernel) rfl (List.mem_of_getElem? (i := 1) rfl) ⟨rfl, rfl⟩ ⟨by decide, by decide⟩ rfl rfl hl.1 (Nat.le_of_ble_eq_true rfl) d_N_init_30 ⟨by show 1 + 6 * i + 1 + 5 ≤ 73; omega, by show 12 + 172 * i + 7 + 165 ≤ 2076; omega⟩ (fun H locs G => ?_)
        obtain ⟨Cm, hCm⟩ : ∃ z : Nat → va_E, z = fk_mix g (3 + 6 * i) Cn := ⟨_, rfl⟩
        rw [← hCm] at G
        have hlo : ∀ j, j < 3 + 6 * i → Cm j = Ci j := fun j hj => by rw [hCm, fk_mix_lt hj, hCn, va_up_ne _ _ (by omega)]
        have hhi : ∀ j, 3 + 6 * i ≤ j → Cm j = fk_F g j := fun j hj => by rw [hCm, fk_mix_ge hj]
        refine fk_bas hg S E G 2 (by omega) ((hlo 2 (by omega)).trans hv3) (3 + 6 * i) (by omega) ((hhi _ (Nat.le_refl _)).trans (fk_FF hi)) i hi d_N_init_33 (fun H locs G => ?_)
        have hfe : va_up (fun q => if q < i then some (fk_a g (3 + 6 * q)) else none) i (some (fk_a g (3 + 6 * i))) = (fun q => if q < (i + 1) then some (fk_a g (3 + 6 * q)) else none) := by
          funext q
          by_cases h1 : q = i
          · subst h1
            rw [va_up_self, if_pos (by omega)]
          · rw [va_up_ne _ _ h1]
            by_cases h2 : q < i
            · rw [if_pos h2, if_pos (by omega)]
            · rw [if_neg h2, if_neg (by omega)]
        rw [hfe] at G
        refine lv_iinc (k := 0) (v := nI (i + 1)) (lv' := [(1, .int (nI (i + 1))), (0, .ref (fk_a g 1))]) S.1 S.2.1 d_N_init_34 hl rfl (nI_1 i) (by decide) rfl (fun ls hl => ?_)
        refine lv_goto (tgt := 15) S.1 S.2.1 d_N_init_37 rfl ?_
        rw [show 1 + 6 * i + 1 + 5 = 1 + 6 * (i + 1) by omega, show 12 + 172 * i + 7 + 165 = 12 + 172 * (i + 1) by omega]
        refine ih (i + 1) (va_up Cm 2 (.inl (g.2.1 3, 12, .inr (.inr (.inr (.inr (fun q => if q < (i + 1) then some (fk_a g (3 + 6 * q)) else none))))))) H locs ls (by omega) ?_ ?_ (by rw [va_up_self]) ?_ (by rw [show 3 + 6 * (i + 1) = 3 + 6 * i + 6 by omega]; exact G) (lv_sub hl [0, 1] rfl)
        · rw [va_up_ne _ _ (by decide), hlo 0 (by omega)]
          exact hv1
        · rw [va_up_ne _ _ (by decide), hlo 1 (by omega)]
          exact hv2
        · intro j h1 h2
          rw [va_up_ne _ _ (by omega)]
          by_cases h3 : j < 3 + 6 * i
          · rw [hlo j h3]
            exact hv4 j h1 h3
          · exact hhi j (by omega)
  refine lv_aload_n S.1 S.2.1 d_N_init_0 rfl (lv_at hl 0 rfl) ?_
  refine fk_bob S i_29 hl.1 ⟨by decide, by decide⟩ d_N_init_1 ?_
  refine lv_aload_n S.1 S.2.1 d_N_init_4 rfl (lv_at hl 0 rfl) ?_
  refine lv_bipush (v := nI 12) S.1 S.2.1 d_N_init_5 (by decide +kernel) ?_
  refine fk_bnq hg S E O h0 (by omega) G i_30 ⟨by decide, by decide⟩ d_N_init_7 (fun H G => ?_)
  obtain ⟨C1, hC1⟩ : ∃ z : Nat → va_E, z = va_up C (1 + 1) (.inl (g.2.1 3, 12, .inr (.inr (.inr (.inr (fun _ => none)))))) := ⟨_, rfl⟩
  rw [← hC1] at G
  have hk1 : C1 1 = .inr (4, [.null, .int 0]) := by rw [hC1, va_up_ne _ _ (by omega)]; exact hC
  refine fk_bpF hg S E hnm G 1 (by omega) hk1 rfl 0 (by decide) rfl i_110 rfl (v := .ref (fk_a g (1 + 1))) (fs' := [.ref (fk_a g (1 + 1)), .int 0]) rfl (ty := (.array (.object "FlowDesk$Flow"))) (by decide +kernel) rfl rfl (Nat.le_of_ble_eq_true rfl) d_N_init_10 (fun H locs G => ?_)
  obtain ⟨C2, hC2⟩ : ∃ z : Nat → va_E, z = va_up C1 1 (.inr (4, [.ref (fk_a g (1 + 1)), .int 0])) := ⟨_, rfl⟩
  rw [← hC2] at G
  have hk2 : C2 1 = .inr (4, [.ref (fk_a g (1 + 1)), .int 0]) := by rw [hC2, va_up_self]
  refine lv_iconst (v := nI 0) S.1 S.2.1 d_N_init_13 (by decide +kernel) ?_
  refine lv_istore_n (lv' := [(1, .int (nI 0)), (0, .ref (fk_a g 1))]) S.1 S.2.1 d_N_init_14 rfl hl (by decide) rfl (fun ls hl => ?_)
  refine loop 12 0 C2 H locs ls rfl (by rw [hC2, va_up_ne _ _ (by decide), hC1, va_up_ne _ _ (by decide)]) hk2 (by rw [hC2, va_up_ne _ _ (by decide), hC1]; exact (va_up_self ..).trans (by congr 5)) (fun j h1 h2 => absurd h1 (by omega)) G (lv_sub hl [0, 1] rfl)
theorem d_D_init_0 : decode b_D_init 0 = .ok (.aload_n 0, 1) := by decide +kernel
theorem d_D_init_1 : decode b_D_init 1 = .ok (.invokespecial 3, 3) := by decide +kernel
theorem d_D_init_4 : decode b_D_init 4 = .ok (.aload_n 0, 1) := by decide +kernel
theorem d_D_init_5 : decode b_D_init 5 = .ok (.new 9, 3) := by decide +kernel
theorem d_D_init_8 : decode b_D_init 8 = .ok (.dup, 1) := by decide +kernel
theorem d_D_init_9 : decode b_D_init 9 = .ok (.invokespecial 11, 3) := by decide +kernel
theorem d_D_init_12 : decode b_D_init 12 = .ok (.putfield 12, 3) := by decide +kernel
theorem d_D_init_15 : decode b_D_init 15 = .ok (.aload_n 0, 1) := by decide +kernel
theorem d_D_init_16 : decode b_D_init 16 = .ok (.new 16, 3) := by decide +kernel
theorem d_D_init_19 : decode b_D_init 19 = .ok (.dup, 1) := by decide +kernel
theorem d_D_init_20 : decode b_D_init 20 = .ok (.aload_n 0, 1) := by decide +kernel
theorem d_D_init_21 : decode b_D_init 21 = .ok (.getfield 12, 3) := by decide +kernel
theorem d_D_init_24 : decode b_D_init 24 = .ok (.invokespecial 18, 3) := by decide +kernel
theorem d_D_init_27 : decode b_D_init 27 = .ok (.putfield 21, 3) := by decide +kernel
theorem d_D_init_30 : decode b_D_init 30 = .ok (.aload_n 0, 1) := by decide +kernel
theorem d_D_init_31 : decode b_D_init 31 = .ok (.new 25, 3) := by decide +kernel
theorem d_D_init_34 : decode b_D_init 34 = .ok (.dup, 1) := by decide +kernel
theorem d_D_init_35 : decode b_D_init 35 = .ok (.aload_n 0, 1) := by decide +kernel
theorem d_D_init_36 : decode b_D_init 36 = .ok (.getfield 12, 3) := by decide +kernel
theorem d_D_init_39 : decode b_D_init 39 = .ok (.aload_n 0, 1) := by decide +kernel
theorem d_D_init_40 : decode b_D_init 40 = .ok (.getfield 21, 3) := by decide +kernel
theorem d_D_init_43 : decode b_D_init 43 = .ok (.invokespecial 27, 3) := by decide +kernel
theorem d_D_init_46 : decode b_D_init 46 = .ok (.putfield 30, 3) := by decide +kernel
theorem d_D_init_49 : decode b_D_init 49 = .ok (.aload_n 0, 1) := by decide +kernel
theorem d_D_init_50 : decode b_D_init 50 = .ok (.new 34, 3) := by decide +kernel
theorem d_D_init_53 : decode b_D_init 53 = .ok (.dup, 1) := by decide +kernel
theorem d_D_init_54 : decode b_D_init 54 = .ok (.aload_n 0, 1) := by decide +kernel
theorem d_D_init_55 : decode b_D_init 55 = .ok (.getfield 12, 3) := by decide +kernel
theorem d_D_init_58 : decode b_D_init 58 = .ok (.aload_n 0, 1) := by decide +kernel
theorem d_D_init_59 : decode b_D_init 59 = .ok (.getfield 21, 3) := by decide +kernel
theorem d_D_init_62 : decode b_D_init 62 = .ok (.invokespecial 36, 3) := by decide +kernel
theorem d_D_init_65 : decode b_D_init 65 = .ok (.putfield 37, 3) := by decide +kernel
theorem d_D_init_68 : decode b_D_init 68 = .ok (.aload_n 0, 1) := by decide +kernel
theorem d_D_init_69 : decode b_D_init 69 = .ok (.new 41, 3) := by decide +kernel
theorem d_D_init_72 : decode b_D_init 72 = .ok (.dup, 1) := by decide +kernel
theorem d_D_init_73 : decode b_D_init 73 = .ok (.invokespecial 43, 3) := by decide +kernel
theorem d_D_init_76 : decode b_D_init 76 = .ok (.putfield 44, 3) := by decide +kernel
theorem d_D_init_79 : decode b_D_init 79 = .ok (.return_, 1) := by decide +kernel
set_option maxHeartbeats 4000000 in
set_option maxRecDepth 100000 in
theorem b_Di (l : Launch) (g : fk_G) (hg : fk_row g) (C : Nat → va_E)  (hC : C 0 = .inr (6, [.null, .null, .null, .null, .null])) : fk_CN l y_D_init b_D_init 1 (fk_rb9 8 88 2399) g (0 + 1) (89) C (fk_mix g 0 C) [.ref (fk_a g 0)] 88 2399 := by
  refine fk_ofN rfl (Nat.le_of_ble_eq_true rfl) ?_
  intro p e s m args below meth c ls S hr hlk hnm E O h0 G hl
  have hl : lv_has ls 1 [(0, .ref (fk_a g 0))] := hl
  refine lv_aload_n S.1 S.2.1 d_D_init_0 rfl (lv_at hl 0 rfl) ?_
  refine fk_bob S i_21 hl.1 ⟨by decide, by decide⟩ d_D_init_1 ?_
  refine lv_aload_n S.1 S.2.1 d_D_init_4 rfl (lv_at hl 0 rfl) ?_
  refine fk_bnew hg S E h0 (by omega) G (ci := 4) rfl p_N bd_N i_24 i_25 i_2 ⟨by decide, by decide⟩ d_D_init_5 (fun H G => ?_)
  obtain ⟨C1, hC1⟩ : ∃ z : Nat → va_E, z = va_up C (1) (.inr (4, [.null, .int 0])) := ⟨_, rfl⟩
  rw [← hC1] at G
  have hk1 : C1 0 = .inr (6, [.null, .null, .null, .null, .null]) := by rw [hC1, va_up_ne _ _ (by omega)]; exact hC
  have hr1 : C1 (1) = .inr (4, [.null, .int 0]) := by rw [hC1, va_up_self]
  refine lv_dup S.1 S.2.1 d_D_init_8 rfl ?_
  refine fk_bcn hg S E O h0 (by omega) G (rest := [.ref (fk_a g 1), .ref (fk_a g 0)]) (n0 := 0) (b_Ni l g hg C1 hr1) i_28 i_27 i_2 (by decide +kernel) rfl (List.mem_of_getElem? (i := 0) rfl) ⟨rfl, rfl⟩ ⟨by decide, by decide⟩ rfl rfl hl.1 (Nat.le_of_ble_eq_true rfl) d_D_init_9 ⟨by decide, by decide⟩ (fun H locs G => ?_)
  obtain ⟨C2, hC2⟩ : ∃ z : Nat → va_E, z = fk_mix g (1) C1 := ⟨_, rfl⟩
  rw [← hC2] at G
  have hk2 : C2 0 = .inr (6, [.null, .null, .null, .null, .null]) := by rw [hC2, fk_mix_lt (by omega)]; exact hk1
  refine fk_bpF hg S E hnm G 0 (by omega) hk2 rfl 0 (by decide) rfl i_201 rfl (v := .ref (fk_a g 1)) (fs' := [.ref (fk_a g 1), .null, .null, .null, .null]) rfl (ty := (.object "FlowDesk$Network")) (by decide +kernel) rfl rfl (Nat.le_of_ble_eq_true rfl) d_D_init_12 (fun H locs G => ?_)
  obtain ⟨C3, hC3⟩ : ∃ z : Nat → va_E, z = va_up C2 0 (.inr (6, [.ref (fk_a g 1), .null, .null, .null, .null])) := ⟨_, rfl⟩
  rw [← hC3] at G
  have hk3 : C3 0 = .inr (6, [.ref (fk_a g 1), .null, .null, .null, .null]) := by rw [hC3, va_up_self]
  refine lv_aload_n S.1 S.2.1 d_D_init_15 rfl (lv_at hl 0 rfl) ?_
  refine fk_bnew hg S E h0 (by omega) G (ci := 5) rfl p_W bd_W i_125 i_126 i_5 ⟨by decide, by decide⟩ d_D_init_16 (fun H G => ?_)
  obtain ⟨C4, hC4⟩ : ∃ z : Nat → va_E, z = va_up C3 (75) (.inr (5, [.null, .null, .null, .int 0, .null])) := ⟨_, rfl⟩
  rw [← hC4] at G
  have hk4 : C4 0 = .inr (6, [.ref (fk_a g 1), .null, .null, .null, .null]) := by rw [hC4, va_up_ne _ _ (by omega)]; exact hk3
  have hr4 : C4 (75) = .inr (5, [.null, .null, .null, .int 0, .null]) := by rw [hC4, va_up_self]
  refine lv_dup S.1 S.2.1 d_D_init_19 rfl ?_
  refine lv_aload_n S.1 S.2.1 d_D_init_20 rfl (lv_at hl 0 rfl) ?_
  refine fk_bget S E G 0 (by omega) hk4 rfl 0 (by decide) rfl i_201 rfl d_D_init_21 ?_
  refine fk_bcn hg S E O h0 (by omega) G (rest := [.ref (fk_a g 75), .ref (fk_a g 0)]) (n0 := 1) (b_Wi l g hg C4 hr4) i_129 i_128 i_5 (by decide +kernel) rfl (List.mem_of_getElem? (i := 3) rfl) ⟨rfl, rfl⟩ ⟨by decide, by decide⟩ rfl rfl hl.1 (Nat.le_of_ble_eq_true rfl) d_D_init_24 ⟨by decide, by decide⟩ (fun H locs G => ?_)
  obtain ⟨C5, hC5⟩ : ∃ z : Nat → va_E, z = fk_mix g (75) C4 := ⟨_, rfl⟩
  rw [← hC5] at G
  have hk5 : C5 0 = .inr (6, [.ref (fk_a g 1), .null, .null, .null, .null]) := by rw [hC5, fk_mix_lt (by omega)]; exact hk4
  refine fk_bpF hg S E hnm G 0 (by omega) hk5 rfl 1 (by decide) rfl i_202 rfl (v := .ref (fk_a g 75)) (fs' := [.ref (fk_a g 1), .ref (fk_a g 75), .null, .null, .null]) rfl (ty := (.object "FlowDesk$Waiting")) (by decide +kernel) rfl rfl (Nat.le_of_ble_eq_true rfl) d_D_init_27 (fun H locs G => ?_)
  obtain ⟨C6, hC6⟩ : ∃ z : Nat → va_E, z = va_up C5 0 (.inr (6, [.ref (fk_a g 1), .ref (fk_a g 75), .null, .null, .null])) := ⟨_, rfl⟩
  rw [← hC6] at G
  have hk6 : C6 0 = .inr (6, [.ref (fk_a g 1), .ref (fk_a g 75), .null, .null, .null]) := by rw [hC6, va_up_self]
  refine lv_aload_n S.1 S.2.1 d_D_init_30 rfl (lv_at hl 0 rfl) ?_
  refine fk_bnew hg S E h0 (by omega) G (ci := 0) rfl p_K bd_K i_150 i_151 i_6 ⟨by decide, by decide⟩ d_D_init_31 (fun H G => ?_)
  obtain ⟨C7, hC7⟩ : ∃ z : Nat → va_E, z = va_up C6 (79) (.inr (0, [.null, .null, .null, .null, .int 0, .int 0, .int 0])) := ⟨_, rfl⟩
  rw [← hC7] at G
  have hk7 : C7 0 = .inr (6, [.ref (fk_a g 1), .ref (fk_a g 75), .null, .null, .null]) := by rw [hC7, va_up_ne _ _ (by omega)]; exact hk6
  have hr7 : C7 (79) = .inr (0, [.null, .null, .null, .null, .int 0, .int 0, .int 0]) := by rw [hC7, va_up_self]
  refine lv_dup S.1 S.2.1 d_D_init_34 rfl ?_
  refine lv_aload_n S.1 S.2.1 d_D_init_35 rfl (lv_at hl 0 rfl) ?_
  refine fk_bget S E G 0 (by omega) hk7 rfl 0 (by decide) rfl i_201 rfl d_D_init_36 ?_
  refine lv_aload_n S.1 S.2.1 d_D_init_39 rfl (lv_at hl 0 rfl) ?_
  refine fk_bget S E G 0 (by omega) hk7 rfl 1 (by decide) rfl i_202 rfl d_D_init_40 ?_
  refine fk_bcn hg S E O h0 (by omega) G (rest := [.ref (fk_a g 79), .ref (fk_a g 0)]) (n0 := 2) (b_Ki l g hg C7 hr7) i_154 i_153 i_6 (by decide +kernel) rfl (List.mem_of_getElem? (i := 4) rfl) ⟨rfl, rfl⟩ ⟨by decide, by decide⟩ rfl rfl hl.1 (Nat.le_of_ble_eq_true rfl) d_D_init_43 ⟨by decide, by decide⟩ (fun H locs G => ?_)
  obtain ⟨C8, hC8⟩ : ∃ z : Nat → va_E, z = fk_mix g (79) C7 := ⟨_, rfl⟩
  rw [← hC8] at G
  have hk8 : C8 0 = .inr (6, [.ref (fk_a g 1), .ref (fk_a g 75), .null, .null, .null]) := by rw [hC8, fk_mix_lt (by omega)]; exact hk7
  refine fk_bpF hg S E hnm G 0 (by omega) hk8 rfl 2 (by decide) rfl i_203 rfl (v := .ref (fk_a g 79)) (fs' := [.ref (fk_a g 1), .ref (fk_a g 75), .ref (fk_a g 79), .null, .null]) rfl (ty := (.object "FlowDesk$Checker")) (by decide +kernel) rfl rfl (Nat.le_of_ble_eq_true rfl) d_D_init_46 (fun H locs G => ?_)
  obtain ⟨C9, hC9⟩ : ∃ z : Nat → va_E, z = va_up C8 0 (.inr (6, [.ref (fk_a g 1), .ref (fk_a g 75), .ref (fk_a g 79), .null, .null])) := ⟨_, rfl⟩
  rw [← hC9] at G
  have hk9 : C9 0 = .inr (6, [.ref (fk_a g 1), .ref (fk_a g 75), .ref (fk_a g 79), .null, .null]) := by rw [hC9, va_up_self]
  refine lv_aload_n S.1 S.2.1 d_D_init_49 rfl (lv_at hl 0 rfl) ?_
  refine fk_bnew hg S E h0 (by omega) G (ci := 1) rfl p_C bd_C i_182 i_183 i_7 ⟨by decide, by decide⟩ d_D_init_50 (fun H G => ?_)
  obtain ⟨C10, hC10⟩ : ∃ z : Nat → va_E, z = va_up C9 (82) (.inr (1, [.null, .null, .null])) := ⟨_, rfl⟩
  rw [← hC10] at G
  have hk10 : C10 0 = .inr (6, [.ref (fk_a g 1), .ref (fk_a g 75), .ref (fk_a g 79), .null, .null]) := by rw [hC10, va_up_ne _ _ (by omega)]; exact hk9
  have hr10 : C10 (82) = .inr (1, [.null, .null, .null]) := by rw [hC10, va_up_self]
  refine lv_dup S.1 S.2.1 d_D_init_53 rfl ?_
  refine lv_aload_n S.1 S.2.1 d_D_init_54 rfl (lv_at hl 0 rfl) ?_
  refine fk_bget S E G 0 (by omega) hk10 rfl 0 (by decide) rfl i_201 rfl d_D_init_55 ?_
  refine lv_aload_n S.1 S.2.1 d_D_init_58 rfl (lv_at hl 0 rfl) ?_
  refine fk_bget S E G 0 (by omega) hk10 rfl 1 (by decide) rfl i_202 rfl d_D_init_59 ?_
  refine fk_bcn hg S E O h0 (by omega) G (rest := [.ref (fk_a g 82), .ref (fk_a g 0)]) (n0 := 2) (b_Ci l g hg C10 hr10) i_186 i_185 i_7 (by decide +kernel) rfl (List.mem_of_getElem? (i := 5) rfl) ⟨rfl, rfl⟩ ⟨by decide, by decide⟩ rfl rfl hl.1 (Nat.le_of_ble_eq_true rfl) d_D_init_62 ⟨by decide, by decide⟩ (fun H locs G => ?_)
  obtain ⟨C11, hC11⟩ : ∃ z : Nat → va_E, z = fk_mix g (82) C10 := ⟨_, rfl⟩
  rw [← hC11] at G
  have hk11 : C11 0 = .inr (6, [.ref (fk_a g 1), .ref (fk_a g 75), .ref (fk_a g 79), .null, .null]) := by rw [hC11, fk_mix_lt (by omega)]; exact hk10
  refine fk_bpF hg S E hnm G 0 (by omega) hk11 rfl 3 (by decide) rfl i_204 rfl (v := .ref (fk_a g 82)) (fs' := [.ref (fk_a g 1), .ref (fk_a g 75), .ref (fk_a g 79), .ref (fk_a g 82), .null]) rfl (ty := (.object "FlowDesk$Clockwork")) (by decide +kernel) rfl rfl (Nat.le_of_ble_eq_true rfl) d_D_init_65 (fun H locs G => ?_)
  obtain ⟨C12, hC12⟩ : ∃ z : Nat → va_E, z = va_up C11 0 (.inr (6, [.ref (fk_a g 1), .ref (fk_a g 75), .ref (fk_a g 79), .ref (fk_a g 82), .null])) := ⟨_, rfl⟩
  rw [← hC12] at G
  have hk12 : C12 0 = .inr (6, [.ref (fk_a g 1), .ref (fk_a g 75), .ref (fk_a g 79), .ref (fk_a g 82), .null]) := by rw [hC12, va_up_self]
  refine lv_aload_n S.1 S.2.1 d_D_init_68 rfl (lv_at hl 0 rfl) ?_
  refine fk_bnew hg S E h0 (by omega) G (ci := 2) rfl p_E bd_E i_199 i_38 i_4 ⟨by decide, by decide⟩ d_D_init_69 (fun H G => ?_)
  obtain ⟨C13, hC13⟩ : ∃ z : Nat → va_E, z = va_up C12 (84) (.inr (2, [.null, .null, .null, .null, .int 0])) := ⟨_, rfl⟩
  rw [← hC13] at G
  have hk13 : C13 0 = .inr (6, [.ref (fk_a g 1), .ref (fk_a g 75), .ref (fk_a g 79), .ref (fk_a g 82), .null]) := by rw [hC13, va_up_ne _ _ (by omega)]; exact hk12
  have hr13 : C13 (84) = .inr (2, [.null, .null, .null, .null, .int 0]) := by rw [hC13, va_up_self]
  refine lv_dup S.1 S.2.1 d_D_init_72 rfl ?_
  refine fk_bcn hg S E O h0 (by omega) G (rest := [.ref (fk_a g 84), .ref (fk_a g 0)]) (n0 := 0) (b_Ei l g hg C13 84 (Or.inl rfl) hr13) i_41 i_40 i_4 (by decide +kernel) rfl (List.mem_of_getElem? (i := 6) rfl) ⟨rfl, rfl⟩ ⟨by decide, by decide⟩ rfl rfl hl.1 (Nat.le_of_ble_eq_true rfl) d_D_init_73 ⟨by decide, by decide⟩ (fun H locs G => ?_)
  obtain ⟨C14, hC14⟩ : ∃ z : Nat → va_E, z = fk_mix g (84) C13 := ⟨_, rfl⟩
  rw [← hC14] at G
  have hk14 : C14 0 = .inr (6, [.ref (fk_a g 1), .ref (fk_a g 75), .ref (fk_a g 79), .ref (fk_a g 82), .null]) := by rw [hC14, fk_mix_lt (by omega)]; exact hk13
  refine fk_bp hg S E G 0 (by omega) hk14 rfl 4 (by decide) rfl i_205 rfl (v := .ref (fk_a g 84)) (fs' := [.ref (fk_a g 1), .ref (fk_a g 75), .ref (fk_a g 79), .ref (fk_a g 82), .ref (fk_a g 84)]) rfl (ty := (.object "FlowDesk$Expression")) (by decide +kernel) rfl rfl (Nat.le_of_ble_eq_true rfl) d_D_init_76 (fun H locs G => ?_)
  obtain ⟨C15, hC15⟩ : ∃ z : Nat → va_E, z = va_up C14 0 (.inr (6, [.ref (fk_a g 1), .ref (fk_a g 75), .ref (fk_a g 79), .ref (fk_a g 82), .ref (fk_a g 84)])) := ⟨_, rfl⟩
  rw [← hC15] at G
  have hk15 : C15 0 = .inr (6, [.ref (fk_a g 1), .ref (fk_a g 75), .ref (fk_a g 79), .ref (fk_a g 82), .ref (fk_a g 84)]) := by rw [hC15, va_up_self]
  refine fk_bret hg S hr hlk E O h0 (by omega) G (by omega) (fun j hj => ?_) ⟨rfl, rfl⟩ d_D_init_79
  rcases (by omega : j < 0 ∨ j = 0 ∨ (1 ≤ j ∧ j < 75) ∨ (75 ≤ j ∧ j < 79) ∨ (79 ≤ j ∧ j < 82) ∨ (82 ≤ j ∧ j < 84) ∨ (84 ≤ j ∧ j < 89)) with h9 | h9 | ⟨h9, h8⟩ | ⟨h9, h8⟩ | ⟨h9, h8⟩ | ⟨h9, h8⟩ | ⟨h9, h8⟩
  · rw [fk_mix_lt h9, hC15, va_up_ne _ _ (by omega), hC14, fk_mix_lt (by omega), hC13, va_up_ne _ _ (by omega), hC12, va_up_ne _ _ (by omega), hC11, fk_mix_lt (by omega), hC10, va_up_ne _ _ (by omega), hC9, va_up_ne _ _ (by omega), hC8, fk_mix_lt (by omega), hC7, va_up_ne _ _ (by omega), hC6, va_up_ne _ _ (by omega), hC5, fk_mix_lt (by omega), hC4, va_up_ne _ _ (by omega), hC3, va_up_ne _ _ (by omega), hC2, fk_mix_lt (by omega), hC1, va_up_ne _ _ (by omega)]
  · subst h9
    rw [fk_mix_ge (Nat.le_refl _), hC15, va_up_self]
    exact fk_FD.symm
  · rw [fk_mix_ge (by omega), hC15, va_up_ne _ _ (by omega), hC14, fk_mix_lt (by omega), hC13, va_up_ne _ _ (by omega), hC12, va_up_ne _ _ (by omega), hC11, fk_mix_lt (by omega), hC10, va_up_ne _ _ (by omega), hC9, va_up_ne _ _ (by omega), hC8, fk_mix_lt (by omega), hC7, va_up_ne _ _ (by omega), hC6, va_up_ne _ _ (by omega), hC5, fk_mix_lt (by omega), hC4, va_up_ne _ _ (by omega), hC3, va_up_ne _ _ (by omega), hC2, fk_mix_ge (by omega)]
  · rw [fk_mix_ge (by omega), hC15, va_up_ne _ _ (by omega), hC14, fk_mix_lt (by omega), hC13, va_up_ne _ _ (by omega), hC12, va_up_ne _ _ (by omega), hC11, fk_mix_lt (by omega), hC10, va_up_ne _ _ (by omega), hC9, va_up_ne _ _ (by omega), hC8, fk_mix_lt (by omega), hC7, va_up_ne _ _ (by omega), hC6, va_up_ne _ _ (by omega), hC5, fk_mix_ge (by omega)]
  · rw [fk_mix_ge (by omega), hC15, va_up_ne _ _ (by omega), hC14, fk_mix_lt (by omega), hC13, va_up_ne _ _ (by omega), hC12, va_up_ne _ _ (by omega), hC11, fk_mix_lt (by omega), hC10, va_up_ne _ _ (by omega), hC9, va_up_ne _ _ (by omega), hC8, fk_mix_ge (by omega)]
  · rw [fk_mix_ge (by omega), hC15, va_up_ne _ _ (by omega), hC14, fk_mix_lt (by omega), hC13, va_up_ne _ _ (by omega), hC12, va_up_ne _ _ (by omega), hC11, fk_mix_ge (by omega)]
  · rw [fk_mix_ge (by omega), hC15, va_up_ne _ _ (by omega), hC14, fk_mix_ge (by omega)]
