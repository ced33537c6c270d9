/-! The constructors, each on the newest cell: behind it that cell and those that it made are finished. Written by wip/gen/s_born.py. -/
theorem bd_K : ∀ j, j < 7 → defaultValue (t_K j) = vp_V [.null, .null, .null, .null, .int 0, .int 0, .int 0] j := by
  intro j hj
  match j, hj with
  | 0, _ => rfl
  | 1, _ => rfl
  | 2, _ => rfl
  | 3, _ => rfl
  | 4, _ => rfl
  | 5, _ => rfl
  | 6, _ => rfl
  | n + 7, h => exact absurd h (by omega)
theorem bd_C : ∀ j, j < 3 → defaultValue (t_C j) = vp_V [.null, .null, .null] j := by
  intro j hj
  match j, hj with
  | 0, _ => rfl
  | 1, _ => rfl
  | 2, _ => rfl
  | n + 3, h => exact absurd h (by omega)
theorem bd_E : ∀ j, j < 5 → defaultValue (t_E j) = vp_V [.null, .null, .null, .null, .int 0] j := by
  intro j hj
  match j, hj with
  | 0, _ => rfl
  | 1, _ => rfl
  | 2, _ => rfl
  | 3, _ => rfl
  | 4, _ => rfl
  | n + 5, h => exact absurd h (by omega)
theorem bd_F : ∀ j, j < 7 → defaultValue (t_F j) = vp_V [.null, .int 0, .int 0, .int 0, .int 0, .int 0, .int 0] j := by
  intro j hj
  match j, hj with
  | 0, _ => rfl
  | 1, _ => rfl
  | 2, _ => rfl
  | 3, _ => rfl
  | 4, _ => rfl
  | 5, _ => rfl
  | 6, _ => rfl
  | n + 7, h => exact absurd h (by omega)
theorem bd_N : ∀ j, j < 2 → defaultValue (t_N j) = vp_V [.null, .int 0] j := by
  intro j hj
  match j, hj with
  | 0, _ => rfl
  | 1, _ => rfl
  | n + 2, h => exact absurd h (by omega)
theorem bd_W : ∀ j, j < 5 → defaultValue (t_W j) = vp_V [.null, .null, .null, .int 0, .null] j := by
  intro j hj
  match j, hj with
  | 0, _ => rfl
  | 1, _ => rfl
  | 2, _ => rfl
  | 3, _ => rfl
  | 4, _ => rfl
  | n + 5, h => exact absurd h (by omega)
theorem bd_D : ∀ j, j < 5 → defaultValue (t_D j) = vp_V [.null, .null, .null, .null, .null] j := by
  intro j hj
  match j, hj with
  | 0, _ => rfl
  | 1, _ => rfl
  | 2, _ => rfl
  | 3, _ => rfl
  | 4, _ => rfl
  | n + 5, h => exact absurd h (by omega)
theorem bd_M : ∀ j, j < 31 → defaultValue (t_M j) = vp_V [.int 0, .int 0, .null, .null, .null, .null, .null, .null, .null, .null, .null, .null, .null, .null, .null, .null, .null, .null, .null, .int 0, .null, .int 0, .int 0, .int 0, .int 0, .int 0, .null, .int 0, .null, .int 0, .int 0] j := by
  intro j hj
  match j, hj with
  | 0, _ => rfl
  | 1, _ => rfl
  | 2, _ => rfl
  | 3, _ => rfl
  | 4, _ => rfl
  | 5, _ => rfl
  | 6, _ => rfl
  | 7, _ => rfl
  | 8, _ => rfl
  | 9, _ => rfl
  | 10, _ => rfl
  | 11, _ => rfl
  | 12, _ => rfl
  | 13, _ => rfl
  | 14, _ => rfl
  | 15, _ => rfl
  | 16, _ => rfl
  | 17, _ => rfl
  | 18, _ => rfl
  | 19, _ => rfl
  | 20, _ => rfl
  | 21, _ => rfl
  | 22, _ => rfl
  | 23, _ => rfl
  | 24, _ => rfl
  | 25, _ => rfl
  | 26, _ => rfl
  | 27, _ => rfl
  | 28, _ => rfl
  | 29, _ => rfl
  | 30, _ => rfl
  | n + 31, h => exact absurd h (by omega)
theorem fk_ra0 {g : fk_G} {s : State} {H : Heap} (E : fk_E g s H) : s.vm.findClass ("[" ++ (newarray.typeOf ArrayType.int).toString) = some (g.2.1 0) := (E.2.1.2 0 _ rfl).2
theorem fk_ra1 {g : fk_G} {s : State} {H : Heap} (E : fk_E g s H) : s.vm.findClass ("[" ++ (newarray.typeOf ArrayType.boolean).toString) = some (g.2.1 1) := (E.2.1.2 1 _ rfl).2
theorem fk_ra2 {g : fk_G} {s : State} {H : Heap} (E : fk_E g s H) : s.vm.findClass ("[" ++ (newarray.typeOf ArrayType.long).toString) = some (g.2.1 2) := (E.2.1.2 2 _ rfl).2
theorem fk_rw0 : Cond.arrayClass (newarray.typeOf ArrayType.int) ∈ fk_ALL := fk_mt (List.mem_of_getElem? (i := 72) (by decide +kernel)) (by decide +kernel)
theorem fk_rw1 : Cond.arrayClass (newarray.typeOf ArrayType.boolean) ∈ fk_ALL := fk_mt (List.mem_of_getElem? (i := 181) (by decide +kernel)) (by decide +kernel)
theorem fk_rw2 : Cond.arrayClass (newarray.typeOf ArrayType.long) ∈ fk_ALL := fk_mt (List.mem_of_getElem? (i := 859) (by decide +kernel)) (by decide +kernel)
theorem fk_F40 {g : fk_G} {k : Nat} (hk : k < 110) (h : fk_kd k = 5) : fk_F g k = .inl (g.2.1 0, 40, .inl (fun _ => 0)) := by
  unfold fk_F
  rw [fk_M0_0 (fk_M0_arr k hk (Or.inl h))]
  exact congrArg (fk_ce g 0 k (fun _ => 0)) h
theorem fk_F12 {g : fk_G} {k : Nat} (hk : k < 110) (h : fk_kd k = 7) : fk_F g k = .inl (g.2.1 0, 12, .inl (fun _ => 0)) := by
  unfold fk_F
  rw [fk_M0_0 (fk_M0_arr k hk (Or.inr (Or.inl h)))]
  exact congrArg (fk_ce g 0 k (fun _ => 0)) h
theorem fk_Fb40 {g : fk_G} {k : Nat} (hk : k < 110) (h : fk_kd k = 9) : fk_F g k = .inl (g.2.1 1, 40, .inl (fun _ => 0)) := by
  unfold fk_F
  rw [fk_M0_0 (fk_M0_arr k hk (Or.inr (Or.inr (Or.inl h))))]
  exact congrArg (fk_ce g 0 k (fun _ => 0)) h
theorem fk_F25 {g : fk_G} {k : Nat} (hk : k < 110) (h : fk_kd k = 11) : fk_F g k = .inl (g.2.1 0, 25, .inl (fun _ => 0)) := by
  unfold fk_F
  rw [fk_M0_0 (fk_M0_arr k hk (Or.inr (Or.inr (Or.inr (Or.inl h)))))]
  exact congrArg (fk_ce g 0 k (fun _ => 0)) h
theorem fk_Fb12 {g : fk_G} {k : Nat} (hk : k < 110) (h : fk_kd k = 13) : fk_F g k = .inl (g.2.1 1, 12, .inl (fun _ => 0)) := by
  unfold fk_F
  rw [fk_M0_0 (fk_M0_arr k hk (Or.inr (Or.inr (Or.inr (Or.inr (Or.inl h))))))]
  exact congrArg (fk_ce g 0 k (fun _ => 0)) h
theorem fk_F480 {g : fk_G} {k : Nat} (hk : k < 110) (h : fk_kd k = 14) : fk_F g k = .inl (g.2.1 0, 480, .inl (fun _ => 0)) := by
  unfold fk_F
  rw [fk_M0_0 (fk_M0_arr k hk (Or.inr (Or.inr (Or.inr (Or.inr (Or.inr (Or.inl h)))))))]
  exact congrArg (fk_ce g 0 k (fun _ => 0)) h
theorem fk_Fb480 {g : fk_G} {k : Nat} (hk : k < 110) (h : fk_kd k = 15) : fk_F g k = .inl (g.2.1 1, 480, .inl (fun _ => 0)) := by
  unfold fk_F
  rw [fk_M0_0 (fk_M0_arr k hk (Or.inr (Or.inr (Or.inr (Or.inr (Or.inr (Or.inr (Or.inl h))))))))]
  exact congrArg (fk_ce g 0 k (fun _ => 0)) h
theorem fk_F64 {g : fk_G} {k : Nat} (hk : k < 110) (h : fk_kd k = 16) : fk_F g k = .inl (g.2.1 0, 64, .inl (fun _ => 0)) := by
  unfold fk_F
  rw [fk_M0_0 (fk_M0_arr k hk (Or.inr (Or.inr (Or.inr (Or.inr (Or.inr (Or.inr (Or.inr (Or.inl h)))))))))]
  exact congrArg (fk_ce g 0 k (fun _ => 0)) h
theorem fk_FE {g : fk_G} {k : Nat} (h : fk_X k) : fk_F g k = .inr (2, [.ref (fk_a g (k + 1)), .ref (fk_a g (k + 2)), .ref (fk_a g (k + 3)), .ref (fk_a g (k + 4)), .int 0]) := by
  unfold fk_F
  rw [fk_M0_0 (fk_M0_arr k (by have := fk_Xlt h; omega) (Or.inr (Or.inr (Or.inr (Or.inr (Or.inr (Or.inr (Or.inr (Or.inr (Or.inl (fk_kx0 h)))))))))))]
  exact congrArg (fk_ce g 0 k (fun _ => 0)) (fk_kx0 h)
theorem fk_FF {g : fk_G} {i : Nat} (h : i < 12) : fk_F g (3 + 6 * i) = .inr (3, [.ref (fk_a g (3 + 6 * i + 1)), .int 0, .int 0, .int 0, .int 0, .int 0, .int 0]) := by
  have e0 : fk_M0 (3 + 6 * i) 0 = nI (3 + 6 * i + 1) := by
    unfold fk_M0
    rw [if_neg (by omega), if_pos ⟨⟨by omega, by omega, by omega⟩, rfl⟩]
  have ez : ∀ j, j ≠ 0 → fk_M0 (3 + 6 * i) j = 0 := by
    intro j hj
    unfold fk_M0
    rw [if_neg (by omega), if_neg (by omega), if_neg (by omega)]
  unfold fk_F
  rw [fk_flow h e0 (by omega), ez 1 (by decide), ez 2 (by decide), ez 3 (by decide), ez 4 (by decide), ez 5 (by decide), ez 6 (by decide)]
theorem fk_FN {g : fk_G} : fk_F g 1 = .inr (4, [.ref (fk_a g 2), .int 0]) := by
  unfold fk_F
  rw [fk_M0_0 (by decide)]
  exact congrArg (fk_ce g 0 1 (fun _ => 0)) kd_1
theorem fk_FR {g : fk_G} : fk_F g 2 = .inl (g.2.1 3, 12, .inr (.inr (.inr (.inr (fun i => some (fk_a g (3 + 6 * i))))))) := congrArg (fk_ce g 0 2 (fk_M0 2)) kd_2
theorem fk_FW {g : fk_G} : fk_F g 75 = .inr (5, [.ref (fk_a g 1), .ref (fk_a g 76), .ref (fk_a g 77), .int 0, .ref (fk_a g 78)]) := by
  unfold fk_F
  rw [fk_M0_0 (by decide)]
  exact congrArg (fk_ce g 0 75 (fun _ => 0)) kd_75
theorem fk_FK {g : fk_G} : fk_F g 79 = .inr (0, [.ref (fk_a g 1), .ref (fk_a g 75), .ref (fk_a g 80), .ref (fk_a g 81), .int 0, .int (-1), .int (-1)]) := by
  refine (congrArg (fk_ce g 0 79 (fk_M0 79)) kd_79).trans ?_
  show Sum.inr (0, [_, _, _, _, Value.int (fk_M0 79 4), Value.int (fk_M0 79 5), Value.int (fk_M0 79 6)]) = _
  rw [show fk_M0 79 4 = 0 by decide +kernel, show fk_M0 79 5 = -1 by decide +kernel, show fk_M0 79 6 = -1 by decide +kernel]
theorem fk_FC {g : fk_G} : fk_F g 82 = .inr (1, [.ref (fk_a g 1), .ref (fk_a g 75), .ref (fk_a g 83)]) := congrArg (fk_ce g 0 82 (fk_M0 82)) kd_82
theorem fk_FD {g : fk_G} : fk_F g 0 = .inr (6, [.ref (fk_a g 1), .ref (fk_a g 75), .ref (fk_a g 79), .ref (fk_a g 82), .ref (fk_a g 84)]) := fk_desk (ov := 0) (M := fk_M0) (by decide +kernel) (by decide)
theorem fk_FM {g : fk_G} : fk_F g 89 = .inr (7, [.int 0, .int 0, .ref (fk_a g 90), .ref (fk_a g 91), .ref (fk_a g 92), .ref (fk_a g 93), .ref (fk_a g 94), .ref (fk_a g 95), .ref (fk_a g 96), .ref (fk_a g 97), .ref (fk_a g 98), .ref (fk_a g 99), .ref (fk_a g 100), .ref (fk_a g 101), .ref (fk_a g 102), .ref (fk_a g 103), .ref (fk_a g 104), .ref (fk_a g 105), .ref (fk_a g 106), .int 0, .ref (fk_a g 107), .int 0, .int 0, .int 0, .int (-1), .int (-1), .ref (fk_a g 108), .int 0, .ref (fk_a g 109), .int 0, .int 0]) := by
  refine (congrArg (fk_ce g 0 89 (fk_M0 89)) kd_89).trans ?_
  show Sum.inr (7, [Value.int (fk_M0 89 0), Value.int (fk_M0 89 1), Value.ref (fk_a g 90), Value.ref (fk_a g 91), Value.ref (fk_a g 92), Value.ref (fk_a g 93), Value.ref (fk_a g 94), Value.ref (fk_a g 95), Value.ref (fk_a g 96), Value.ref (fk_a g 97), Value.ref (fk_a g 98), Value.ref (fk_a g 99), Value.ref (fk_a g 100), Value.ref (fk_a g 101), Value.ref (fk_a g 102), Value.ref (fk_a g 103), Value.ref (fk_a g 104), Value.ref (fk_a g 105), Value.ref (fk_a g 106), Value.int (fk_M0 89 19), Value.ref (fk_a g 107), Value.int (fk_M0 89 21), Value.int (fk_M0 89 22), Value.int (fk_M0 89 23), Value.int (fk_M0 89 24), Value.int (fk_M0 89 25), Value.ref (fk_a g 108), Value.int (fk_M0 89 27), Value.ref (fk_a g 109), Value.int (fk_M0 89 29), Value.int (fk_M0 89 30)]) = _
  rw [show fk_M0 89 0 = 0 by decide +kernel, show fk_M0 89 1 = 0 by decide +kernel, show fk_M0 89 19 = 0 by decide +kernel, show fk_M0 89 21 = 0 by decide +kernel, show fk_M0 89 22 = 0 by decide +kernel, show fk_M0 89 23 = 0 by decide +kernel, show fk_M0 89 24 = -1 by decide +kernel, show fk_M0 89 25 = -1 by decide +kernel, show fk_M0 89 27 = 0 by decide +kernel, show fk_M0 89 29 = 0 by decide +kernel, show fk_M0 89 30 = 0 by decide +kernel]
theorem d_E_init_0 : decode b_E_init 0 = .ok (.aload_n 0, 1) := by decide +kernel
theorem d_E_init_1 : decode b_E_init 1 = .ok (.invokespecial 3, 3) := by decide +kernel
theorem d_E_init_4 : decode b_E_init 4 = .ok (.aload_n 0, 1) := by decide +kernel
theorem d_E_init_5 : decode b_E_init 5 = .ok (.bipush 40, 2) := by decide +kernel
theorem d_E_init_7 : decode b_E_init 7 = .ok (.newarray .int, 2) := by decide +kernel
theorem d_E_init_9 : decode b_E_init 9 = .ok (.putfield 9, 3) := by decide +kernel
theorem d_E_init_12 : decode b_E_init 12 = .ok (.aload_n 0, 1) := by decide +kernel
theorem d_E_init_13 : decode b_E_init 13 = .ok (.bipush 40, 2) := by decide +kernel
theorem d_E_init_15 : decode b_E_init 15 = .ok (.newarray .int, 2) := by decide +kernel
theorem d_E_init_17 : decode b_E_init 17 = .ok (.putfield 15, 3) := by decide +kernel
theorem d_E_init_20 : decode b_E_init 20 = .ok (.aload_n 0, 1) := by decide +kernel
theorem d_E_init_21 : decode b_E_init 21 = .ok (.bipush 40, 2) := by decide +kernel
theorem d_E_init_23 : decode b_E_init 23 = .ok (.newarray .int, 2) := by decide +kernel
theorem d_E_init_25 : decode b_E_init 25 = .ok (.putfield 18, 3) := by decide +kernel
theorem d_E_init_28 : decode b_E_init 28 = .ok (.aload_n 0, 1) := by decide +kernel
theorem d_E_init_29 : decode b_E_init 29 = .ok (.bipush 40, 2) := by decide +kernel
theorem d_E_init_31 : decode b_E_init 31 = .ok (.newarray .int, 2) := by decide +kernel
theorem d_E_init_33 : decode b_E_init 33 = .ok (.putfield 21, 3) := by decide +kernel
theorem d_E_init_36 : decode b_E_init 36 = .ok (.return_, 1) := by decide +kernel
set_option maxHeartbeats 4000000 in
set_option maxRecDepth 100000 in
theorem b_Ei (l : Launch) (g : fk_G) (hg : fk_row g) (C : Nat → va_E) (k : Nat) (hX : fk_X k) (hC : C k = .inr (2, [.null, .null, .null, .null, .int 0])) : fk_CN l y_E_init b_E_init 1 (fk_rb9 2 4 160) g (k + 1) (k + 5) C (fk_mix g k C) [.ref (fk_a g k)] 4 160 := by
  refine fk_ofN rfl (Nat.le_of_ble_eq_true rfl) ?_
  intro p e s m args below meth c ls S hr hlk hnm E O h0 G hl
  have hl : lv_has ls 1 [(0, .ref (fk_a g k))] := hl
  refine lv_aload_n S.1 S.2.1 d_E_init_0 rfl (lv_at hl 0 rfl) ?_
  refine fk_bob S i_42 hl.1 ⟨by decide, by decide⟩ d_E_init_1 ?_
  refine lv_aload_n S.1 S.2.1 d_E_init_4 rfl (lv_at hl 0 rfl) ?_
  refine lv_bipush (v := nI 40) S.1 S.2.1 d_E_init_5 (by decide +kernel) ?_
  refine fk_bna hg S E h0 (by omega) G (atype := .int) fk_rw0 (fk_ra0 E) (N := 40) rfl (by decide) (a0 := (40, .inl (fun _ => 0))) rfl (by decide) ⟨by decide, by decide⟩ d_E_init_7 (fun H G => ?_)
  obtain ⟨C1, hC1⟩ : ∃ z : Nat → va_E, z = va_up C (k + 1) (.inl (g.2.1 0, 40, .inl (fun _ => 0))) := ⟨_, rfl⟩
  rw [← hC1] at G
  have hk1 : C1 k = .inr (2, [.null, .null, .null, .null, .int 0]) := by rw [hC1, va_up_ne _ _ (by omega)]; exact hC
  refine fk_bpF hg S E hnm G k (by omega) hk1 rfl 0 (by decide) rfl i_43 rfl (v := .ref (fk_a g (k + 1))) (fs' := [.ref (fk_a g (k + 1)), .null, .null, .null, .int 0]) rfl (ty := (.array .int)) (by decide +kernel) rfl rfl (Nat.le_of_ble_eq_true rfl) d_E_init_9 (fun H locs G => ?_)
  obtain ⟨C2, hC2⟩ : ∃ z : Nat → va_E, z = va_up C1 k (.inr (2, [.ref (fk_a g (k + 1)), .null, .null, .null, .int 0])) := ⟨_, rfl⟩
  rw [← hC2] at G
  have hk2 : C2 k = .inr (2, [.ref (fk_a g (k + 1)), .null, .null, .null, .int 0]) := by rw [hC2, va_up_self]
  refine lv_aload_n S.1 S.2.1 d_E_init_12 rfl (lv_at hl 0 rfl) ?_
  refine lv_bipush (v := nI 40) S.1 S.2.1 d_E_init_13 (by decide +kernel) ?_
  refine fk_bna hg S E h0 (by omega) G (atype := .int) fk_rw0 (fk_ra0 E) (N := 40) rfl (by decide) (a0 := (40, .inl (fun _ => 0))) rfl (by decide) ⟨by decide, by decide⟩ d_E_init_15 (fun H G => ?_)
  obtain ⟨C3, hC3⟩ : ∃ z : Nat → va_E, z = va_up C2 (k + 1 + 1) (.inl (g.2.1 0, 40, .inl (fun _ => 0))) := ⟨_, rfl⟩
  rw [← hC3] at G
  have hk3 : C3 k = .inr (2, [.ref (fk_a g (k + 1)), .null, .null, .null, .int 0]) := by rw [hC3, va_up_ne _ _ (by omega)]; exact hk2
  refine fk_bpF hg S E hnm G k (by omega) hk3 rfl 1 (by decide) rfl i_47 rfl (v := .ref (fk_a g (k + 1 + 1))) (fs' := [.ref (fk_a g (k + 1)), .ref (fk_a g (k + 1 + 1)), .null, .null, .int 0]) rfl (ty := (.array .int)) (by decide +kernel) rfl rfl (Nat.le_of_ble_eq_true rfl) d_E_init_17 (fun H locs G => ?_)
  obtain ⟨C4, hC4⟩ : ∃ z : Nat → va_E, z = va_up C3 k (.inr (2, [.ref (fk_a g (k + 1)), .ref (fk_a g (k + 1 + 1)), .null, .null, .int 0])) := ⟨_, rfl⟩
  rw [← hC4] at G
  have hk4 : C4 k = .inr (2, [.ref (fk_a g (k + 1)), .ref (fk_a g (k + 1 + 1)), .null, .null, .int 0]) := by rw [hC4, va_up_self]
  refine lv_aload_n S.1 S.2.1 d_E_init_20 rfl (lv_at hl 0 rfl) ?_
  refine lv_bipush (v := nI 40) S.1 S.2.1 d_E_init_21 (by decide +kernel) ?_
  refine fk_bna hg S E h0 (by omega) G (atype := .int) fk_rw0 (fk_ra0 E) (N := 40) rfl (by decide) (a0 := (40, .inl (fun _ => 0))) rfl (by decide) ⟨by decide, by decide⟩ d_E_init_23 (fun H G => ?_)
  obtain ⟨C5, hC5⟩ : ∃ z : Nat → va_E, z = va_up C4 (k + 1 + 1 + 1) (.inl (g.2.1 0, 40, .inl (fun _ => 0))) := ⟨_, rfl⟩
  rw [← hC5] at G
  have hk5 : C5 k = .inr (2, [.ref (fk_a g (k + 1)), .ref (fk_a g (k + 1 + 1)), .null, .null, .int 0]) := by rw [hC5, va_up_ne _ _ (by omega)]; exact hk4
  refine fk_bpF hg S E hnm G k (by omega) hk5 rfl 2 (by decide) rfl i_50 rfl (v := .ref (fk_a g (k + 1 + 1 + 1))) (fs' := [.ref (fk_a g (k + 1)), .ref (fk_a g (k + 1 + 1)), .ref (fk_a g (k + 1 + 1 + 1)), .null, .int 0]) rfl (ty := (.array .int)) (by decide +kernel) rfl rfl (Nat.le_of_ble_eq_true rfl) d_E_init_25 (fun H locs G => ?_)
  obtain ⟨C6, hC6⟩ : ∃ z : Nat → va_E, z = va_up C5 k (.inr (2, [.ref (fk_a g (k + 1)), .ref (fk_a g (k + 1 + 1)), .ref (fk_a g (k + 1 + 1 + 1)), .null, .int 0])) := ⟨_, rfl⟩
  rw [← hC6] at G
  have hk6 : C6 k = .inr (2, [.ref (fk_a g (k + 1)), .ref (fk_a g (k + 1 + 1)), .ref (fk_a g (k + 1 + 1 + 1)), .null, .int 0]) := by rw [hC6, va_up_self]
  refine lv_aload_n S.1 S.2.1 d_E_init_28 rfl (lv_at hl 0 rfl) ?_
  refine lv_bipush (v := nI 40) S.1 S.2.1 d_E_init_29 (by decide +kernel) ?_
  refine fk_bna hg S E h0 (by omega) G (atype := .int) fk_rw0 (fk_ra0 E) (N := 40) rfl (by decide) (a0 := (40, .inl (fun _ => 0))) rfl (by decide) ⟨by decide, by decide⟩ d_E_init_31 (fun H G => ?_)
  obtain ⟨C7, hC7⟩ : ∃ z : Nat → va_E, z = va_up C6 (k + 1 + 1 + 1 + 1) (.inl (g.2.1 0, 40, .inl (fun _ => 0))) := ⟨_, rfl⟩
  rw [← hC7] at G
  have hk7 : C7 k = .inr (2, [.ref (fk_a g (k + 1)), .ref (fk_a g (k + 1 + 1)), .ref (fk_a g (k + 1 + 1 + 1)), .null, .int 0]) := by rw [hC7, va_up_ne _ _ (by omega)]; exact hk6
  refine fk_bpF hg S E hnm G k (by omega) hk7 rfl 3 (by decide) rfl i_53 rfl (v := .ref (fk_a g (k + 1 + 1 + 1 + 1))) (fs' := [.ref (fk_a g (k + 1)), .ref (fk_a g (k + 1 + 1)), .ref (fk_a g (k + 1 + 1 + 1)), .ref (fk_a g (k + 1 + 1 + 1 + 1)), .int 0]) rfl (ty := (.array .int)) (by decide +kernel) rfl rfl (Nat.le_of_ble_eq_true rfl) d_E_init_33 (fun H locs G => ?_)
  obtain ⟨C8, hC8⟩ : ∃ z : Nat → va_E, z = va_up C7 k (.inr (2, [.ref (fk_a g (k + 1)), .ref (fk_a g (k + 1 + 1)), .ref (fk_a g (k + 1 + 1 + 1)), .ref (fk_a g (k + 1 + 1 + 1 + 1)), .int 0])) := ⟨_, rfl⟩
  rw [← hC8] at G
  have hk8 : C8 k = .inr (2, [.ref (fk_a g (k + 1)), .ref (fk_a g (k + 1 + 1)), .ref (fk_a g (k + 1 + 1 + 1)), .ref (fk_a g (k + 1 + 1 + 1 + 1)), .int 0]) := by rw [hC8, va_up_self]
  have hlt := fk_Xlt hX
  refine fk_bret hg S hr hlk E O h0 (by omega) G (by omega) (fun j hj => ?_) ⟨rfl, rfl⟩ d_E_init_36
  rcases (by omega : j < k ∨ j = k ∨ j = k + 1 ∨ j = k + 1 + 1 ∨ j = k + 1 + 1 + 1 ∨ j = k + 1 + 1 + 1 + 1) with h9 | h9 | h9 | h9 | h9 | h9
  · rw [fk_mix_lt h9, hC8, va_up_ne _ _ (by omega), hC7, va_up_ne _ _ (by omega), hC6, va_up_ne _ _ (by omega), hC5, va_up_ne _ _ (by omega), hC4, va_up_ne _ _ (by omega), hC3, va_up_ne _ _ (by omega), hC2, va_up_ne _ _ (by omega), hC1, va_up_ne _ _ (by omega)]
  · subst h9
    rw [fk_mix_ge (Nat.le_refl _), hC8, va_up_self]
    exact (fk_FE hX).symm
  · subst h9
    rw [fk_mix_ge (by omega), hC8, va_up_ne _ _ (by omega), hC7, va_up_ne _ _ (by omega), hC6, va_up_ne _ _ (by omega), hC5, va_up_ne _ _ (by omega), hC4, va_up_ne _ _ (by omega), hC3, va_up_ne _ _ (by omega), hC2, va_up_ne _ _ (by omega), hC1, va_up_self]
    exact (fk_F40 (by omega) (fk_kx1 hX)).symm
  · subst h9
    rw [fk_mix_ge (by omega), hC8, va_up_ne _ _ (by omega), hC7, va_up_ne _ _ (by omega), hC6, va_up_ne _ _ (by omega), hC5, va_up_ne _ _ (by omega), hC4, va_up_ne _ _ (by omega), hC3, va_up_self]
    exact (fk_F40 (by omega) (fk_kx2 hX)).symm
  · subst h9
    rw [fk_mix_ge (by omega), hC8, va_up_ne _ _ (by omega), hC7, va_up_ne _ _ (by omega), hC6, va_up_ne _ _ (by omega), hC5, va_up_self]
    exact (fk_F40 (by omega) (fk_kx3 hX)).symm
  · subst h9
    rw [fk_mix_ge (by omega), hC8, va_up_ne _ _ (by omega), hC7, va_up_self]
    exact (fk_F40 (by omega) (fk_kx4 hX)).symm
theorem d_F_init_0 : decode b_F_init 0 = .ok (.aload_n 0, 1) := by decide +kernel
theorem d_F_init_1 : decode b_F_init 1 = .ok (.invokespecial 1, 3) := by decide +kernel
theorem d_F_init_4 : decode b_F_init 4 = .ok (.aload_n 0, 1) := by decide +kernel
theorem d_F_init_5 : decode b_F_init 5 = .ok (.new 7, 3) := by decide +kernel
theorem d_F_init_8 : decode b_F_init 8 = .ok (.dup, 1) := by decide +kernel
theorem d_F_init_9 : decode b_F_init 9 = .ok (.invokespecial 9, 3) := by decide +kernel
theorem d_F_init_12 : decode b_F_init 12 = .ok (.putfield 10, 3) := by decide +kernel
theorem d_F_init_15 : decode b_F_init 15 = .ok (.return_, 1) := by decide +kernel
set_option maxHeartbeats 4000000 in
set_option maxRecDepth 100000 in
theorem b_Fi (l : Launch) (g : fk_G) (hg : fk_row g) (C : Nat → va_E) (i : Nat) (hi : i < 12) (hC : C (3 + 6 * i) = .inr (3, [.null, .int 0, .int 0, .int 0, .int 0, .int 0, .int 0])) : fk_CN l y_F_init b_F_init 1 (fk_rb9 4 5 165) g (3 + 6 * i + 1) (3 + 6 * i + 6) C (fk_mix g (3 + 6 * i) C) [.ref (fk_a g (3 + 6 * i))] 5 165 := by
  refine fk_ofN rfl (Nat.le_of_ble_eq_true rfl) ?_
  intro p e s m args below meth c ls S hr hlk hnm E O h0 G hl
  have hl : lv_has ls 1 [(0, .ref (fk_a g (3 + 6 * i)))] := hl
  refine lv_aload_n S.1 S.2.1 d_F_init_0 rfl (lv_at hl 0 rfl) ?_
  refine fk_bob S i_36 hl.1 ⟨by decide, by decide⟩ d_F_init_1 ?_
  refine lv_aload_n S.1 S.2.1 d_F_init_4 rfl (lv_at hl 0 rfl) ?_
  refine fk_bnew hg S E h0 (by omega) G (ci := 2) rfl p_E bd_E i_37 i_38 i_4 ⟨by decide, by decide⟩ d_F_init_5 (fun H G => ?_)
  obtain ⟨C1, hC1⟩ : ∃ z : Nat → va_E, z = va_up C (3 + 6 * i + 1) (.inr (2, [.null, .null, .null, .null, .int 0])) := ⟨_, rfl⟩
  rw [← hC1] at G
  have hk1 : C1 (3 + 6 * i) = .inr (3, [.null, .int 0, .int 0, .int 0, .int 0, .int 0, .int 0]) := by rw [hC1, va_up_ne _ _ (by omega)]; exact hC
  have hr1 : C1 (3 + 6 * i + 1) = .inr (2, [.null, .null, .null, .null, .int 0]) := by rw [hC1, va_up_self]
  refine lv_dup S.1 S.2.1 d_F_init_8 rfl ?_
  refine fk_bcn hg S E O h0 (by omega) G (rest := [.ref (fk_a g (3 + 6 * i + 1)), .ref (fk_a g (3 + 6 * i))]) (b_Ei l g hg C1 (3 + 6 * i + 1) (Or.inr ⟨i, hi, by omega⟩) hr1) i_41 i_40 i_4 (by decide +kernel) rfl (List.mem_of_getElem? (i := 2) rfl) ⟨rfl, rfl⟩ ⟨by decide, by decide⟩ rfl rfl hl.1 (Nat.le_of_ble_eq_true rfl) d_F_init_9 ⟨by decide, by decide⟩ (fun H locs G => ?_)
  obtain ⟨C2, hC2⟩ : ∃ z : Nat → va_E, z = fk_mix g (3 + 6 * i + 1) C1 := ⟨_, rfl⟩
  rw [← hC2] at G
  have hk2 : C2 (3 + 6 * i) = .inr (3, [.null, .int 0, .int 0, .int 0, .int 0, .int 0, .int 0]) := by rw [hC2, fk_mix_lt (by omega)]; exact hk1
  refine fk_bp hg S E G (3 + 6 * i) (by omega) hk2 rfl 0 (by decide) rfl i_73 rfl (v := .ref (fk_a g (3 + 6 * i + 1))) (fs' := [.ref (fk_a g (3 + 6 * i + 1)), .int 0, .int 0, .int 0, .int 0, .int 0, .int 0]) rfl (ty := (.object "FlowDesk$Expression")) (by decide +kernel) rfl rfl (Nat.le_of_ble_eq_true rfl) d_F_init_12 (fun H locs G => ?_)
  obtain ⟨C3, hC3⟩ : ∃ z : Nat → va_E, z = va_up C2 (3 + 6 * i) (.inr (3, [.ref (fk_a g (3 + 6 * i + 1)), .int 0, .int 0, .int 0, .int 0, .int 0, .int 0])) := ⟨_, rfl⟩
  rw [← hC3] at G
  have hk3 : C3 (3 + 6 * i) = .inr (3, [.ref (fk_a g (3 + 6 * i + 1)), .int 0, .int 0, .int 0, .int 0, .int 0, .int 0]) := by rw [hC3, va_up_self]
  refine fk_bret hg S hr hlk E O h0 (by omega) G (by omega) (fun j hj => ?_) ⟨rfl, rfl⟩ d_F_init_15
  rcases (by omega : j < 3 + 6 * i ∨ j = 3 + 6 * i ∨ (3 + 6 * i + 1 ≤ j ∧ j < 3 + 6 * i + 1 + 5)) with h9 | h9 | ⟨h9, h8⟩
  · rw [fk_mix_lt h9, hC3, va_up_ne _ _ (by omega), hC2, fk_mix_lt (by omega), hC1, va_up_ne _ _ (by omega)]
  · subst h9
    rw [fk_mix_ge (Nat.le_refl _), hC3, va_up_self]
    exact (fk_FF hi).symm
  · rw [fk_mix_ge (by omega), hC3, va_up_ne _ _ (by omega), hC2, fk_mix_ge (by omega)]
theorem d_W_init_0 : decode b_W_init 0 = .ok (.aload_n 0, 1) := by decide +kernel
theorem d_W_init_1 : decode b_W_init 1 = .ok (.invokespecial 3, 3) := by decide +kernel
theorem d_W_init_4 : decode b_W_init 4 = .ok (.aload_n 0, 1) := by decide +kernel
theorem d_W_init_5 : decode b_W_init 5 = .ok (.bipush 12, 2) := by decide +kernel
theorem d_W_init_7 : decode b_W_init 7 = .ok (.newarray .int, 2) := by decide +kernel
theorem d_W_init_9 : decode b_W_init 9 = .ok (.putfield 9, 3) := by decide +kernel
theorem d_W_init_12 : decode b_W_init 12 = .ok (.aload_n 0, 1) := by decide +kernel
theorem d_W_init_13 : decode b_W_init 13 = .ok (.bipush 12, 2) := by decide +kernel
theorem d_W_init_15 : decode b_W_init 15 = .ok (.newarray .int, 2) := by decide +kernel
theorem d_W_init_17 : decode b_W_init 17 = .ok (.putfield 15, 3) := by decide +kernel
theorem d_W_init_20 : decode b_W_init 20 = .ok (.aload_n 0, 1) := by decide +kernel
theorem d_W_init_21 : decode b_W_init 21 = .ok (.bipush 12, 2) := by decide +kernel
theorem d_W_init_23 : decode b_W_init 23 = .ok (.newarray .int, 2) := by decide +kernel
theorem d_W_init_25 : decode b_W_init 25 = .ok (.putfield 18, 3) := by decide +kernel
theorem d_W_init_28 : decode b_W_init 28 = .ok (.aload_n 0, 1) := by decide +kernel
theorem d_W_init_29 : decode b_W_init 29 = .ok (.aload_n 1, 1) := by decide +kernel
theorem d_W_init_30 : decode b_W_init 30 = .ok (.putfield 21, 3) := by decide +kernel
theorem d_W_init_33 : decode b_W_init 33 = .ok (.return_, 1) := by decide +kernel
set_option maxHeartbeats 4000000 in
set_option maxRecDepth 100000 in
theorem b_Wi (l : Launch) (g : fk_G) (hg : fk_row g) (C : Nat → va_E)  (hC : C 75 = .inr (5, [.null, .null, .null, .int 0, .null])) : fk_CN l y_W_init b_W_init 2 (fk_rb9 2 3 36) g (75 + 1) (79) C (fk_mix g 75 C) [.ref (fk_a g 75), .ref (fk_a g 1)] 3 36 := by
  refine fk_ofN rfl (Nat.le_of_ble_eq_true rfl) ?_
  intro p e s m args below meth c ls S hr hlk hnm E O h0 G hl
  have hl : lv_has ls 2 [(0, .ref (fk_a g 75)), (1, .ref (fk_a g 1))] := hl
  refine lv_aload_n S.1 S.2.1 d_W_init_0 rfl (lv_at hl 0 rfl) ?_
  refine fk_bob S i_130 hl.1 ⟨by decide, by decide⟩ d_W_init_1 ?_
  refine lv_aload_n S.1 S.2.1 d_W_init_4 rfl (lv_at hl 0 rfl) ?_
  refine lv_bipush (v := nI 12) S.1 S.2.1 d_W_init_5 (by decide +kernel) ?_
  refine fk_bna hg S E h0 (by omega) G (atype := .int) fk_rw0 (fk_ra0 E) (N := 12) rfl (by decide) (a0 := (12, .inl (fun _ => 0))) rfl (by decide) ⟨by decide, by decide⟩ d_W_init_7 (fun H G => ?_)
  obtain ⟨C1, hC1⟩ : ∃ z : Nat → va_E, z = va_up C (75 + 1) (.inl (g.2.1 0, 12, .inl (fun _ => 0))) := ⟨_, rfl⟩
  rw [← hC1] at G
  have hk1 : C1 75 = .inr (5, [.null, .null, .null, .int 0, .null]) := by rw [hC1, va_up_ne _ _ (by omega)]; exact hC
  refine fk_bpF hg S E hnm G 75 (by omega) hk1 rfl 1 (by decide) rfl i_132 rfl (v := .ref (fk_a g (75 + 1))) (fs' := [.null, .ref (fk_a g (75 + 1)), .null, .int 0, .null]) rfl (ty := (.array .int)) (by decide +kernel) rfl rfl (Nat.le_of_ble_eq_true rfl) d_W_init_9 (fun H locs G => ?_)
  obtain ⟨C2, hC2⟩ : ∃ z : Nat → va_E, z = va_up C1 75 (.inr (5, [.null, .ref (fk_a g (75 + 1)), .null, .int 0, .null])) := ⟨_, rfl⟩
  rw [← hC2] at G
  have hk2 : C2 75 = .inr (5, [.null, .ref (fk_a g (75 + 1)), .null, .int 0, .null]) := by rw [hC2, va_up_self]
  refine lv_aload_n S.1 S.2.1 d_W_init_12 rfl (lv_at hl 0 rfl) ?_
  refine lv_bipush (v := nI 12) S.1 S.2.1 d_W_init_13 (by decide +kernel) ?_
  refine fk_bna hg S E h0 (by omega) G (atype := .int) fk_rw0 (fk_ra0 E) (N := 12) rfl (by decide) (a0 := (12, .inl (fun _ => 0))) rfl (by decide) ⟨by decide, by decide⟩ d_W_init_15 (fun H G => ?_)
  obtain ⟨C3, hC3⟩ : ∃ z : Nat → va_E, z = va_up C2 (75 + 1 + 1) (.inl (g.2.1 0, 12, .inl (fun _ => 0))) := ⟨_, rfl⟩
  rw [← hC3] at G
  have hk3 : C3 75 = .inr (5, [.null, .ref (fk_a g (75 + 1)), .null, .int 0, .null]) := by rw [hC3, va_up_ne _ _ (by omega)]; exact hk2
  refine fk_bpF hg S E hnm G 75 (by omega) hk3 rfl 2 (by decide) rfl i_133 rfl (v := .ref (fk_a g (75 + 1 + 1))) (fs' := [.null, .ref (fk_a g (75 + 1)), .ref (fk_a g (75 + 1 + 1)), .int 0, .null]) rfl (ty := (.array .int)) (by decide +kernel) rfl rfl (Nat.le_of_ble_eq_true rfl) d_W_init_17 (fun H locs G => ?_)
  obtain ⟨C4, hC4⟩ : ∃ z : Nat → va_E, z = va_up C3 75 (.inr (5, [.null, .ref (fk_a g (75 + 1)), .ref (fk_a g (75 + 1 + 1)), .int 0, .null])) := ⟨_, rfl⟩
  rw [← hC4] at G
  have hk4 : C4 75 = .inr (5, [.null, .ref (fk_a g (75 + 1)), .ref (fk_a g (75 + 1 + 1)), .int 0, .null]) := by rw [hC4, va_up_self]
  refine lv_aload_n S.1 S.2.1 d_W_init_20 rfl (lv_at hl 0 rfl) ?_
  refine lv_bipush (v := nI 12) S.1 S.2.1 d_W_init_21 (by decide +kernel) ?_
  refine fk_bna hg S E h0 (by omega) G (atype := .int) fk_rw0 (fk_ra0 E) (N := 12) rfl (by decide) (a0 := (12, .inl (fun _ => 0))) rfl (by decide) ⟨by decide, by decide⟩ d_W_init_23 (fun H G => ?_)
  obtain ⟨C5, hC5⟩ : ∃ z : Nat → va_E, z = va_up C4 (75 + 1 + 1 + 1) (.inl (g.2.1 0, 12, .inl (fun _ => 0))) := ⟨_, rfl⟩
  rw [← hC5] at G
  have hk5 : C5 75 = .inr (5, [.null, .ref (fk_a g (75 + 1)), .ref (fk_a g (75 + 1 + 1)), .int 0, .null]) := by rw [hC5, va_up_ne _ _ (by omega)]; exact hk4
  refine fk_bpF hg S E hnm G 75 (by omega) hk5 rfl 4 (by decide) rfl i_137 rfl (v := .ref (fk_a g (75 + 1 + 1 + 1))) (fs' := [.null, .ref (fk_a g (75 + 1)), .ref (fk_a g (75 + 1 + 1)), .int 0, .ref (fk_a g (75 + 1 + 1 + 1))]) rfl (ty := (.array .int)) (by decide +kernel) rfl rfl (Nat.le_of_ble_eq_true rfl) d_W_init_25 (fun H locs G => ?_)
  obtain ⟨C6, hC6⟩ : ∃ z : Nat → va_E, z = va_up C5 75 (.inr (5, [.null, .ref (fk_a g (75 + 1)), .ref (fk_a g (75 + 1 + 1)), .int 0, .ref (fk_a g (75 + 1 + 1 + 1))])) := ⟨_, rfl⟩
  rw [← hC6] at G
  have hk6 : C6 75 = .inr (5, [.null, .ref (fk_a g (75 + 1)), .ref (fk_a g (75 + 1 + 1)), .int 0, .ref (fk_a g (75 + 1 + 1 + 1))]) := by rw [hC6, va_up_self]
  refine lv_aload_n S.1 S.2.1 d_W_init_28 rfl (lv_at hl 0 rfl) ?_
  refine lv_aload_n S.1 S.2.1 d_W_init_29 rfl (lv_at hl 1 rfl) ?_
  refine fk_bpF hg S E hnm G 75 (by omega) hk6 rfl 0 (by decide) rfl i_131 rfl (v := .ref (fk_a g 1)) (fs' := [.ref (fk_a g 1), .ref (fk_a g (75 + 1)), .ref (fk_a g (75 + 1 + 1)), .int 0, .ref (fk_a g (75 + 1 + 1 + 1))]) rfl (ty := (.object "FlowDesk$Network")) (by decide +kernel) rfl rfl (Nat.le_of_ble_eq_true rfl) d_W_init_30 (fun H locs G => ?_)
  obtain ⟨C7, hC7⟩ : ∃ z : Nat → va_E, z = va_up C6 75 (.inr (5, [.ref (fk_a g 1), .ref (fk_a g (75 + 1)), .ref (fk_a g (75 + 1 + 1)), .int 0, .ref (fk_a g (75 + 1 + 1 + 1))])) := ⟨_, rfl⟩
  rw [← hC7] at G
  have hk7 : C7 75 = .inr (5, [.ref (fk_a g 1), .ref (fk_a g (75 + 1)), .ref (fk_a g (75 + 1 + 1)), .int 0, .ref (fk_a g (75 + 1 + 1 + 1))]) := by rw [hC7, va_up_self]
  refine fk_bret hg S hr hlk E O h0 (by omega) G (by omega) (fun j hj => ?_) ⟨rfl, rfl⟩ d_W_init_33
  rcases (by omega : j < 75 ∨ j = 75 ∨ j = 75 + 1 ∨ j = 75 + 1 + 1 ∨ j = 75 + 1 + 1 + 1) with h9 | h9 | h9 | h9 | h9
  · rw [fk_mix_lt h9, hC7, va_up_ne _ _ (by omega), hC6, va_up_ne _ _ (by omega), hC5, va_up_ne _ _ (by omega), hC4, va_up_ne _ _ (by omega), hC3, va_up_ne _ _ (by omega), hC2, va_up_ne _ _ (by omega), hC1, va_up_ne _ _ (by omega)]
  · subst h9
    rw [fk_mix_ge (Nat.le_refl _), hC7, va_up_self]
    exact fk_FW.symm
  · subst h9
    rw [fk_mix_ge (by omega), hC7, va_up_ne _ _ (by omega), hC6, va_up_ne _ _ (by omega), hC5, va_up_ne _ _ (by omega), hC4, va_up_ne _ _ (by omega), hC3, va_up_ne _ _ (by omega), hC2, va_up_ne _ _ (by omega), hC1, va_up_self]
    exact (fk_F12 (by omega) (by decide +kernel)).symm
  · subst h9
    rw [fk_mix_ge (by omega), hC7, va_up_ne _ _ (by omega), hC6, va_up_ne _ _ (by omega), hC5, va_up_ne _ _ (by omega), hC4, va_up_ne _ _ (by omega), hC3, va_up_self]
    exact (fk_F12 (by omega) (by decide +kernel)).symm
  · subst h9
    rw [fk_mix_ge (by omega), hC7, va_up_ne _ _ (by omega), hC6, va_up_ne _ _ (by omega), hC5, va_up_self]
    exact (fk_F12 (by omega) (by decide +kernel)).symm
theorem d_K_init_0 : decode b_K_init 0 = .ok (.aload_n 0, 1) := by decide +kernel
theorem d_K_init_1 : decode b_K_init 1 = .ok (.invokespecial 3, 3) := by decide +kernel
theorem d_K_init_4 : decode b_K_init 4 = .ok (.aload_n 0, 1) := by decide +kernel
theorem d_K_init_5 : decode b_K_init 5 = .ok (.bipush 40, 2) := by decide +kernel
theorem d_K_init_7 : decode b_K_init 7 = .ok (.newarray .int, 2) := by decide +kernel
theorem d_K_init_9 : decode b_K_init 9 = .ok (.putfield 9, 3) := by decide +kernel
theorem d_K_init_12 : decode b_K_init 12 = .ok (.aload_n 0, 1) := by decide +kernel
theorem d_K_init_13 : decode b_K_init 13 = .ok (.bipush 40, 2) := by decide +kernel
theorem d_K_init_15 : decode b_K_init 15 = .ok (.newarray .boolean, 2) := by decide +kernel
theorem d_K_init_17 : decode b_K_init 17 = .ok (.putfield 15, 3) := by decide +kernel
theorem d_K_init_20 : decode b_K_init 20 = .ok (.aload_n 0, 1) := by decide +kernel
theorem d_K_init_21 : decode b_K_init 21 = .ok (.iconst (-1), 1) := by decide +kernel
theorem d_K_init_22 : decode b_K_init 22 = .ok (.putfield 19, 3) := by decide +kernel
theorem d_K_init_25 : decode b_K_init 25 = .ok (.aload_n 0, 1) := by decide +kernel
theorem d_K_init_26 : decode b_K_init 26 = .ok (.iconst (-1), 1) := by decide +kernel
theorem d_K_init_27 : decode b_K_init 27 = .ok (.putfield 23, 3) := by decide +kernel
theorem d_K_init_30 : decode b_K_init 30 = .ok (.aload_n 0, 1) := by decide +kernel
theorem d_K_init_31 : decode b_K_init 31 = .ok (.aload_n 1, 1) := by decide +kernel
theorem d_K_init_32 : decode b_K_init 32 = .ok (.putfield 26, 3) := by decide +kernel
theorem d_K_init_35 : decode b_K_init 35 = .ok (.aload_n 0, 1) := by decide +kernel
theorem d_K_init_36 : decode b_K_init 36 = .ok (.aload_n 2, 1) := by decide +kernel
theorem d_K_init_37 : decode b_K_init 37 = .ok (.putfield 30, 3) := by decide +kernel
theorem d_K_init_40 : decode b_K_init 40 = .ok (.return_, 1) := by decide +kernel
set_option maxHeartbeats 4000000 in
set_option maxRecDepth 100000 in
theorem b_Ki (l : Launch) (g : fk_G) (hg : fk_row g) (C : Nat → va_E)  (hC : C 79 = .inr (0, [.null, .null, .null, .null, .int 0, .int 0, .int 0])) : fk_CN l y_K_init b_K_init 3 (fk_rb9 2 2 80) g (79 + 1) (82) C (fk_mix g 79 C) [.ref (fk_a g 79), .ref (fk_a g 1), .ref (fk_a g 75)] 2 80 := by
  refine fk_ofN rfl (Nat.le_of_ble_eq_true rfl) ?_
  intro p e s m args below meth c ls S hr hlk hnm E O h0 G hl
  have hl : lv_has ls 3 [(0, .ref (fk_a g 79)), (1, .ref (fk_a g 1)), (2, .ref (fk_a g 75))] := hl
  refine lv_aload_n S.1 S.2.1 d_K_init_0 rfl (lv_at hl 0 rfl) ?_
  refine fk_bob S i_155 hl.1 ⟨by decide, by decide⟩ d_K_init_1 ?_
  refine lv_aload_n S.1 S.2.1 d_K_init_4 rfl (lv_at hl 0 rfl) ?_
  refine lv_bipush (v := nI 40) S.1 S.2.1 d_K_init_5 (by decide +kernel) ?_
  refine fk_bna hg S E h0 (by omega) G (atype := .int) fk_rw0 (fk_ra0 E) (N := 40) rfl (by decide) (a0 := (40, .inl (fun _ => 0))) rfl (by decide) ⟨by decide, by decide⟩ d_K_init_7 (fun H G => ?_)
  obtain ⟨C1, hC1⟩ : ∃ z : Nat → va_E, z = va_up C (79 + 1) (.inl (g.2.1 0, 40, .inl (fun _ => 0))) := ⟨_, rfl⟩
  rw [← hC1] at G
  have hk1 : C1 79 = .inr (0, [.null, .null, .null, .null, .int 0, .int 0, .int 0]) := by rw [hC1, va_up_ne _ _ (by omega)]; exact hC
  refine fk_bpF hg S E hnm G 79 (by omega) hk1 rfl 2 (by decide) rfl i_158 rfl (v := .ref (fk_a g (79 + 1))) (fs' := [.null, .null, .ref (fk_a g (79 + 1)), .null, .int 0, .int 0, .int 0]) rfl (ty := (.array .int)) (by decide +kernel) rfl rfl (Nat.le_of_ble_eq_true rfl) d_K_init_9 (fun H locs G => ?_)
  obtain ⟨C2, hC2⟩ : ∃ z : Nat → va_E, z = va_up C1 79 (.inr (0, [.null, .null, .ref (fk_a g (79 + 1)), .null, .int 0, .int 0, .int 0])) := ⟨_, rfl⟩
  rw [← hC2] at G
  have hk2 : C2 79 = .inr (0, [.null, .null, .ref (fk_a g (79 + 1)), .null, .int 0, .int 0, .int 0]) := by rw [hC2, va_up_self]
  refine lv_aload_n S.1 S.2.1 d_K_init_12 rfl (lv_at hl 0 rfl) ?_
  refine lv_bipush (v := nI 40) S.1 S.2.1 d_K_init_13 (by decide +kernel) ?_
  refine fk_bna hg S E h0 (by omega) G (atype := .boolean) fk_rw1 (fk_ra1 E) (N := 40) rfl (by decide) (a0 := (40, .inl (fun _ => 0))) rfl (by decide) ⟨by decide, by decide⟩ d_K_init_15 (fun H G => ?_)
  obtain ⟨C3, hC3⟩ : ∃ z : Nat → va_E, z = va_up C2 (79 + 1 + 1) (.inl (g.2.1 1, 40, .inl (fun _ => 0))) := ⟨_, rfl⟩
  rw [← hC3] at G
  have hk3 : C3 79 = .inr (0, [.null, .null, .ref (fk_a g (79 + 1)), .null, .int 0, .int 0, .int 0]) := by rw [hC3, va_up_ne _ _ (by omega)]; exact hk2
  refine fk_bpF hg S E hnm G 79 (by omega) hk3 rfl 3 (by decide) rfl i_159 rfl (v := .ref (fk_a g (79 + 1 + 1))) (fs' := [.null, .null, .ref (fk_a g (79 + 1)), .ref (fk_a g (79 + 1 + 1)), .int 0, .int 0, .int 0]) rfl (ty := (.array .boolean)) (by decide +kernel) rfl rfl (Nat.le_of_ble_eq_true rfl) d_K_init_17 (fun H locs G => ?_)
  obtain ⟨C4, hC4⟩ : ∃ z : Nat → va_E, z = va_up C3 79 (.inr (0, [.null, .null, .ref (fk_a g (79 + 1)), .ref (fk_a g (79 + 1 + 1)), .int 0, .int 0, .int 0])) := ⟨_, rfl⟩
  rw [← hC4] at G
  have hk4 : C4 79 = .inr (0, [.null, .null, .ref (fk_a g (79 + 1)), .ref (fk_a g (79 + 1 + 1)), .int 0, .int 0, .int 0]) := by rw [hC4, va_up_self]
  refine lv_aload_n S.1 S.2.1 d_K_init_20 rfl (lv_at hl 0 rfl) ?_
  refine lv_iconst (v := -1) S.1 S.2.1 d_K_init_21 (by decide +kernel) ?_
  refine fk_bp hg S E G 79 (by omega) hk4 rfl 5 (by decide) rfl i_162 rfl (v := .int (-1)) (fs' := [.null, .null, .ref (fk_a g (79 + 1)), .ref (fk_a g (79 + 1 + 1)), .int 0, .int (-1), .int 0]) rfl (ty := (.int)) (by decide +kernel) rfl rfl (Nat.le_of_ble_eq_true rfl) d_K_init_22 (fun H locs G => ?_)
  obtain ⟨C5, hC5⟩ : ∃ z : Nat → va_E, z = va_up C4 79 (.inr (0, [.null, .null, .ref (fk_a g (79 + 1)), .ref (fk_a g (79 + 1 + 1)), .int 0, .int (-1), .int 0])) := ⟨_, rfl⟩
  rw [← hC5] at G
  have hk5 : C5 79 = .inr (0, [.null, .null, .ref (fk_a g (79 + 1)), .ref (fk_a g (79 + 1 + 1)), .int 0, .int (-1), .int 0]) := by rw [hC5, va_up_self]
  refine lv_aload_n S.1 S.2.1 d_K_init_25 rfl (lv_at hl 0 rfl) ?_
  refine lv_iconst (v := -1) S.1 S.2.1 d_K_init_26 (by decide +kernel) ?_
  refine fk_bp hg S E G 79 (by omega) hk5 rfl 6 (by decide) rfl i_164 rfl (v := .int (-1)) (fs' := [.null, .null, .ref (fk_a g (79 + 1)), .ref (fk_a g (79 + 1 + 1)), .int 0, .int (-1), .int (-1)]) rfl (ty := (.int)) (by decide +kernel) rfl rfl (Nat.le_of_ble_eq_true rfl) d_K_init_27 (fun H locs G => ?_)
  obtain ⟨C6, hC6⟩ : ∃ z : Nat → va_E, z = va_up C5 79 (.inr (0, [.null, .null, .ref (fk_a g (79 + 1)), .ref (fk_a g (79 + 1 + 1)), .int 0, .int (-1), .int (-1)])) := ⟨_, rfl⟩
  rw [← hC6] at G
  have hk6 : C6 79 = .inr (0, [.null, .null, .ref (fk_a g (79 + 1)), .ref (fk_a g (79 + 1 + 1)), .int 0, .int (-1), .int (-1)]) := by rw [hC6, va_up_self]
  refine lv_aload_n S.1 S.2.1 d_K_init_30 rfl (lv_at hl 0 rfl) ?_
  refine lv_aload_n S.1 S.2.1 d_K_init_31 rfl (lv_at hl 1 rfl) ?_
  refine fk_bpF hg S E hnm G 79 (by omega) hk6 rfl 0 (by decide) rfl i_156 rfl (v := .ref (fk_a g 1)) (fs' := [.ref (fk_a g 1), .null, .ref (fk_a g (79 + 1)), .ref (fk_a g (79 + 1 + 1)), .int 0, .int (-1), .int (-1)]) rfl (ty := (.object "FlowDesk$Network")) (by decide +kernel) rfl rfl (Nat.le_of_ble_eq_true rfl) d_K_init_32 (fun H locs G => ?_)
  obtain ⟨C7, hC7⟩ : ∃ z : Nat → va_E, z = va_up C6 79 (.inr (0, [.ref (fk_a g 1), .null, .ref (fk_a g (79 + 1)), .ref (fk_a g (79 + 1 + 1)), .int 0, .int (-1), .int (-1)])) := ⟨_, rfl⟩
  rw [← hC7] at G
  have hk7 : C7 79 = .inr (0, [.ref (fk_a g 1), .null, .ref (fk_a g (79 + 1)), .ref (fk_a g (79 + 1 + 1)), .int 0, .int (-1), .int (-1)]) := by rw [hC7, va_up_self]
  refine lv_aload_n S.1 S.2.1 d_K_init_35 rfl (lv_at hl 0 rfl) ?_
  refine lv_aload_n S.1 S.2.1 d_K_init_36 rfl (lv_at hl 2 rfl) ?_
  refine fk_bpF hg S E hnm G 79 (by omega) hk7 rfl 1 (by decide) rfl i_157 rfl (v := .ref (fk_a g 75)) (fs' := [.ref (fk_a g 1), .ref (fk_a g 75), .ref (fk_a g (79 + 1)), .ref (fk_a g (79 + 1 + 1)), .int 0, .int (-1), .int (-1)]) rfl (ty := (.object "FlowDesk$Waiting")) (by decide +kernel) rfl rfl (Nat.le_of_ble_eq_true rfl) d_K_init_37 (fun H locs G => ?_)
  obtain ⟨C8, hC8⟩ : ∃ z : Nat → va_E, z = va_up C7 79 (.inr (0, [.ref (fk_a g 1), .ref (fk_a g 75), .ref (fk_a g (79 + 1)), .ref (fk_a g (79 + 1 + 1)), .int 0, .int (-1), .int (-1)])) := ⟨_, rfl⟩
  rw [← hC8] at G
  have hk8 : C8 79 = .inr (0, [.ref (fk_a g 1), .ref (fk_a g 75), .ref (fk_a g (79 + 1)), .ref (fk_a g (79 + 1 + 1)), .int 0, .int (-1), .int (-1)]) := by rw [hC8, va_up_self]
  refine fk_bret hg S hr hlk E O h0 (by omega) G (by omega) (fun j hj => ?_) ⟨rfl, rfl⟩ d_K_init_40
  rcases (by omega : j < 79 ∨ j = 79 ∨ j = 79 + 1 ∨ j = 79 + 1 + 1) with h9 | h9 | h9 | h9
  · rw [fk_mix_lt h9, hC8, va_up_ne _ _ (by omega), hC7, va_up_ne _ _ (by omega), hC6, va_up_ne _ _ (by omega), hC5, va_up_ne _ _ (by omega), hC4, va_up_ne _ _ (by omega), hC3, va_up_ne _ _ (by omega), hC2, va_up_ne _ _ (by omega), hC1, va_up_ne _ _ (by omega)]
  · subst h9
    rw [fk_mix_ge (Nat.le_refl _), hC8, va_up_self]
    exact fk_FK.symm
  · subst h9
    rw [fk_mix_ge (by omega), hC8, va_up_ne _ _ (by omega), hC7, va_up_ne _ _ (by omega), hC6, va_up_ne _ _ (by omega), hC5, va_up_ne _ _ (by omega), hC4, va_up_ne _ _ (by omega), hC3, va_up_ne _ _ (by omega), hC2, va_up_ne _ _ (by omega), hC1, va_up_self]
    exact (fk_F40 (by omega) (by decide +kernel)).symm
  · subst h9
    rw [fk_mix_ge (by omega), hC8, va_up_ne _ _ (by omega), hC7, va_up_ne _ _ (by omega), hC6, va_up_ne _ _ (by omega), hC5, va_up_ne _ _ (by omega), hC4, va_up_ne _ _ (by omega), hC3, va_up_self]
    exact (fk_Fb40 (by omega) (by decide +kernel)).symm
theorem d_C_init_0 : decode b_C_init 0 = .ok (.aload_n 0, 1) := by decide +kernel
theorem d_C_init_1 : decode b_C_init 1 = .ok (.invokespecial 3, 3) := by decide +kernel
theorem d_C_init_4 : decode b_C_init 4 = .ok (.aload_n 0, 1) := by decide +kernel
theorem d_C_init_5 : decode b_C_init 5 = .ok (.bipush 25, 2) := by decide +kernel
theorem d_C_init_7 : decode b_C_init 7 = .ok (.newarray .int, 2) := by decide +kernel
theorem d_C_init_9 : decode b_C_init 9 = .ok (.putfield 9, 3) := by decide +kernel
theorem d_C_init_12 : decode b_C_init 12 = .ok (.aload_n 0, 1) := by decide +kernel
theorem d_C_init_13 : decode b_C_init 13 = .ok (.aload_n 1, 1) := by decide +kernel
theorem d_C_init_14 : decode b_C_init 14 = .ok (.putfield 15, 3) := by decide +kernel
theorem d_C_init_17 : decode b_C_init 17 = .ok (.aload_n 0, 1) := by decide +kernel
theorem d_C_init_18 : decode b_C_init 18 = .ok (.aload_n 2, 1) := by decide +kernel
theorem d_C_init_19 : decode b_C_init 19 = .ok (.putfield 19, 3) := by decide +kernel
theorem d_C_init_22 : decode b_C_init 22 = .ok (.return_, 1) := by decide +kernel
set_option maxHeartbeats 4000000 in
set_option maxRecDepth 100000 in
theorem b_Ci (l : Launch) (g : fk_G) (hg : fk_row g) (C : Nat → va_E)  (hC : C 82 = .inr (1, [.null, .null, .null])) : fk_CN l y_C_init b_C_init 3 (fk_rb9 2 1 25) g (82 + 1) (84) C (fk_mix g 82 C) [.ref (fk_a g 82), .ref (fk_a g 1), .ref (fk_a g 75)] 1 25 := by
  refine fk_ofN rfl (Nat.le_of_ble_eq_true rfl) ?_
  intro p e s m args below meth c ls S hr hlk hnm E O h0 G hl
  have hl : lv_has ls 3 [(0, .ref (fk_a g 82)), (1, .ref (fk_a g 1)), (2, .ref (fk_a g 75))] := hl
  refine lv_aload_n S.1 S.2.1 d_C_init_0 rfl (lv_at hl 0 rfl) ?_
  refine fk_bob S i_187 hl.1 ⟨by decide, by decide⟩ d_C_init_1 ?_
  refine lv_aload_n S.1 S.2.1 d_C_init_4 rfl (lv_at hl 0 rfl) ?_
  refine lv_bipush (v := nI 25) S.1 S.2.1 d_C_init_5 (by decide +kernel) ?_
  refine fk_bna hg S E h0 (by omega) G (atype := .int) fk_rw0 (fk_ra0 E) (N := 25) rfl (by decide) (a0 := (25, .inl (fun _ => 0))) rfl (by decide) ⟨by decide, by decide⟩ d_C_init_7 (fun H G => ?_)
  obtain ⟨C1, hC1⟩ : ∃ z : Nat → va_E, z = va_up C (82 + 1) (.inl (g.2.1 0, 25, .inl (fun _ => 0))) := ⟨_, rfl⟩
  rw [← hC1] at G
  have hk1 : C1 82 = .inr (1, [.null, .null, .null]) := by rw [hC1, va_up_ne _ _ (by omega)]; exact hC
  refine fk_bpF hg S E hnm G 82 (by omega) hk1 rfl 2 (by decide) rfl i_190 rfl (v := .ref (fk_a g (82 + 1))) (fs' := [.null, .null, .ref (fk_a g (82 + 1))]) rfl (ty := (.array .int)) (by decide +kernel) rfl rfl (Nat.le_of_ble_eq_true rfl) d_C_init_9 (fun H locs G => ?_)
  obtain ⟨C2, hC2⟩ : ∃ z : Nat → va_E, z = va_up C1 82 (.inr (1, [.null, .null, .ref (fk_a g (82 + 1))])) := ⟨_, rfl⟩
  rw [← hC2] at G
  have hk2 : C2 82 = .inr (1, [.null, .null, .ref (fk_a g (82 + 1))]) := by rw [hC2, va_up_self]
  refine lv_aload_n S.1 S.2.1 d_C_init_12 rfl (lv_at hl 0 rfl) ?_
  refine lv_aload_n S.1 S.2.1 d_C_init_13 rfl (lv_at hl 1 rfl) ?_
  refine fk_bpF hg S E hnm G 82 (by omega) hk2 rfl 0 (by decide) rfl i_188 rfl (v := .ref (fk_a g 1)) (fs' := [.ref (fk_a g 1), .null, .ref (fk_a g (82 + 1))]) rfl (ty := (.object "FlowDesk$Network")) (by decide +kernel) rfl rfl (Nat.le_of_ble_eq_true rfl) d_C_init_14 (fun H locs G => ?_)
  obtain ⟨C3, hC3⟩ : ∃ z : Nat → va_E, z = va_up C2 82 (.inr (1, [.ref (fk_a g 1), .null, .ref (fk_a g (82 + 1))])) := ⟨_, rfl⟩
  rw [← hC3] at G
  have hk3 : C3 82 = .inr (1, [.ref (fk_a g 1), .null, .ref (fk_a g (82 + 1))]) := by rw [hC3, va_up_self]
  refine lv_aload_n S.1 S.2.1 d_C_init_17 rfl (lv_at hl 0 rfl) ?_
  refine lv_aload_n S.1 S.2.1 d_C_init_18 rfl (lv_at hl 2 rfl) ?_
  refine fk_bpF hg S E hnm G 82 (by omega) hk3 rfl 1 (by decide) rfl i_189 rfl (v := .ref (fk_a g 75)) (fs' := [.ref (fk_a g 1), .ref (fk_a g 75), .ref (fk_a g (82 + 1))]) rfl (ty := (.object "FlowDesk$Waiting")) (by decide +kernel) rfl rfl (Nat.le_of_ble_eq_true rfl) d_C_init_19 (fun H locs G => ?_)
  obtain ⟨C4, hC4⟩ : ∃ z : Nat → va_E, z = va_up C3 82 (.inr (1, [.ref (fk_a g 1), .ref (fk_a g 75), .ref (fk_a g (82 + 1))])) := ⟨_, rfl⟩
  rw [← hC4] at G
  have hk4 : C4 82 = .inr (1, [.ref (fk_a g 1), .ref (fk_a g 75), .ref (fk_a g (82 + 1))]) := by rw [hC4, va_up_self]
  refine fk_bret hg S hr hlk E O h0 (by omega) G (by omega) (fun j hj => ?_) ⟨rfl, rfl⟩ d_C_init_22
  rcases (by omega : j < 82 ∨ j = 82 ∨ j = 82 + 1) with h9 | h9 | h9
  · rw [fk_mix_lt h9, hC4, va_up_ne _ _ (by omega), hC3, va_up_ne _ _ (by omega), hC2, va_up_ne _ _ (by omega), hC1, va_up_ne _ _ (by omega)]
  · subst h9
    rw [fk_mix_ge (Nat.le_refl _), hC4, va_up_self]
    exact fk_FC.symm
  · subst h9
    rw [fk_mix_ge (by omega), hC4, va_up_ne _ _ (by omega), hC3, va_up_ne _ _ (by omega), hC2, va_up_ne _ _ (by omega), hC1, va_up_self]
    exact (fk_F25 (by omega) (by decide +kernel)).symm
theorem d_M_init_0 : decode b_M_init 0 = .ok (.aload_n 0, 1) := by decide +kernel
theorem d_M_init_1 : decode b_M_init 1 = .ok (.invokespecial 1, 3) := by decide +kernel
theorem d_M_init_4 : decode b_M_init 4 = .ok (.aload_n 0, 1) := by decide +kernel
theorem d_M_init_5 : decode b_M_init 5 = .ok (.bipush 12, 2) := by decide +kernel
theorem d_M_init_7 : decode b_M_init 7 = .ok (.newarray .boolean, 2) := by decide +kernel
theorem d_M_init_9 : decode b_M_init 9 = .ok (.putfield 7, 3) := by decide +kernel
theorem d_M_init_12 : decode b_M_init 12 = .ok (.aload_n 0, 1) := by decide +kernel
theorem d_M_init_13 : decode b_M_init 13 = .ok (.bipush 12, 2) := by decide +kernel
theorem d_M_init_15 : decode b_M_init 15 = .ok (.newarray .boolean, 2) := by decide +kernel
theorem d_M_init_17 : decode b_M_init 17 = .ok (.putfield 13, 3) := by decide +kernel
theorem d_M_init_20 : decode b_M_init 20 = .ok (.aload_n 0, 1) := by decide +kernel
theorem d_M_init_21 : decode b_M_init 21 = .ok (.bipush 12, 2) := by decide +kernel
theorem d_M_init_23 : decode b_M_init 23 = .ok (.newarray .int, 2) := by decide +kernel
theorem d_M_init_25 : decode b_M_init 25 = .ok (.putfield 16, 3) := by decide +kernel
theorem d_M_init_28 : decode b_M_init 28 = .ok (.aload_n 0, 1) := by decide +kernel
theorem d_M_init_29 : decode b_M_init 29 = .ok (.bipush 12, 2) := by decide +kernel
theorem d_M_init_31 : decode b_M_init 31 = .ok (.newarray .int, 2) := by decide +kernel
theorem d_M_init_33 : decode b_M_init 33 = .ok (.putfield 20, 3) := by decide +kernel
theorem d_M_init_36 : decode b_M_init 36 = .ok (.aload_n 0, 1) := by decide +kernel
theorem d_M_init_37 : decode b_M_init 37 = .ok (.bipush 12, 2) := by decide +kernel
theorem d_M_init_39 : decode b_M_init 39 = .ok (.newarray .int, 2) := by decide +kernel
theorem d_M_init_41 : decode b_M_init 41 = .ok (.putfield 23, 3) := by decide +kernel
theorem d_M_init_44 : decode b_M_init 44 = .ok (.aload_n 0, 1) := by decide +kernel
theorem d_M_init_45 : decode b_M_init 45 = .ok (.bipush 12, 2) := by decide +kernel
theorem d_M_init_47 : decode b_M_init 47 = .ok (.newarray .int, 2) := by decide +kernel
theorem d_M_init_49 : decode b_M_init 49 = .ok (.putfield 26, 3) := by decide +kernel
theorem d_M_init_52 : decode b_M_init 52 = .ok (.aload_n 0, 1) := by decide +kernel
theorem d_M_init_53 : decode b_M_init 53 = .ok (.bipush 12, 2) := by decide +kernel
theorem d_M_init_55 : decode b_M_init 55 = .ok (.newarray .boolean, 2) := by decide +kernel
theorem d_M_init_57 : decode b_M_init 57 = .ok (.putfield 29, 3) := by decide +kernel
theorem d_M_init_60 : decode b_M_init 60 = .ok (.aload_n 0, 1) := by decide +kernel
theorem d_M_init_61 : decode b_M_init 61 = .ok (.bipush 12, 2) := by decide +kernel
theorem d_M_init_63 : decode b_M_init 63 = .ok (.newarray .int, 2) := by decide +kernel
theorem d_M_init_65 : decode b_M_init 65 = .ok (.putfield 32, 3) := by decide +kernel
theorem d_M_init_68 : decode b_M_init 68 = .ok (.aload_n 0, 1) := by decide +kernel
theorem d_M_init_69 : decode b_M_init 69 = .ok (.bipush 12, 2) := by decide +kernel
theorem d_M_init_71 : decode b_M_init 71 = .ok (.newarray .int, 2) := by decide +kernel
theorem d_M_init_73 : decode b_M_init 73 = .ok (.putfield 35, 3) := by decide +kernel
theorem d_M_init_76 : decode b_M_init 76 = .ok (.aload_n 0, 1) := by decide +kernel
theorem d_M_init_77 : decode b_M_init 77 = .ok (.bipush 12, 2) := by decide +kernel
theorem d_M_init_79 : decode b_M_init 79 = .ok (.newarray .int, 2) := by decide +kernel
theorem d_M_init_81 : decode b_M_init 81 = .ok (.putfield 38, 3) := by decide +kernel
theorem d_M_init_84 : decode b_M_init 84 = .ok (.aload_n 0, 1) := by decide +kernel
theorem d_M_init_85 : decode b_M_init 85 = .ok (.sipush 480, 3) := by decide +kernel
theorem d_M_init_88 : decode b_M_init 88 = .ok (.newarray .int, 2) := by decide +kernel
theorem d_M_init_90 : decode b_M_init 90 = .ok (.putfield 41, 3) := by decide +kernel
theorem d_M_init_93 : decode b_M_init 93 = .ok (.aload_n 0, 1) := by decide +kernel
theorem d_M_init_94 : decode b_M_init 94 = .ok (.sipush 480, 3) := by decide +kernel
theorem d_M_init_97 : decode b_M_init 97 = .ok (.newarray .int, 2) := by decide +kernel
theorem d_M_init_99 : decode b_M_init 99 = .ok (.putfield 44, 3) := by decide +kernel
theorem d_M_init_102 : decode b_M_init 102 = .ok (.aload_n 0, 1) := by decide +kernel
theorem d_M_init_103 : decode b_M_init 103 = .ok (.sipush 480, 3) := by decide +kernel
theorem d_M_init_106 : decode b_M_init 106 = .ok (.newarray .int, 2) := by decide +kernel
theorem d_M_init_108 : decode b_M_init 108 = .ok (.putfield 47, 3) := by decide +kernel
theorem d_M_init_111 : decode b_M_init 111 = .ok (.aload_n 0, 1) := by decide +kernel
theorem d_M_init_112 : decode b_M_init 112 = .ok (.sipush 480, 3) := by decide +kernel
theorem d_M_init_115 : decode b_M_init 115 = .ok (.newarray .int, 2) := by decide +kernel
theorem d_M_init_117 : decode b_M_init 117 = .ok (.putfield 50, 3) := by decide +kernel
theorem d_M_init_120 : decode b_M_init 120 = .ok (.aload_n 0, 1) := by decide +kernel
theorem d_M_init_121 : decode b_M_init 121 = .ok (.sipush 480, 3) := by decide +kernel
theorem d_M_init_124 : decode b_M_init 124 = .ok (.newarray .int, 2) := by decide +kernel
theorem d_M_init_126 : decode b_M_init 126 = .ok (.putfield 53, 3) := by decide +kernel
theorem d_M_init_129 : decode b_M_init 129 = .ok (.aload_n 0, 1) := by decide +kernel
theorem d_M_init_130 : decode b_M_init 130 = .ok (.sipush 480, 3) := by decide +kernel
theorem d_M_init_133 : decode b_M_init 133 = .ok (.newarray .boolean, 2) := by decide +kernel
theorem d_M_init_135 : decode b_M_init 135 = .ok (.putfield 56, 3) := by decide +kernel
theorem d_M_init_138 : decode b_M_init 138 = .ok (.aload_n 0, 1) := by decide +kernel
theorem d_M_init_139 : decode b_M_init 139 = .ok (.bipush 40, 2) := by decide +kernel
theorem d_M_init_141 : decode b_M_init 141 = .ok (.newarray .int, 2) := by decide +kernel
theorem d_M_init_143 : decode b_M_init 143 = .ok (.putfield 59, 3) := by decide +kernel
theorem d_M_init_146 : decode b_M_init 146 = .ok (.aload_n 0, 1) := by decide +kernel
theorem d_M_init_147 : decode b_M_init 147 = .ok (.bipush 40, 2) := by decide +kernel
theorem d_M_init_149 : decode b_M_init 149 = .ok (.newarray .int, 2) := by decide +kernel
theorem d_M_init_151 : decode b_M_init 151 = .ok (.putfield 62, 3) := by decide +kernel
theorem d_M_init_154 : decode b_M_init 154 = .ok (.aload_n 0, 1) := by decide +kernel
theorem d_M_init_155 : decode b_M_init 155 = .ok (.iconst (-1), 1) := by decide +kernel
theorem d_M_init_156 : decode b_M_init 156 = .ok (.putfield 65, 3) := by decide +kernel
theorem d_M_init_159 : decode b_M_init 159 = .ok (.aload_n 0, 1) := by decide +kernel
theorem d_M_init_160 : decode b_M_init 160 = .ok (.iconst (-1), 1) := by decide +kernel
theorem d_M_init_161 : decode b_M_init 161 = .ok (.putfield 69, 3) := by decide +kernel
theorem d_M_init_164 : decode b_M_init 164 = .ok (.aload_n 0, 1) := by decide +kernel
theorem d_M_init_165 : decode b_M_init 165 = .ok (.bipush 12, 2) := by decide +kernel
theorem d_M_init_167 : decode b_M_init 167 = .ok (.newarray .int, 2) := by decide +kernel
theorem d_M_init_169 : decode b_M_init 169 = .ok (.putfield 72, 3) := by decide +kernel
theorem d_M_init_172 : decode b_M_init 172 = .ok (.aload_n 0, 1) := by decide +kernel
theorem d_M_init_173 : decode b_M_init 173 = .ok (.bipush 64, 2) := by decide +kernel
theorem d_M_init_175 : decode b_M_init 175 = .ok (.newarray .int, 2) := by decide +kernel
theorem d_M_init_177 : decode b_M_init 177 = .ok (.putfield 75, 3) := by decide +kernel
theorem d_M_init_180 : decode b_M_init 180 = .ok (.return_, 1) := by decide +kernel
set_option maxHeartbeats 4000000 in
set_option maxRecDepth 100000 in
theorem b_Mi (l : Launch) (g : fk_G) (hg : fk_row g) (C : Nat → va_E)  (hC : C 89 = .inr (7, [.int 0, .int 0, .null, .null, .null, .null, .null, .null, .null, .null, .null, .null, .null, .null, .null, .null, .null, .null, .null, .int 0, .null, .int 0, .int 0, .int 0, .int 0, .int 0, .null, .int 0, .null, .int 0, .int 0])) : fk_CN l y_M_init b_M_init 1 (fk_rb9 2 20 3156) g (89 + 1) (110) C (fk_mix g 89 C) [.ref (fk_a g 89)] 20 3156 := by
  refine fk_ofN rfl (Nat.le_of_ble_eq_true rfl) ?_
  intro p e s m args below meth c ls S hr hlk hnm E O h0 G hl
  have hl : lv_has ls 1 [(0, .ref (fk_a g 89))] := hl
  refine lv_aload_n S.1 S.2.1 d_M_init_0 rfl (lv_at hl 0 rfl) ?_
  refine fk_bob S i_621 hl.1 ⟨by decide, by decide⟩ d_M_init_1 ?_
  refine lv_aload_n S.1 S.2.1 d_M_init_4 rfl (lv_at hl 0 rfl) ?_
  refine lv_bipush (v := nI 12) S.1 S.2.1 d_M_init_5 (by decide +kernel) ?_
  refine fk_bna hg S E h0 (by omega) G (atype := .boolean) fk_rw1 (fk_ra1 E) (N := 12) rfl (by decide) (a0 := (12, .inl (fun _ => 0))) rfl (by decide) ⟨by decide, by decide⟩ d_M_init_7 (fun H G => ?_)
  obtain ⟨C1, hC1⟩ : ∃ z : Nat → va_E, z = va_up C (89 + 1) (.inl (g.2.1 1, 12, .inl (fun _ => 0))) := ⟨_, rfl⟩
  rw [← hC1] at G
  have hk1 : C1 89 = .inr (7, [.int 0, .int 0, .null, .null, .null, .null, .null, .null, .null, .null, .null, .null, .null, .null, .null, .null, .null, .null, .null, .int 0, .null, .int 0, .int 0, .int 0, .int 0, .int 0, .null, .int 0, .null, .int 0, .int 0]) := by rw [hC1, va_up_ne _ _ (by omega)]; exact hC
  refine fk_bpF hg S E hnm G 89 (by omega) hk1 rfl 2 (by decide) rfl i_624 rfl (v := .ref (fk_a g (89 + 1))) (fs' := [.int 0, .int 0, .ref (fk_a g (89 + 1)), .null, .null, .null, .null, .null, .null, .null, .null, .null, .null, .null, .null, .null, .null, .null, .null, .int 0, .null, .int 0, .int 0, .int 0, .int 0, .int 0, .null, .int 0, .null, .int 0, .int 0]) rfl (ty := (.array .boolean)) (by decide +kernel) rfl rfl (Nat.le_of_ble_eq_true rfl) d_M_init_9 (fun H locs G => ?_)
  obtain ⟨C2, hC2⟩ : ∃ z : Nat → va_E, z = va_up C1 89 (.inr (7, [.int 0, .int 0, .ref (fk_a g (89 + 1)), .null, .null, .null, .null, .null, .null, .null, .null, .null, .null, .null, .null, .null, .null, .null, .null, .int 0, .null, .int 0, .int 0, .int 0, .int 0, .int 0, .null, .int 0, .null, .int 0, .int 0])) := ⟨_, rfl⟩
  rw [← hC2] at G
  have hk2 : C2 89 = .inr (7, [.int 0, .int 0, .ref (fk_a g (89 + 1)), .null, .null, .null, .null, .null, .null, .null, .null, .null, .null, .null, .null, .null, .null, .null, .null, .int 0, .null, .int 0, .int 0, .int 0, .int 0, .int 0, .null, .int 0, .null, .int 0, .int 0]) := by rw [hC2, va_up_self]
  refine lv_aload_n S.1 S.2.1 d_M_init_12 rfl (lv_at hl 0 rfl) ?_
  refine lv_bipush (v := nI 12) S.1 S.2.1 d_M_init_13 (by decide +kernel) ?_
  refine fk_bna hg S E h0 (by omega) G (atype := .boolean) fk_rw1 (fk_ra1 E) (N := 12) rfl (by decide) (a0 := (12, .inl (fun _ => 0))) rfl (by decide) ⟨by decide, by decide⟩ d_M_init_15 (fun H G => ?_)
  obtain ⟨C3, hC3⟩ : ∃ z : Nat → va_E, z = va_up C2 (89 + 1 + 1) (.inl (g.2.1 1, 12, .inl (fun _ => 0))) := ⟨_, rfl⟩
  rw [← hC3] at G
  have hk3 : C3 89 = .inr (7, [.int 0, .int 0, .ref (fk_a g (89 + 1)), .null, .null, .null, .null, .null, .null, .null, .null, .null, .null, .null, .null, .null, .null, .null, .null, .int 0, .null, .int 0, .int 0, .int 0, .int 0, .int 0, .null, .int 0, .null, .int 0, .int 0]) := by rw [hC3, va_up_ne _ _ (by omega)]; exact hk2
  refine fk_bpF hg S E hnm G 89 (by omega) hk3 rfl 3 (by decide) rfl i_625 rfl (v := .ref (fk_a g (89 + 1 + 1))) (fs' := [.int 0, .int 0, .ref (fk_a g (89 + 1)), .ref (fk_a g (89 + 1 + 1)), .null, .null, .null, .null, .null, .null, .null, .null, .null, .null, .null, .null, .null, .null, .null, .int 0, .null, .int 0, .int 0, .int 0, .int 0, .int 0, .null, .int 0, .null, .int 0, .int 0]) rfl (ty := (.array .boolean)) (by decide +kernel) rfl rfl (Nat.le_of_ble_eq_true rfl) d_M_init_17 (fun H locs G => ?_)
  obtain ⟨C4, hC4⟩ : ∃ z : Nat → va_E, z = va_up C3 89 (.inr (7, [.int 0, .int 0, .ref (fk_a g (89 + 1)), .ref (fk_a g (89 + 1 + 1)), .null, .null, .null, .null, .null, .null, .null, .null, .null, .null, .null, .null, .null, .null, .null, .int 0, .null, .int 0, .int 0, .int 0, .int 0, .int 0, .null, .int 0, .null, .int 0, .int 0])) := ⟨_, rfl⟩
  rw [← hC4] at G
  have hk4 : C4 89 = .inr (7, [.int 0, .int 0, .ref (fk_a g (89 + 1)), .ref (fk_a g (89 + 1 + 1)), .null, .null, .null, .null, .null, .null, .null, .null, .null, .null, .null, .null, .null, .null, .null, .int 0, .null, .int 0, .int 0, .int 0, .int 0, .int 0, .null, .int 0, .null, .int 0, .int 0]) := by rw [hC4, va_up_self]
  refine lv_aload_n S.1 S.2.1 d_M_init_20 rfl (lv_at hl 0 rfl) ?_
  refine lv_bipush (v := nI 12) S.1 S.2.1 d_M_init_21 (by decide +kernel) ?_
  refine fk_bna hg S E h0 (by omega) G (atype := .int) fk_rw0 (fk_ra0 E) (N := 12) rfl (by decide) (a0 := (12, .inl (fun _ => 0))) rfl (by decide) ⟨by decide, by decide⟩ d_M_init_23 (fun H G => ?_)
  obtain ⟨C5, hC5⟩ : ∃ z : Nat → va_E, z = va_up C4 (89 + 1 + 1 + 1) (.inl (g.2.1 0, 12, .inl (fun _ => 0))) := ⟨_, rfl⟩
  rw [← hC5] at G
  have hk5 : C5 89 = .inr (7, [.int 0, .int 0, .ref (fk_a g (89 + 1)), .ref (fk_a g (89 + 1 + 1)), .null, .null, .null, .null, .null, .null, .null, .null, .null, .null, .null, .null, .null, .null, .null, .int 0, .null, .int 0, .int 0, .int 0, .int 0, .int 0, .null, .int 0, .null, .int 0, .int 0]) := by rw [hC5, va_up_ne _ _ (by omega)]; exact hk4
  refine fk_bpF hg S E hnm G 89 (by omega) hk5 rfl 4 (by decide) rfl i_626 rfl (v := .ref (fk_a g (89 + 1 + 1 + 1))) (fs' := [.int 0, .int 0, .ref (fk_a g (89 + 1)), .ref (fk_a g (89 + 1 + 1)), .ref (fk_a g (89 + 1 + 1 + 1)), .null, .null, .null, .null, .null, .null, .null, .null, .null, .null, .null, .null, .null, .null, .int 0, .null, .int 0, .int 0, .int 0, .int 0, .int 0, .null, .int 0, .null, .int 0, .int 0]) rfl (ty := (.array .int)) (by decide +kernel) rfl rfl (Nat.le_of_ble_eq_true rfl) d_M_init_25 (fun H locs G => ?_)
  obtain ⟨C6, hC6⟩ : ∃ z : Nat → va_E, z = va_up C5 89 (.inr (7, [.int 0, .int 0, .ref (fk_a g (89 + 1)), .ref (fk_a g (89 + 1 + 1)), .ref (fk_a g (89 + 1 + 1 + 1)), .null, .null, .null, .null, .null, .null, .null, .null, .null, .null, .null, .null, .null, .null, .int 0, .null, .int 0, .int 0, .int 0, .int 0, .int 0, .null, .int 0, .null, .int 0, .int 0])) := ⟨_, rfl⟩
  rw [← hC6] at G
  have hk6 : C6 89 = .inr (7, [.int 0, .int 0, .ref (fk_a g (89 + 1)), .ref (fk_a g (89 + 1 + 1)), .ref (fk_a g (89 + 1 + 1 + 1)), .null, .null, .null, .null, .null, .null, .null, .null, .null, .null, .null, .null, .null, .null, .int 0, .null, .int 0, .int 0, .int 0, .int 0, .int 0, .null, .int 0, .null, .int 0, .int 0]) := by rw [hC6, va_up_self]
  refine lv_aload_n S.1 S.2.1 d_M_init_28 rfl (lv_at hl 0 rfl) ?_
  refine lv_bipush (v := nI 12) S.1 S.2.1 d_M_init_29 (by decide +kernel) ?_
  refine fk_bna hg S E h0 (by omega) G (atype := .int) fk_rw0 (fk_ra0 E) (N := 12) rfl (by decide) (a0 := (12, .inl (fun _ => 0))) rfl (by decide) ⟨by decide, by decide⟩ d_M_init_31 (fun H G => ?_)
  obtain ⟨C7, hC7⟩ : ∃ z : Nat → va_E, z = va_up C6 (89 + 1 + 1 + 1 + 1) (.inl (g.2.1 0, 12, .inl (fun _ => 0))) := ⟨_, rfl⟩
  rw [← hC7] at G
  have hk7 : C7 89 = .inr (7, [.int 0, .int 0, .ref (fk_a g (89 + 1)), .ref (fk_a g (89 + 1 + 1)), .ref (fk_a g (89 + 1 + 1 + 1)), .null, .null, .null, .null, .null, .null, .null, .null, .null, .null, .null, .null, .null, .null, .int 0, .null, .int 0, .int 0, .int 0, .int 0, .int 0, .null, .int 0, .null, .int 0, .int 0]) := by rw [hC7, va_up_ne _ _ (by omega)]; exact hk6
  refine fk_bpF hg S E hnm G 89 (by omega) hk7 rfl 5 (by decide) rfl i_627 rfl (v := .ref (fk_a g (89 + 1 + 1 + 1 + 1))) (fs' := [.int 0, .int 0, .ref (fk_a g (89 + 1)), .ref (fk_a g (89 + 1 + 1)), .ref (fk_a g (89 + 1 + 1 + 1)), .ref (fk_a g (89 + 1 + 1 + 1 + 1)), .null, .null, .null, .null, .null, .null, .null, .null, .null, .null, .null, .null, .null, .int 0, .null, .int 0, .int 0, .int 0, .int 0, .int 0, .null, .int 0, .null, .int 0, .int 0]) rfl (ty := (.array .int)) (by decide +kernel) rfl rfl (Nat.le_of_ble_eq_true rfl) d_M_init_33 (fun H locs G => ?_)
  obtain ⟨C8, hC8⟩ : ∃ z : Nat → va_E, z = va_up C7 89 (.inr (7, [.int 0, .int 0, .ref (fk_a g (89 + 1)), .ref (fk_a g (89 + 1 + 1)), .ref (fk_a g (89 + 1 + 1 + 1)), .ref (fk_a g (89 + 1 + 1 + 1 + 1)), .null, .null, .null, .null, .null, .null, .null, .null, .null, .null, .null, .null, .null, .int 0, .null, .int 0, .int 0, .int 0, .int 0, .int 0, .null, .int 0, .null, .int 0, .int 0])) := ⟨_, rfl⟩
  rw [← hC8] at G
  have hk8 : C8 89 = .inr (7, [.int 0, .int 0, .ref (fk_a g (89 + 1)), .ref (fk_a g (89 + 1 + 1)), .ref (fk_a g (89 + 1 + 1 + 1)), .ref (fk_a g (89 + 1 + 1 + 1 + 1)), .null, .null, .null, .null, .null, .null, .null, .null, .null, .null, .null, .null, .null, .int 0, .null, .int 0, .int 0, .int 0, .int 0, .int 0, .null, .int 0, .null, .int 0, .int 0]) := by rw [hC8, va_up_self]
  refine lv_aload_n S.1 S.2.1 d_M_init_36 rfl (lv_at hl 0 rfl) ?_
  refine lv_bipush (v := nI 12) S.1 S.2.1 d_M_init_37 (by decide +kernel) ?_
  refine fk_bna hg S E h0 (by omega) G (atype := .int) fk_rw0 (fk_ra0 E) (N := 12) rfl (by decide) (a0 := (12, .inl (fun _ => 0))) rfl (by decide) ⟨by decide, by decide⟩ d_M_init_39 (fun H G => ?_)
  obtain ⟨C9, hC9⟩ : ∃ z : Nat → va_E, z = va_up C8 (89 + 1 + 1 + 1 + 1 + 1) (.inl (g.2.1 0, 12, .inl (fun _ => 0))) := ⟨_, rfl⟩
  rw [← hC9] at G
  have hk9 : C9 89 = .inr (7, [.int 0, .int 0, .ref (fk_a g (89 + 1)), .ref (fk_a g (89 + 1 + 1)), .ref (fk_a g (89 + 1 + 1 + 1)), .ref (fk_a g (89 + 1 + 1 + 1 + 1)), .null, .null, .null, .null, .null, .null, .null, .null, .null, .null, .null, .null, .null, .int 0, .null, .int 0, .int 0, .int 0, .int 0, .int 0, .null, .int 0, .null, .int 0, .int 0]) := by rw [hC9, va_up_ne _ _ (by omega)]; exact hk8
  refine fk_bpF hg S E hnm G 89 (by omega) hk9 rfl 6 (by decide) rfl i_628 rfl (v := .ref (fk_a g (89 + 1 + 1 + 1 + 1 + 1))) (fs' := [.int 0, .int 0, .ref (fk_a g (89 + 1)), .ref (fk_a g (89 + 1 + 1)), .ref (fk_a g (89 + 1 + 1 + 1)), .ref (fk_a g (89 + 1 + 1 + 1 + 1)), .ref (fk_a g (89 + 1 + 1 + 1 + 1 + 1)), .null, .null, .null, .null, .null, .null, .null, .null, .null, .null, .null, .null, .int 0, .null, .int 0, .int 0, .int 0, .int 0, .int 0, .null, .int 0, .null, .int 0, .int 0]) rfl (ty := (.array .int)) (by decide +kernel) rfl rfl (Nat.le_of_ble_eq_true rfl) d_M_init_41 (fun H locs G => ?_)
  obtain ⟨C10, hC10⟩ : ∃ z : Nat → va_E, z = va_up C9 89 (.inr (7, [.int 0, .int 0, .ref (fk_a g (89 + 1)), .ref (fk_a g (89 + 1 + 1)), .ref (fk_a g (89 + 1 + 1 + 1)), .ref (fk_a g (89 + 1 + 1 + 1 + 1)), .ref (fk_a g (89 + 1 + 1 + 1 + 1 + 1)), .null, .null, .null, .null, .null, .null, .null, .null, .null, .null, .null, .null, .int 0, .null, .int 0, .int 0, .int 0, .int 0, .int 0, .null, .int 0, .null, .int 0, .int 0])) := ⟨_, rfl⟩
  rw [← hC10] at G
  have hk10 : C10 89 = .inr (7, [.int 0, .int 0, .ref (fk_a g (89 + 1)), .ref (fk_a g (89 + 1 + 1)), .ref (fk_a g (89 + 1 + 1 + 1)), .ref (fk_a g (89 + 1 + 1 + 1 + 1)), .ref (fk_a g (89 + 1 + 1 + 1 + 1 + 1)), .null, .null, .null, .null, .null, .null, .null, .null, .null, .null, .null, .null, .int 0, .null, .int 0, .int 0, .int 0, .int 0, .int 0, .null, .int 0, .null, .int 0, .int 0]) := by rw [hC10, va_up_self]
  refine lv_aload_n S.1 S.2.1 d_M_init_44 rfl (lv_at hl 0 rfl) ?_
  refine lv_bipush (v := nI 12) S.1 S.2.1 d_M_init_45 (by decide +kernel) ?_
  refine fk_bna hg S E h0 (by omega) G (atype := .int) fk_rw0 (fk_ra0 E) (N := 12) rfl (by decide) (a0 := (12, .inl (fun _ => 0))) rfl (by decide) ⟨by decide, by decide⟩ d_M_init_47 (fun H G => ?_)
  obtain ⟨C11, hC11⟩ : ∃ z : Nat → va_E, z = va_up C10 (89 + 1 + 1 + 1 + 1 + 1 + 1) (.inl (g.2.1 0, 12, .inl (fun _ => 0))) := ⟨_, rfl⟩
  rw [← hC11] at G
  have hk11 : C11 89 = .inr (7, [.int 0, .int 0, .ref (fk_a g (89 + 1)), .ref (fk_a g (89 + 1 + 1)), .ref (fk_a g (89 + 1 + 1 + 1)), .ref (fk_a g (89 + 1 + 1 + 1 + 1)), .ref (fk_a g (89 + 1 + 1 + 1 + 1 + 1)), .null, .null, .null, .null, .null, .null, .null, .null, .null, .null, .null, .null, .int 0, .null, .int 0, .int 0, .int 0, .int 0, .int 0, .null, .int 0, .null, .int 0, .int 0]) := by rw [hC11, va_up_ne _ _ (by omega)]; exact hk10
  refine fk_bpF hg S E hnm G 89 (by omega) hk11 rfl 7 (by decide) rfl i_629 rfl (v := .ref (fk_a g (89 + 1 + 1 + 1 + 1 + 1 + 1))) (fs' := [.int 0, .int 0, .ref (fk_a g (89 + 1)), .ref (fk_a g (89 + 1 + 1)), .ref (fk_a g (89 + 1 + 1 + 1)), .ref (fk_a g (89 + 1 + 1 + 1 + 1)), .ref (fk_a g (89 + 1 + 1 + 1 + 1 + 1)), .ref (fk_a g (89 + 1 + 1 + 1 + 1 + 1 + 1)), .null, .null, .null, .null, .null, .null, .null, .null, .null, .null, .null, .int 0, .null, .int 0, .int 0, .int 0, .int 0, .int 0, .null, .int 0, .null, .int 0, .int 0]) rfl (ty := (.array .int)) (by decide +kernel) rfl rfl (Nat.le_of_ble_eq_true rfl) d_M_init_49 (fun H locs G => ?_)
  obtain ⟨C12, hC12⟩ : ∃ z : Nat → va_E, z = va_up C11 89 (.inr (7, [.int 0, .int 0, .ref (fk_a g (89 + 1)), .ref (fk_a g (89 + 1 + 1)), .ref (fk_a g (89 + 1 + 1 + 1)), .ref (fk_a g (89 + 1 + 1 + 1 + 1)), .ref (fk_a g (89 + 1 + 1 + 1 + 1 + 1)), .ref (fk_a g (89 + 1 + 1 + 1 + 1 + 1 + 1)), .null, .null, .null, .null, .null, .null, .null, .null, .null, .null, .null, .int 0, .null, .int 0, .int 0, .int 0, .int 0, .int 0, .null, .int 0, .null, .int 0, .int 0])) := ⟨_, rfl⟩
  rw [← hC12] at G
  have hk12 : C12 89 = .inr (7, [.int 0, .int 0, .ref (fk_a g (89 + 1)), .ref (fk_a g (89 + 1 + 1)), .ref (fk_a g (89 + 1 + 1 + 1)), .ref (fk_a g (89 + 1 + 1 + 1 + 1)), .ref (fk_a g (89 + 1 + 1 + 1 + 1 + 1)), .ref (fk_a g (89 + 1 + 1 + 1 + 1 + 1 + 1)), .null, .null, .null, .null, .null, .null, .null, .null, .null, .null, .null, .int 0, .null, .int 0, .int 0, .int 0, .int 0, .int 0, .null, .int 0, .null, .int 0, .int 0]) := by rw [hC12, va_up_self]
  refine lv_aload_n S.1 S.2.1 d_M_init_52 rfl (lv_at hl 0 rfl) ?_
  refine lv_bipush (v := nI 12) S.1 S.2.1 d_M_init_53 (by decide +kernel) ?_
  refine fk_bna hg S E h0 (by omega) G (atype := .boolean) fk_rw1 (fk_ra1 E) (N := 12) rfl (by decide) (a0 := (12, .inl (fun _ => 0))) rfl (by decide) ⟨by decide, by decide⟩ d_M_init_55 (fun H G => ?_)
  obtain ⟨C13, hC13⟩ : ∃ z : Nat → va_E, z = va_up C12 (89 + 1 + 1 + 1 + 1 + 1 + 1 + 1) (.inl (g.2.1 1, 12, .inl (fun _ => 0))) := ⟨_, rfl⟩
  rw [← hC13] at G
  have hk13 : C13 89 = .inr (7, [.int 0, .int 0, .ref (fk_a g (89 + 1)), .ref (fk_a g (89 + 1 + 1)), .ref (fk_a g (89 + 1 + 1 + 1)), .ref (fk_a g (89 + 1 + 1 + 1 + 1)), .ref (fk_a g (89 + 1 + 1 + 1 + 1 + 1)), .ref (fk_a g (89 + 1 + 1 + 1 + 1 + 1 + 1)), .null, .null, .null, .null, .null, .null, .null, .null, .null, .null, .null, .int 0, .null, .int 0, .int 0, .int 0, .int 0, .int 0, .null, .int 0, .null, .int 0, .int 0]) := by rw [hC13, va_up_ne _ _ (by omega)]; exact hk12
  refine fk_bpF hg S E hnm G 89 (by omega) hk13 rfl 8 (by decide) rfl i_630 rfl (v := .ref (fk_a g (89 + 1 + 1 + 1 + 1 + 1 + 1 + 1))) (fs' := [.int 0, .int 0, .ref (fk_a g (89 + 1)), .ref (fk_a g (89 + 1 + 1)), .ref (fk_a g (89 + 1 + 1 + 1)), .ref (fk_a g (89 + 1 + 1 + 1 + 1)), .ref (fk_a g (89 + 1 + 1 + 1 + 1 + 1)), .ref (fk_a g (89 + 1 + 1 + 1 + 1 + 1 + 1)), .ref (fk_a g (89 + 1 + 1 + 1 + 1 + 1 + 1 + 1)), .null, .null, .null, .null, .null, .null, .null, .null, .null, .null, .int 0, .null, .int 0, .int 0, .int 0, .int 0, .int 0, .null, .int 0, .null, .int 0, .int 0]) rfl (ty := (.array .boolean)) (by decide +kernel) rfl rfl (Nat.le_of_ble_eq_true rfl) d_M_init_57 (fun H locs G => ?_)
  obtain ⟨C14, hC14⟩ : ∃ z : Nat → va_E, z = va_up C13 89 (.inr (7, [.int 0, .int 0, .ref (fk_a g (89 + 1)), .ref (fk_a g (89 + 1 + 1)), .ref (fk_a g (89 + 1 + 1 + 1)), .ref (fk_a g (89 + 1 + 1 + 1 + 1)), .ref (fk_a g (89 + 1 + 1 + 1 + 1 + 1)), .ref (fk_a g (89 + 1 + 1 + 1 + 1 + 1 + 1)), .ref (fk_a g (89 + 1 + 1 + 1 + 1 + 1 + 1 + 1)), .null, .null, .null, .null, .null, .null, .null, .null, .null, .null, .int 0, .null, .int 0, .int 0, .int 0, .int 0, .int 0, .null, .int 0, .null, .int 0, .int 0])) := ⟨_, rfl⟩
  rw [← hC14] at G
  have hk14 : C14 89 = .inr (7, [.int 0, .int 0, .ref (fk_a g (89 + 1)), .ref (fk_a g (89 + 1 + 1)), .ref (fk_a g (89 + 1 + 1 + 1)), .ref (fk_a g (89 + 1 + 1 + 1 + 1)), .ref (fk_a g (89 + 1 + 1 + 1 + 1 + 1)), .ref (fk_a g (89 + 1 + 1 + 1 + 1 + 1 + 1)), .ref (fk_a g (89 + 1 + 1 + 1 + 1 + 1 + 1 + 1)), .null, .null, .null, .null, .null, .null, .null, .null, .null, .null, .int 0, .null, .int 0, .int 0, .int 0, .int 0, .int 0, .null, .int 0, .null, .int 0, .int 0]) := by rw [hC14, va_up_self]
  refine lv_aload_n S.1 S.2.1 d_M_init_60 rfl (lv_at hl 0 rfl) ?_
  refine lv_bipush (v := nI 12) S.1 S.2.1 d_M_init_61 (by decide +kernel) ?_
  refine fk_bna hg S E h0 (by omega) G (atype := .int) fk_rw0 (fk_ra0 E) (N := 12) rfl (by decide) (a0 := (12, .inl (fun _ => 0))) rfl (by decide) ⟨by decide, by decide⟩ d_M_init_63 (fun H G => ?_)
  obtain ⟨C15, hC15⟩ : ∃ z : Nat → va_E, z = va_up C14 (89 + 1 + 1 + 1 + 1 + 1 + 1 + 1 + 1) (.inl (g.2.1 0, 12, .inl (fun _ => 0))) := ⟨_, rfl⟩
  rw [← hC15] at G
  have hk15 : C15 89 = .inr (7, [.int 0, .int 0, .ref (fk_a g (89 + 1)), .ref (fk_a g (89 + 1 + 1)), .ref (fk_a g (89 + 1 + 1 + 1)), .ref (fk_a g (89 + 1 + 1 + 1 + 1)), .ref (fk_a g (89 + 1 + 1 + 1 + 1 + 1)), .ref (fk_a g (89 + 1 + 1 + 1 + 1 + 1 + 1)), .ref (fk_a g (89 + 1 + 1 + 1 + 1 + 1 + 1 + 1)), .null, .null, .null, .null, .null, .null, .null, .null, .null, .null, .int 0, .null, .int 0, .int 0, .int 0, .int 0, .int 0, .null, .int 0, .null, .int 0, .int 0]) := by rw [hC15, va_up_ne _ _ (by omega)]; exact hk14
  refine fk_bpF hg S E hnm G 89 (by omega) hk15 rfl 9 (by decide) rfl i_631 rfl (v := .ref (fk_a g (89 + 1 + 1 + 1 + 1 + 1 + 1 + 1 + 1))) (fs' := [.int 0, .int 0, .ref (fk_a g (89 + 1)), .ref (fk_a g (89 + 1 + 1)), .ref (fk_a g (89 + 1 + 1 + 1)), .ref (fk_a g (89 + 1 + 1 + 1 + 1)), .ref (fk_a g (89 + 1 + 1 + 1 + 1 + 1)), .ref (fk_a g (89 + 1 + 1 + 1 + 1 + 1 + 1)), .ref (fk_a g (89 + 1 + 1 + 1 + 1 + 1 + 1 + 1)), .ref (fk_a g (89 + 1 + 1 + 1 + 1 + 1 + 1 + 1 + 1)), .null, .null, .null, .null, .null, .null, .null, .null, .null, .int 0, .null, .int 0, .int 0, .int 0, .int 0, .int 0, .null, .int 0, .null, .int 0, .int 0]) rfl (ty := (.array .int)) (by decide +kernel) rfl rfl (Nat.le_of_ble_eq_true rfl) d_M_init_65 (fun H locs G => ?_)
  obtain ⟨C16, hC16⟩ : ∃ z : Nat → va_E, z = va_up C15 89 (.inr (7, [.int 0, .int 0, .ref (fk_a g (89 + 1)), .ref (fk_a g (89 + 1 + 1)), .ref (fk_a g (89 + 1 + 1 + 1)), .ref (fk_a g (89 + 1 + 1 + 1 + 1)), .ref (fk_a g (89 + 1 + 1 + 1 + 1 + 1)), .ref (fk_a g (89 + 1 + 1 + 1 + 1 + 1 + 1)), .ref (fk_a g (89 + 1 + 1 + 1 + 1 + 1 + 1 + 1)), .ref (fk_a g (89 + 1 + 1 + 1 + 1 + 1 + 1 + 1 + 1)), .null, .null, .null, .null, .null, .null, .null, .null, .null, .int 0, .null, .int 0, .int 0, .int 0, .int 0, .int 0, .null, .int 0, .null, .int 0, .int 0])) := ⟨_, rfl⟩
  rw [← hC16] at G
  have hk16 : C16 89 = .inr (7, [.int 0, .int 0, .ref (fk_a g (89 + 1)), .ref (fk_a g (89 + 1 + 1)), .ref (fk_a g (89 + 1 + 1 + 1)), .ref (fk_a g (89 + 1 + 1 + 1 + 1)), .ref (fk_a g (89 + 1 + 1 + 1 + 1 + 1)), .ref (fk_a g (89 + 1 + 1 + 1 + 1 + 1 + 1)), .ref (fk_a g (89 + 1 + 1 + 1 + 1 + 1 + 1 + 1)), .ref (fk_a g (89 + 1 + 1 + 1 + 1 + 1 + 1 + 1 + 1)), .null, .null, .null, .null, .null, .null, .null, .null, .null, .int 0, .null, .int 0, .int 0, .int 0, .int 0, .int 0, .null, .int 0, .null, .int 0, .int 0]) := by rw [hC16, va_up_self]
  refine lv_aload_n S.1 S.2.1 d_M_init_68 rfl (lv_at hl 0 rfl) ?_
  refine lv_bipush (v := nI 12) S.1 S.2.1 d_M_init_69 (by decide +kernel) ?_
  refine fk_bna hg S E h0 (by omega) G (atype := .int) fk_rw0 (fk_ra0 E) (N := 12) rfl (by decide) (a0 := (12, .inl (fun _ => 0))) rfl (by decide) ⟨by decide, by decide⟩ d_M_init_71 (fun H G => ?_)
  obtain ⟨C17, hC17⟩ : ∃ z : Nat → va_E, z = va_up C16 (89 + 1 + 1 + 1 + 1 + 1 + 1 + 1 + 1 + 1) (.inl (g.2.1 0, 12, .inl (fun _ => 0))) := ⟨_, rfl⟩
  rw [← hC17] at G
  have hk17 : C17 89 = .inr (7, [.int 0, .int 0, .ref (fk_a g (89 + 1)), .ref (fk_a g (89 + 1 + 1)), .ref (fk_a g (89 + 1 + 1 + 1)), .ref (fk_a g (89 + 1 + 1 + 1 + 1)), .ref (fk_a g (89 + 1 + 1 + 1 + 1 + 1)), .ref (fk_a g (89 + 1 + 1 + 1 + 1 + 1 + 1)), .ref (fk_a g (89 + 1 + 1 + 1 + 1 + 1 + 1 + 1)), .ref (fk_a g (89 + 1 + 1 + 1 + 1 + 1 + 1 + 1 + 1)), .null, .null, .null, .null, .null, .null, .null, .null, .null, .int 0, .null, .int 0, .int 0, .int 0, .int 0, .int 0, .null, .int 0, .null, .int 0, .int 0]) := by rw [hC17, va_up_ne _ _ (by omega)]; exact hk16
  refine fk_bpF hg S E hnm G 89 (by omega) hk17 rfl 10 (by decide) rfl i_632 rfl (v := .ref (fk_a g (89 + 1 + 1 + 1 + 1 + 1 + 1 + 1 + 1 + 1))) (fs' := [.int 0, .int 0, .ref (fk_a g (89 + 1)), .ref (fk_a g (89 + 1 + 1)), .ref (fk_a g (89 + 1 + 1 + 1)), .ref (fk_a g (89 + 1 + 1 + 1 + 1)), .ref (fk_a g (89 + 1 + 1 + 1 + 1 + 1)), .ref (fk_a g (89 + 1 + 1 + 1 + 1 + 1 + 1)), .ref (fk_a g (89 + 1 + 1 + 1 + 1 + 1 + 1 + 1)), .ref (fk_a g (89 + 1 + 1 + 1 + 1 + 1 + 1 + 1 + 1)), .ref (fk_a g (89 + 1 + 1 + 1 + 1 + 1 + 1 + 1 + 1 + 1)), .null, .null, .null, .null, .null, .null, .null, .null, .int 0, .null, .int 0, .int 0, .int 0, .int 0, .int 0, .null, .int 0, .null, .int 0, .int 0]) rfl (ty := (.array .int)) (by decide +kernel) rfl rfl (Nat.le_of_ble_eq_true rfl) d_M_init_73 (fun H locs G => ?_)
  obtain ⟨C18, hC18⟩ : ∃ z : Nat → va_E, z = va_up C17 89 (.inr (7, [.int 0, .int 0, .ref (fk_a g (89 + 1)), .ref (fk_a g (89 + 1 + 1)), .ref (fk_a g (89 + 1 + 1 + 1)), .ref (fk_a g (89 + 1 + 1 + 1 + 1)), .ref (fk_a g (89 + 1 + 1 + 1 + 1 + 1)), .ref (fk_a g (89 + 1 + 1 + 1 + 1 + 1 + 1)), .ref (fk_a g (89 + 1 + 1 + 1 + 1 + 1 + 1 + 1)), .ref (fk_a g (89 + 1 + 1 + 1 + 1 + 1 + 1 + 1 + 1)), .ref (fk_a g (89 + 1 + 1 + 1 + 1 + 1 + 1 + 1 + 1 + 1)), .null, .null, .null, .null, .null, .null, .null, .null, .int 0, .null, .int 0, .int 0, .int 0, .int 0, .int 0, .null, .int 0, .null, .int 0, .int 0])) := ⟨_, rfl⟩
  rw [← hC18] at G
  have hk18 : C18 89 = .inr (7, [.int 0, .int 0, .ref (fk_a g (89 + 1)), .ref (fk_a g (89 + 1 + 1)), .ref (fk_a g (89 + 1 + 1 + 1)), .ref (fk_a g (89 + 1 + 1 + 1 + 1)), .ref (fk_a g (89 + 1 + 1 + 1 + 1 + 1)), .ref (fk_a g (89 + 1 + 1 + 1 + 1 + 1 + 1)), .ref (fk_a g (89 + 1 + 1 + 1 + 1 + 1 + 1 + 1)), .ref (fk_a g (89 + 1 + 1 + 1 + 1 + 1 + 1 + 1 + 1)), .ref (fk_a g (89 + 1 + 1 + 1 + 1 + 1 + 1 + 1 + 1 + 1)), .null, .null, .null, .null, .null, .null, .null, .null, .int 0, .null, .int 0, .int 0, .int 0, .int 0, .int 0, .null, .int 0, .null, .int 0, .int 0]) := by rw [hC18, va_up_self]
  refine lv_aload_n S.1 S.2.1 d_M_init_76 rfl (lv_at hl 0 rfl) ?_
  refine lv_bipush (v := nI 12) S.1 S.2.1 d_M_init_77 (by decide +kernel) ?_
  refine fk_bna hg S E h0 (by omega) G (atype := .int) fk_rw0 (fk_ra0 E) (N := 12) rfl (by decide) (a0 := (12, .inl (fun _ => 0))) rfl (by decide) ⟨by decide, by decide⟩ d_M_init_79 (fun H G => ?_)
  obtain ⟨C19, hC19⟩ : ∃ z : Nat → va_E, z = va_up C18 (89 + 1 + 1 + 1 + 1 + 1 + 1 + 1 + 1 + 1 + 1) (.inl (g.2.1 0, 12, .inl (fun _ => 0))) := ⟨_, rfl⟩
  rw [← hC19] at G
  have hk19 : C19 89 = .inr (7, [.int 0, .int 0, .ref (fk_a g (89 + 1)), .ref (fk_a g (89 + 1 + 1)), .ref (fk_a g (89 + 1 + 1 + 1)), .ref (fk_a g (89 + 1 + 1 + 1 + 1)), .ref (fk_a g (89 + 1 + 1 + 1 + 1 + 1)), .ref (fk_a g (89 + 1 + 1 + 1 + 1 + 1 + 1)), .ref (fk_a g (89 + 1 + 1 + 1 + 1 + 1 + 1 + 1)), .ref (fk_a g (89 + 1 + 1 + 1 + 1 + 1 + 1 + 1 + 1)), .ref (fk_a g (89 + 1 + 1 + 1 + 1 + 1 + 1 + 1 + 1 + 1)), .null, .null, .null, .null, .null, .null, .null, .null, .int 0, .null, .int 0, .int 0, .int 0, .int 0, .int 0, .null, .int 0, .null, .int 0, .int 0]) := by rw [hC19, va_up_ne _ _ (by omega)]; exact hk18
  refine fk_bpF hg S E hnm G 89 (by omega) hk19 rfl 11 (by decide) rfl i_633 rfl (v := .ref (fk_a g (89 + 1 + 1 + 1 + 1 + 1 + 1 + 1 + 1 + 1 + 1))) (fs' := [.int 0, .int 0, .ref (fk_a g (89 + 1)), .ref (fk_a g (89 + 1 + 1)), .ref (fk_a g (89 + 1 + 1 + 1)), .ref (fk_a g (89 + 1 + 1 + 1 + 1)), .ref (fk_a g (89 + 1 + 1 + 1 + 1 + 1)), .ref (fk_a g (89 + 1 + 1 + 1 + 1 + 1 + 1)), .ref (fk_a g (89 + 1 + 1 + 1 + 1 + 1 + 1 + 1)), .ref (fk_a g (89 + 1 + 1 + 1 + 1 + 1 + 1 + 1 + 1)), .ref (fk_a g (89 + 1 + 1 + 1 + 1 + 1 + 1 + 1 + 1 + 1)), .ref (fk_a g (89 + 1 + 1 + 1 + 1 + 1 + 1 + 1 + 1 + 1 + 1)), .null, .null, .null, .null, .null, .null, .null, .int 0, .null, .int 0, .int 0, .int 0, .int 0, .int 0, .null, .int 0, .null, .int 0, .int 0]) rfl (ty := (.array .int)) (by decide +kernel) rfl rfl (Nat.le_of_ble_eq_true rfl) d_M_init_81 (fun H locs G => ?_)
  obtain ⟨C20, hC20⟩ : ∃ z : Nat → va_E, z = va_up C19 89 (.inr (7, [.int 0, .int 0, .ref (fk_a g (89 + 1)), .ref (fk_a g (89 + 1 + 1)), .ref (fk_a g (89 + 1 + 1 + 1)), .ref (fk_a g (89 + 1 + 1 + 1 + 1)), .ref (fk_a g (89 + 1 + 1 + 1 + 1 + 1)), .ref (fk_a g (89 + 1 + 1 + 1 + 1 + 1 + 1)), .ref (fk_a g (89 + 1 + 1 + 1 + 1 + 1 + 1 + 1)), .ref (fk_a g (89 + 1 + 1 + 1 + 1 + 1 + 1 + 1 + 1)), .ref (fk_a g (89 + 1 + 1 + 1 + 1 + 1 + 1 + 1 + 1 + 1)), .ref (fk_a g (89 + 1 + 1 + 1 + 1 + 1 + 1 + 1 + 1 + 1 + 1)), .null, .null, .null, .null, .null, .null, .null, .int 0, .null, .int 0, .int 0, .int 0, .int 0, .int 0, .null, .int 0, .null, .int 0, .int 0])) := ⟨_, rfl⟩
  rw [← hC20] at G
  have hk20 : C20 89 = .inr (7, [.int 0, .int 0, .ref (fk_a g (89 + 1)), .ref (fk_a g (89 + 1 + 1)), .ref (fk_a g (89 + 1 + 1 + 1)), .ref (fk_a g (89 + 1 + 1 + 1 + 1)), .ref (fk_a g (89 + 1 + 1 + 1 + 1 + 1)), .ref (fk_a g (89 + 1 + 1 + 1 + 1 + 1 + 1)), .ref (fk_a g (89 + 1 + 1 + 1 + 1 + 1 + 1 + 1)), .ref (fk_a g (89 + 1 + 1 + 1 + 1 + 1 + 1 + 1 + 1)), .ref (fk_a g (89 + 1 + 1 + 1 + 1 + 1 + 1 + 1 + 1 + 1)), .ref (fk_a g (89 + 1 + 1 + 1 + 1 + 1 + 1 + 1 + 1 + 1 + 1)), .null, .null, .null, .null, .null, .null, .null, .int 0, .null, .int 0, .int 0, .int 0, .int 0, .int 0, .null, .int 0, .null, .int 0, .int 0]) := by rw [hC20, va_up_self]
  refine lv_aload_n S.1 S.2.1 d_M_init_84 rfl (lv_at hl 0 rfl) ?_
  refine lv_sipush (v := nI 480) S.1 S.2.1 d_M_init_85 (by decide +kernel) ?_
  refine fk_bna hg S E h0 (by omega) G (atype := .int) fk_rw0 (fk_ra0 E) (N := 480) rfl (by decide) (a0 := (480, .inl (fun _ => 0))) rfl (by decide) ⟨by decide, by decide⟩ d_M_init_88 (fun H G => ?_)
  obtain ⟨C21, hC21⟩ : ∃ z : Nat → va_E, z = va_up C20 (89 + 1 + 1 + 1 + 1 + 1 + 1 + 1 + 1 + 1 + 1 + 1) (.inl (g.2.1 0, 480, .inl (fun _ => 0))) := ⟨_, rfl⟩
  rw [← hC21] at G
  have hk21 : C21 89 = .inr (7, [.int 0, .int 0, .ref (fk_a g (89 + 1)), .ref (fk_a g (89 + 1 + 1)), .ref (fk_a g (89 + 1 + 1 + 1)), .ref (fk_a g (89 + 1 + 1 + 1 + 1)), .ref (fk_a g (89 + 1 + 1 + 1 + 1 + 1)), .ref (fk_a g (89 + 1 + 1 + 1 + 1 + 1 + 1)), .ref (fk_a g (89 + 1 + 1 + 1 + 1 + 1 + 1 + 1)), .ref (fk_a g (89 + 1 + 1 + 1 + 1 + 1 + 1 + 1 + 1)), .ref (fk_a g (89 + 1 + 1 + 1 + 1 + 1 + 1 + 1 + 1 + 1)), .ref (fk_a g (89 + 1 + 1 + 1 + 1 + 1 + 1 + 1 + 1 + 1 + 1)), .null, .null, .null, .null, .null, .null, .null, .int 0, .null, .int 0, .int 0, .int 0, .int 0, .int 0, .null, .int 0, .null, .int 0, .int 0]) := by rw [hC21, va_up_ne _ _ (by omega)]; exact hk20
  refine fk_bpF hg S E hnm G 89 (by omega) hk21 rfl 12 (by decide) rfl i_634 rfl (v := .ref (fk_a g (89 + 1 + 1 + 1 + 1 + 1 + 1 + 1 + 1 + 1 + 1 + 1))) (fs' := [.int 0, .int 0, .ref (fk_a g (89 + 1)), .ref (fk_a g (89 + 1 + 1)), .ref (fk_a g (89 + 1 + 1 + 1)), .ref (fk_a g (89 + 1 + 1 + 1 + 1)), .ref (fk_a g (89 + 1 + 1 + 1 + 1 + 1)), .ref (fk_a g (89 + 1 + 1 + 1 + 1 + 1 + 1)), .ref (fk_a g (89 + 1 + 1 + 1 + 1 + 1 + 1 + 1)), .ref (fk_a g (89 + 1 + 1 + 1 + 1 + 1 + 1 + 1 + 1)), .ref (fk_a g (89 + 1 + 1 + 1 + 1 + 1 + 1 + 1 + 1 + 1)), .ref (fk_a g (89 + 1 + 1 + 1 + 1 + 1 + 1 + 1 + 1 + 1 + 1)), .ref (fk_a g (89 + 1 + 1 + 1 + 1 + 1 + 1 + 1 + 1 + 1 + 1 + 1)), .null, .null, .null, .null, .null, .null, .int 0, .null, .int 0, .int 0, .int 0, .int 0, .int 0, .null, .int 0, .null, .int 0, .int 0]) rfl (ty := (.array .int)) (by decide +kernel) rfl rfl (Nat.le_of_ble_eq_true rfl) d_M_init_90 (fun H locs G => ?_)
  obtain ⟨C22, hC22⟩ : ∃ z : Nat → va_E, z = va_up C21 89 (.inr (7, [.int 0, .int 0, .ref (fk_a g (89 + 1)), .ref (fk_a g (89 + 1 + 1)), .ref (fk_a g (89 + 1 + 1 + 1)), .ref (fk_a g (89 + 1 + 1 + 1 + 1)), .ref (fk_a g (89 + 1 + 1 + 1 + 1 + 1)), .ref (fk_a g (89 + 1 + 1 + 1 + 1 + 1 + 1)), .ref (fk_a g (89 + 1 + 1 + 1 + 1 + 1 + 1 + 1)), .ref (fk_a g (89 + 1 + 1 + 1 + 1 + 1 + 1 + 1 + 1)), .ref (fk_a g (89 + 1 + 1 + 1 + 1 + 1 + 1 + 1 + 1 + 1)), .ref (fk_a g (89 + 1 + 1 + 1 + 1 + 1 + 1 + 1 + 1 + 1 + 1)), .ref (fk_a g (89 + 1 + 1 + 1 + 1 + 1 + 1 + 1 + 1 + 1 + 1 + 1)), .null, .null, .null, .null, .null, .null, .int 0, .null, .int 0, .int 0, .int 0, .int 0, .int 0, .null, .int 0, .null, .int 0, .int 0])) := ⟨_, rfl⟩
  rw [← hC22] at G
  have hk22 : C22 89 = .inr (7, [.int 0, .int 0, .ref (fk_a g (89 + 1)), .ref (fk_a g (89 + 1 + 1)), .ref (fk_a g (89 + 1 + 1 + 1)), .ref (fk_a g (89 + 1 + 1 + 1 + 1)), .ref (fk_a g (89 + 1 + 1 + 1 + 1 + 1)), .ref (fk_a g (89 + 1 + 1 + 1 + 1 + 1 + 1)), .ref (fk_a g (89 + 1 + 1 + 1 + 1 + 1 + 1 + 1)), .ref (fk_a g (89 + 1 + 1 + 1 + 1 + 1 + 1 + 1 + 1)), .ref (fk_a g (89 + 1 + 1 + 1 + 1 + 1 + 1 + 1 + 1 + 1)), .ref (fk_a g (89 + 1 + 1 + 1 + 1 + 1 + 1 + 1 + 1 + 1 + 1)), .ref (fk_a g (89 + 1 + 1 + 1 + 1 + 1 + 1 + 1 + 1 + 1 + 1 + 1)), .null, .null, .null, .null, .null, .null, .int 0, .null, .int 0, .int 0, .int 0, .int 0, .int 0, .null, .int 0, .null, .int 0, .int 0]) := by rw [hC22, va_up_self]
  refine lv_aload_n S.1 S.2.1 d_M_init_93 rfl (lv_at hl 0 rfl) ?_
  refine lv_sipush (v := nI 480) S.1 S.2.1 d_M_init_94 (by decide +kernel) ?_
  refine fk_bna hg S E h0 (by omega) G (atype := .int) fk_rw0 (fk_ra0 E) (N := 480) rfl (by decide) (a0 := (480, .inl (fun _ => 0))) rfl (by decide) ⟨by decide, by decide⟩ d_M_init_97 (fun H G => ?_)
  obtain ⟨C23, hC23⟩ : ∃ z : Nat → va_E, z = va_up C22 (89 + 1 + 1 + 1 + 1 + 1 + 1 + 1 + 1 + 1 + 1 + 1 + 1) (.inl (g.2.1 0, 480, .inl (fun _ => 0))) := ⟨_, rfl⟩
  rw [← hC23] at G
  have hk23 : C23 89 = .inr (7, [.int 0, .int 0, .ref (fk_a g (89 + 1)), .ref (fk_a g (89 + 1 + 1)), .ref (fk_a g (89 + 1 + 1 + 1)), .ref (fk_a g (89 + 1 + 1 + 1 + 1)), .ref (fk_a g (89 + 1 + 1 + 1 + 1 + 1)), .ref (fk_a g (89 + 1 + 1 + 1 + 1 + 1 + 1)), .ref (fk_a g (89 + 1 + 1 + 1 + 1 + 1 + 1 + 1)), .ref (fk_a g (89 + 1 + 1 + 1 + 1 + 1 + 1 + 1 + 1)), .ref (fk_a g (89 + 1 + 1 + 1 + 1 + 1 + 1 + 1 + 1 + 1)), .ref (fk_a g (89 + 1 + 1 + 1 + 1 + 1 + 1 + 1 + 1 + 1 + 1)), .ref (fk_a g (89 + 1 + 1 + 1 + 1 + 1 + 1 + 1 + 1 + 1 + 1 + 1)), .null, .null, .null, .null, .null, .null, .int 0, .null, .int 0, .int 0, .int 0, .int 0, .int 0, .null, .int 0, .null, .int 0, .int 0]) := by rw [hC23, va_up_ne _ _ (by omega)]; exact hk22
  refine fk_bpF hg S E hnm G 89 (by omega) hk23 rfl 13 (by decide) rfl i_635 rfl (v := .ref (fk_a g (89 + 1 + 1 + 1 + 1 + 1 + 1 + 1 + 1 + 1 + 1 + 1 + 1))) (fs' := [.int 0, .int 0, .ref (fk_a g (89 + 1)), .ref (fk_a g (89 + 1 + 1)), .ref (fk_a g (89 + 1 + 1 + 1)), .ref (fk_a g (89 + 1 + 1 + 1 + 1)), .ref (fk_a g (89 + 1 + 1 + 1 + 1 + 1)), .ref (fk_a g (89 + 1 + 1 + 1 + 1 + 1 + 1)), .ref (fk_a g (89 + 1 + 1 + 1 + 1 + 1 + 1 + 1)), .ref (fk_a g (89 + 1 + 1 + 1 + 1 + 1 + 1 + 1 + 1)), .ref (fk_a g (89 + 1 + 1 + 1 + 1 + 1 + 1 + 1 + 1 + 1)), .ref (fk_a g (89 + 1 + 1 + 1 + 1 + 1 + 1 + 1 + 1 + 1 + 1)), .ref (fk_a g (89 + 1 + 1 + 1 + 1 + 1 + 1 + 1 + 1 + 1 + 1 + 1)), .ref (fk_a g (89 + 1 + 1 + 1 + 1 + 1 + 1 + 1 + 1 + 1 + 1 + 1 + 1)), .null, .null, .null, .null, .null, .int 0, .null, .int 0, .int 0, .int 0, .int 0, .int 0, .null, .int 0, .null, .int 0, .int 0]) rfl (ty := (.array .int)) (by decide +kernel) rfl rfl (Nat.le_of_ble_eq_true rfl) d_M_init_99 (fun H locs G => ?_)
  obtain ⟨C24, hC24⟩ : ∃ z : Nat → va_E, z = va_up C23 89 (.inr (7, [.int 0, .int 0, .ref (fk_a g (89 + 1)), .ref (fk_a g (89 + 1 + 1)), .ref (fk_a g (89 + 1 + 1 + 1)), .ref (fk_a g (89 + 1 + 1 + 1 + 1)), .ref (fk_a g (89 + 1 + 1 + 1 + 1 + 1)), .ref (fk_a g (89 + 1 + 1 + 1 + 1 + 1 + 1)), .ref (fk_a g (89 + 1 + 1 + 1 + 1 + 1 + 1 + 1)), .ref (fk_a g (89 + 1 + 1 + 1 + 1 + 1 + 1 + 1 + 1)), .ref (fk_a g (89 + 1 + 1 + 1 + 1 + 1 + 1 + 1 + 1 + 1)), .ref (fk_a g (89 + 1 + 1 + 1 + 1 + 1 + 1 + 1 + 1 + 1 + 1)), .ref (fk_a g (89 + 1 + 1 + 1 + 1 + 1 + 1 + 1 + 1 + 1 + 1 + 1)), .ref (fk_a g (89 + 1 + 1 + 1 + 1 + 1 + 1 + 1 + 1 + 1 + 1 + 1 + 1)), .null, .null, .null, .null, .null, .int 0, .null, .int 0, .int 0, .int 0, .int 0, .int 0, .null, .int 0, .null, .int 0, .int 0])) := ⟨_, rfl⟩
  rw [← hC24] at G
  have hk24 : C24 89 = .inr (7, [.int 0, .int 0, .ref (fk_a g (89 + 1)), .ref (fk_a g (89 + 1 + 1)), .ref (fk_a g (89 + 1 + 1 + 1)), .ref (fk_a g (89 + 1 + 1 + 1 + 1)), .ref (fk_a g (89 + 1 + 1 + 1 + 1 + 1)), .ref (fk_a g (89 + 1 + 1 + 1 + 1 + 1 + 1)), .ref (fk_a g (89 + 1 + 1 + 1 + 1 + 1 + 1 + 1)), .ref (fk_a g (89 + 1 + 1 + 1 + 1 + 1 + 1 + 1 + 1)), .ref (fk_a g (89 + 1 + 1 + 1 + 1 + 1 + 1 + 1 + 1 + 1)), .ref (fk_a g (89 + 1 + 1 + 1 + 1 + 1 + 1 + 1 + 1 + 1 + 1)), .ref (fk_a g (89 + 1 + 1 + 1 + 1 + 1 + 1 + 1 + 1 + 1 + 1 + 1)), .ref (fk_a g (89 + 1 + 1 + 1 + 1 + 1 + 1 + 1 + 1 + 1 + 1 + 1 + 1)), .null, .null, .null, .null, .null, .int 0, .null, .int 0, .int 0, .int 0, .int 0, .int 0, .null, .int 0, .null, .int 0, .int 0]) := by rw [hC24, va_up_self]
  refine lv_aload_n S.1 S.2.1 d_M_init_102 rfl (lv_at hl 0 rfl) ?_
  refine lv_sipush (v := nI 480) S.1 S.2.1 d_M_init_103 (by decide +kernel) ?_
  refine fk_bna hg S E h0 (by omega) G (atype := .int) fk_rw0 (fk_ra0 E) (N := 480) rfl (by decide) (a0 := (480, .inl (fun _ => 0))) rfl (by decide) ⟨by decide, by decide⟩ d_M_init_106 (fun H G => ?_)
  obtain ⟨C25, hC25⟩ : ∃ z : Nat → va_E, z = va_up C24 (89 + 1 + 1 + 1 + 1 + 1 + 1 + 1 + 1 + 1 + 1 + 1 + 1 + 1) (.inl (g.2.1 0, 480, .inl (fun _ => 0))) := ⟨_, rfl⟩
  rw [← hC25] at G
  have hk25 : C25 89 = .inr (7, [.int 0, .int 0, .ref (fk_a g (89 + 1)), .ref (fk_a g (89 + 1 + 1)), .ref (fk_a g (89 + 1 + 1 + 1)), .ref (fk_a g (89 + 1 + 1 + 1 + 1)), .ref (fk_a g (89 + 1 + 1 + 1 + 1 + 1)), .ref (fk_a g (89 + 1 + 1 + 1 + 1 + 1 + 1)), .ref (fk_a g (89 + 1 + 1 + 1 + 1 + 1 + 1 + 1)), .ref (fk_a g (89 + 1 + 1 + 1 + 1 + 1 + 1 + 1 + 1)), .ref (fk_a g (89 + 1 + 1 + 1 + 1 + 1 + 1 + 1 + 1 + 1)), .ref (fk_a g (89 + 1 + 1 + 1 + 1 + 1 + 1 + 1 + 1 + 1 + 1)), .ref (fk_a g (89 + 1 + 1 + 1 + 1 + 1 + 1 + 1 + 1 + 1 + 1 + 1)), .ref (fk_a g (89 + 1 + 1 + 1 + 1 + 1 + 1 + 1 + 1 + 1 + 1 + 1 + 1)), .null, .null, .null, .null, .null, .int 0, .null, .int 0, .int 0, .int 0, .int 0, .int 0, .null, .int 0, .null, .int 0, .int 0]) := by rw [hC25, va_up_ne _ _ (by omega)]; exact hk24
  refine fk_bpF hg S E hnm G 89 (by omega) hk25 rfl 14 (by decide) rfl i_636 rfl (v := .ref (fk_a g (89 + 1 + 1 + 1 + 1 + 1 + 1 + 1 + 1 + 1 + 1 + 1 + 1 + 1))) (fs' := [.int 0, .int 0, .ref (fk_a g (89 + 1)), .ref (fk_a g (89 + 1 + 1)), .ref (fk_a g (89 + 1 + 1 + 1)), .ref (fk_a g (89 + 1 + 1 + 1 + 1)), .ref (fk_a g (89 + 1 + 1 + 1 + 1 + 1)), .ref (fk_a g (89 + 1 + 1 + 1 + 1 + 1 + 1)), .ref (fk_a g (89 + 1 + 1 + 1 + 1 + 1 + 1 + 1)), .ref (fk_a g (89 + 1 + 1 + 1 + 1 + 1 + 1 + 1 + 1)), .ref (fk_a g (89 + 1 + 1 + 1 + 1 + 1 + 1 + 1 + 1 + 1)), .ref (fk_a g (89 + 1 + 1 + 1 + 1 + 1 + 1 + 1 + 1 + 1 + 1)), .ref (fk_a g (89 + 1 + 1 + 1 + 1 + 1 + 1 + 1 + 1 + 1 + 1 + 1)), .ref (fk_a g (89 + 1 + 1 + 1 + 1 + 1 + 1 + 1 + 1 + 1 + 1 + 1 + 1)), .ref (fk_a g (89 + 1 + 1 + 1 + 1 + 1 + 1 + 1 + 1 + 1 + 1 + 1 + 1 + 1)), .null, .null, .null, .null, .int 0, .null, .int 0, .int 0, .int 0, .int 0, .int 0, .null, .int 0, .null, .int 0, .int 0]) rfl (ty := (.array .int)) (by decide +kernel) rfl rfl (Nat.le_of_ble_eq_true rfl) d_M_init_108 (fun H locs G => ?_)
  obtain ⟨C26, hC26⟩ : ∃ z : Nat → va_E, z = va_up C25 89 (.inr (7, [.int 0, .int 0, .ref (fk_a g (89 + 1)), .ref (fk_a g (89 + 1 + 1)), .ref (fk_a g (89 + 1 + 1 + 1)), .ref (fk_a g (89 + 1 + 1 + 1 + 1)), .ref (fk_a g (89 + 1 + 1 + 1 + 1 + 1)), .ref (fk_a g (89 + 1 + 1 + 1 + 1 + 1 + 1)), .ref (fk_a g (89 + 1 + 1 + 1 + 1 + 1 + 1 + 1)), .ref (fk_a g (89 + 1 + 1 + 1 + 1 + 1 + 1 + 1 + 1)), .ref (fk_a g (89 + 1 + 1 + 1 + 1 + 1 + 1 + 1 + 1 + 1)), .ref (fk_a g (89 + 1 + 1 + 1 + 1 + 1 + 1 + 1 + 1 + 1 + 1)), .ref (fk_a g (89 + 1 + 1 + 1 + 1 + 1 + 1 + 1 + 1 + 1 + 1 + 1)), .ref (fk_a g (89 + 1 + 1 + 1 + 1 + 1 + 1 + 1 + 1 + 1 + 1 + 1 + 1)), .ref (fk_a g (89 + 1 + 1 + 1 + 1 + 1 + 1 + 1 + 1 + 1 + 1 + 1 + 1 + 1)), .null, .null, .null, .null, .int 0, .null, .int 0, .int 0, .int 0, .int 0, .int 0, .null, .int 0, .null, .int 0, .int 0])) := ⟨_, rfl⟩
  rw [← hC26] at G
  have hk26 : C26 89 = .inr (7, [.int 0, .int 0, .ref (fk_a g (89 + 1)), .ref (fk_a g (89 + 1 + 1)), .ref (fk_a g (89 + 1 + 1 + 1)), .ref (fk_a g (89 + 1 + 1 + 1 + 1)), .ref (fk_a g (89 + 1 + 1 + 1 + 1 + 1)), .ref (fk_a g (89 + 1 + 1 + 1 + 1 + 1 + 1)), .ref (fk_a g (89 + 1 + 1 + 1 + 1 + 1 + 1 + 1)), .ref (fk_a g (89 + 1 + 1 + 1 + 1 + 1 + 1 + 1 + 1)), .ref (fk_a g (89 + 1 + 1 + 1 + 1 + 1 + 1 + 1 + 1 + 1)), .ref (fk_a g (89 + 1 + 1 + 1 + 1 + 1 + 1 + 1 + 1 + 1 + 1)), .ref (fk_a g (89 + 1 + 1 + 1 + 1 + 1 + 1 + 1 + 1 + 1 + 1 + 1)), .ref (fk_a g (89 + 1 + 1 + 1 + 1 + 1 + 1 + 1 + 1 + 1 + 1 + 1 + 1)), .ref (fk_a g (89 + 1 + 1 + 1 + 1 + 1 + 1 + 1 + 1 + 1 + 1 + 1 + 1 + 1)), .null, .null, .null, .null, .int 0, .null, .int 0, .int 0, .int 0, .int 0, .int 0, .null, .int 0, .null, .int 0, .int 0]) := by rw [hC26, va_up_self]
  refine lv_aload_n S.1 S.2.1 d_M_init_111 rfl (lv_at hl 0 rfl) ?_
  refine lv_sipush (v := nI 480) S.1 S.2.1 d_M_init_112 (by decide +kernel) ?_
  refine fk_bna hg S E h0 (by omega) G (atype := .int) fk_rw0 (fk_ra0 E) (N := 480) rfl (by decide) (a0 := (480, .inl (fun _ => 0))) rfl (by decide) ⟨by decide, by decide⟩ d_M_init_115 (fun H G => ?_)
  obtain ⟨C27, hC27⟩ : ∃ z : Nat → va_E, z = va_up C26 (89 + 1 + 1 + 1 + 1 + 1 + 1 + 1 + 1 + 1 + 1 + 1 + 1 + 1 + 1) (.inl (g.2.1 0, 480, .inl (fun _ => 0))) := ⟨_, rfl⟩
  rw [← hC27] at G
  have hk27 : C27 89 = .inr (7, [.int 0, .int 0, .ref (fk_a g (89 + 1)), .ref (fk_a g (89 + 1 + 1)), .ref (fk_a g (89 + 1 + 1 + 1)), .ref (fk_a g (89 + 1 + 1 + 1 + 1)), .ref (fk_a g (89 + 1 + 1 + 1 + 1 + 1)), .ref (fk_a g (89 + 1 + 1 + 1 + 1 + 1 + 1)), .ref (fk_a g (89 + 1 + 1 + 1 + 1 + 1 + 1 + 1)), .ref (fk_a g (89 + 1 + 1 + 1 + 1 + 1 + 1 + 1 + 1)), .ref (fk_a g (89 + 1 + 1 + 1 + 1 + 1 + 1 + 1 + 1 + 1)), .ref (fk_a g (89 + 1 + 1 + 1 + 1 + 1 + 1 + 1 + 1 + 1 + 1)), .ref (fk_a g (89 + 1 + 1 + 1 + 1 + 1 + 1 + 1 + 1 + 1 + 1 + 1)), .ref (fk_a g (89 + 1 + 1 + 1 + 1 + 1 + 1 + 1 + 1 + 1 + 1 + 1 + 1)), .ref (fk_a g (89 + 1 + 1 + 1 + 1 + 1 + 1 + 1 + 1 + 1 + 1 + 1 + 1 + 1)), .null, .null, .null, .null, .int 0, .null, .int 0, .int 0, .int 0, .int 0, .int 0, .null, .int 0, .null, .int 0, .int 0]) := by rw [hC27, va_up_ne _ _ (by omega)]; exact hk26
  refine fk_bpF hg S E hnm G 89 (by omega) hk27 rfl 15 (by decide) rfl i_637 rfl (v := .ref (fk_a g (89 + 1 + 1 + 1 + 1 + 1 + 1 + 1 + 1 + 1 + 1 + 1 + 1 + 1 + 1))) (fs' := [.int 0, .int 0, .ref (fk_a g (89 + 1)), .ref (fk_a g (89 + 1 + 1)), .ref (fk_a g (89 + 1 + 1 + 1)), .ref (fk_a g (89 + 1 + 1 + 1 + 1)), .ref (fk_a g (89 + 1 + 1 + 1 + 1 + 1)), .ref (fk_a g (89 + 1 + 1 + 1 + 1 + 1 + 1)), .ref (fk_a g (89 + 1 + 1 + 1 + 1 + 1 + 1 + 1)), .ref (fk_a g (89 + 1 + 1 + 1 + 1 + 1 + 1 + 1 + 1)), .ref (fk_a g (89 + 1 + 1 + 1 + 1 + 1 + 1 + 1 + 1 + 1)), .ref (fk_a g (89 + 1 + 1 + 1 + 1 + 1 + 1 + 1 + 1 + 1 + 1)), .ref (fk_a g (89 + 1 + 1 + 1 + 1 + 1 + 1 + 1 + 1 + 1 + 1 + 1)), .ref (fk_a g (89 + 1 + 1 + 1 + 1 + 1 + 1 + 1 + 1 + 1 + 1 + 1 + 1)), .ref (fk_a g (89 + 1 + 1 + 1 + 1 + 1 + 1 + 1 + 1 + 1 + 1 + 1 + 1 + 1)), .ref (fk_a g (89 + 1 + 1 + 1 + 1 + 1 + 1 + 1 + 1 + 1 + 1 + 1 + 1 + 1 + 1)), .null, .null, .null, .int 0, .null, .int 0, .int 0, .int 0, .int 0, .int 0, .null, .int 0, .null, .int 0, .int 0]) rfl (ty := (.array .int)) (by decide +kernel) rfl rfl (Nat.le_of_ble_eq_true rfl) d_M_init_117 (fun H locs G => ?_)
  obtain ⟨C28, hC28⟩ : ∃ z : Nat → va_E, z = va_up C27 89 (.inr (7, [.int 0, .int 0, .ref (fk_a g (89 + 1)), .ref (fk_a g (89 + 1 + 1)), .ref (fk_a g (89 + 1 + 1 + 1)), .ref (fk_a g (89 + 1 + 1 + 1 + 1)), .ref (fk_a g (89 + 1 + 1 + 1 + 1 + 1)), .ref (fk_a g (89 + 1 + 1 + 1 + 1 + 1 + 1)), .ref (fk_a g (89 + 1 + 1 + 1 + 1 + 1 + 1 + 1)), .ref (fk_a g (89 + 1 + 1 + 1 + 1 + 1 + 1 + 1 + 1)), .ref (fk_a g (89 + 1 + 1 + 1 + 1 + 1 + 1 + 1 + 1 + 1)), .ref (fk_a g (89 + 1 + 1 + 1 + 1 + 1 + 1 + 1 + 1 + 1 + 1)), .ref (fk_a g (89 + 1 + 1 + 1 + 1 + 1 + 1 + 1 + 1 + 1 + 1 + 1)), .ref (fk_a g (89 + 1 + 1 + 1 + 1 + 1 + 1 + 1 + 1 + 1 + 1 + 1 + 1)), .ref (fk_a g (89 + 1 + 1 + 1 + 1 + 1 + 1 + 1 + 1 + 1 + 1 + 1 + 1 + 1)), .ref (fk_a g (89 + 1 + 1 + 1 + 1 + 1 + 1 + 1 + 1 + 1 + 1 + 1 + 1 + 1 + 1)), .null, .null, .null, .int 0, .null, .int 0, .int 0, .int 0, .int 0, .int 0, .null, .int 0, .null, .int 0, .int 0])) := ⟨_, rfl⟩
  rw [← hC28] at G
  have hk28 : C28 89 = .inr (7, [.int 0, .int 0, .ref (fk_a g (89 + 1)), .ref (fk_a g (89 + 1 + 1)), .ref (fk_a g (89 + 1 + 1 + 1)), .ref (fk_a g (89 + 1 + 1 + 1 + 1)), .ref (fk_a g (89 + 1 + 1 + 1 + 1 + 1)), .ref (fk_a g (89 + 1 + 1 + 1 + 1 + 1 + 1)), .ref (fk_a g (89 + 1 + 1 + 1 + 1 + 1 + 1 + 1)), .ref (fk_a g (89 + 1 + 1 + 1 + 1 + 1 + 1 + 1 + 1)), .ref (fk_a g (89 + 1 + 1 + 1 + 1 + 1 + 1 + 1 + 1 + 1)), .ref (fk_a g (89 + 1 + 1 + 1 + 1 + 1 + 1 + 1 + 1 + 1 + 1)), .ref (fk_a g (89 + 1 + 1 + 1 + 1 + 1 + 1 + 1 + 1 + 1 + 1 + 1)), .ref (fk_a g (89 + 1 + 1 + 1 + 1 + 1 + 1 + 1 + 1 + 1 + 1 + 1 + 1)), .ref (fk_a g (89 + 1 + 1 + 1 + 1 + 1 + 1 + 1 + 1 + 1 + 1 + 1 + 1 + 1)), .ref (fk_a g (89 + 1 + 1 + 1 + 1 + 1 + 1 + 1 + 1 + 1 + 1 + 1 + 1 + 1 + 1)), .null, .null, .null, .int 0, .null, .int 0, .int 0, .int 0, .int 0, .int 0, .null, .int 0, .null, .int 0, .int 0]) := by rw [hC28, va_up_self]
  refine lv_aload_n S.1 S.2.1 d_M_init_120 rfl (lv_at hl 0 rfl) ?_
  refine lv_sipush (v := nI 480) S.1 S.2.1 d_M_init_121 (by decide +kernel) ?_
  refine fk_bna hg S E h0 (by omega) G (atype := .int) fk_rw0 (fk_ra0 E) (N := 480) rfl (by decide) (a0 := (480, .inl (fun _ => 0))) rfl (by decide) ⟨by decide, by decide⟩ d_M_init_124 (fun H G => ?_)
  obtain ⟨C29, hC29⟩ : ∃ z : Nat → va_E, z = va_up C28 (89 + 1 + 1 + 1 + 1 + 1 + 1 + 1 + 1 + 1 + 1 + 1 + 1 + 1 + 1 + 1) (.inl (g.2.1 0, 480, .inl (fun _ => 0))) := ⟨_, rfl⟩
  rw [← hC29] at G
  have hk29 : C29 89 = .inr (7, [.int 0, .int 0, .ref (fk_a g (89 + 1)), .ref (fk_a g (89 + 1 + 1)), .ref (fk_a g (89 + 1 + 1 + 1)), .ref (fk_a g (89 + 1 + 1 + 1 + 1)), .ref (fk_a g (89 + 1 + 1 + 1 + 1 + 1)), .ref (fk_a g (89 + 1 + 1 + 1 + 1 + 1 + 1)), .ref (fk_a g (89 + 1 + 1 + 1 + 1 + 1 + 1 + 1)), .ref (fk_a g (89 + 1 + 1 + 1 + 1 + 1 + 1 + 1 + 1)), .ref (fk_a g (89 + 1 + 1 + 1 + 1 + 1 + 1 + 1 + 1 + 1)), .ref (fk_a g (89 + 1 + 1 + 1 + 1 + 1 + 1 + 1 + 1 + 1 + 1)), .ref (fk_a g (89 + 1 + 1 + 1 + 1 + 1 + 1 + 1 + 1 + 1 + 1 + 1)), .ref (fk_a g (89 + 1 + 1 + 1 + 1 + 1 + 1 + 1 + 1 + 1 + 1 + 1 + 1)), .ref (fk_a g (89 + 1 + 1 + 1 + 1 + 1 + 1 + 1 + 1 + 1 + 1 + 1 + 1 + 1)), .ref (fk_a g (89 + 1 + 1 + 1 + 1 + 1 + 1 + 1 + 1 + 1 + 1 + 1 + 1 + 1 + 1)), .null, .null, .null, .int 0, .null, .int 0, .int 0, .int 0, .int 0, .int 0, .null, .int 0, .null, .int 0, .int 0]) := by rw [hC29, va_up_ne _ _ (by omega)]; exact hk28
  refine fk_bpF hg S E hnm G 89 (by omega) hk29 rfl 16 (by decide) rfl i_638 rfl (v := .ref (fk_a g (89 + 1 + 1 + 1 + 1 + 1 + 1 + 1 + 1 + 1 + 1 + 1 + 1 + 1 + 1 + 1))) (fs' := [.int 0, .int 0, .ref (fk_a g (89 + 1)), .ref (fk_a g (89 + 1 + 1)), .ref (fk_a g (89 + 1 + 1 + 1)), .ref (fk_a g (89 + 1 + 1 + 1 + 1)), .ref (fk_a g (89 + 1 + 1 + 1 + 1 + 1)), .ref (fk_a g (89 + 1 + 1 + 1 + 1 + 1 + 1)), .ref (fk_a g (89 + 1 + 1 + 1 + 1 + 1 + 1 + 1)), .ref (fk_a g (89 + 1 + 1 + 1 + 1 + 1 + 1 + 1 + 1)), .ref (fk_a g (89 + 1 + 1 + 1 + 1 + 1 + 1 + 1 + 1 + 1)), .ref (fk_a g (89 + 1 + 1 + 1 + 1 + 1 + 1 + 1 + 1 + 1 + 1)), .ref (fk_a g (89 + 1 + 1 + 1 + 1 + 1 + 1 + 1 + 1 + 1 + 1 + 1)), .ref (fk_a g (89 + 1 + 1 + 1 + 1 + 1 + 1 + 1 + 1 + 1 + 1 + 1 + 1)), .ref (fk_a g (89 + 1 + 1 + 1 + 1 + 1 + 1 + 1 + 1 + 1 + 1 + 1 + 1 + 1)), .ref (fk_a g (89 + 1 + 1 + 1 + 1 + 1 + 1 + 1 + 1 + 1 + 1 + 1 + 1 + 1 + 1)), .ref (fk_a g (89 + 1 + 1 + 1 + 1 + 1 + 1 + 1 + 1 + 1 + 1 + 1 + 1 + 1 + 1 + 1)), .null, .null, .int 0, .null, .int 0, .int 0, .int 0, .int 0, .int 0, .null, .int 0, .null, .int 0, .int 0]) rfl (ty := (.array .int)) (by decide +kernel) rfl rfl (Nat.le_of_ble_eq_true rfl) d_M_init_126 (fun H locs G => ?_)
  obtain ⟨C30, hC30⟩ : ∃ z : Nat → va_E, z = va_up C29 89 (.inr (7, [.int 0, .int 0, .ref (fk_a g (89 + 1)), .ref (fk_a g (89 + 1 + 1)), .ref (fk_a g (89 + 1 + 1 + 1)), .ref (fk_a g (89 + 1 + 1 + 1 + 1)), .ref (fk_a g (89 + 1 + 1 + 1 + 1 + 1)), .ref (fk_a g (89 + 1 + 1 + 1 + 1 + 1 + 1)), .ref (fk_a g (89 + 1 + 1 + 1 + 1 + 1 + 1 + 1)), .ref (fk_a g (89 + 1 + 1 + 1 + 1 + 1 + 1 + 1 + 1)), .ref (fk_a g (89 + 1 + 1 + 1 + 1 + 1 + 1 + 1 + 1 + 1)), .ref (fk_a g (89 + 1 + 1 + 1 + 1 + 1 + 1 + 1 + 1 + 1 + 1)), .ref (fk_a g (89 + 1 + 1 + 1 + 1 + 1 + 1 + 1 + 1 + 1 + 1 + 1)), .ref (fk_a g (89 + 1 + 1 + 1 + 1 + 1 + 1 + 1 + 1 + 1 + 1 + 1 + 1)), .ref (fk_a g (89 + 1 + 1 + 1 + 1 + 1 + 1 + 1 + 1 + 1 + 1 + 1 + 1 + 1)), .ref (fk_a g (89 + 1 + 1 + 1 + 1 + 1 + 1 + 1 + 1 + 1 + 1 + 1 + 1 + 1 + 1)), .ref (fk_a g (89 + 1 + 1 + 1 + 1 + 1 + 1 + 1 + 1 + 1 + 1 + 1 + 1 + 1 + 1 + 1)), .null, .null, .int 0, .null, .int 0, .int 0, .int 0, .int 0, .int 0, .null, .int 0, .null, .int 0, .int 0])) := ⟨_, rfl⟩
  rw [← hC30] at G
  have hk30 : C30 89 = .inr (7, [.int 0, .int 0, .ref (fk_a g (89 + 1)), .ref (fk_a g (89 + 1 + 1)), .ref (fk_a g (89 + 1 + 1 + 1)), .ref (fk_a g (89 + 1 + 1 + 1 + 1)), .ref (fk_a g (89 + 1 + 1 + 1 + 1 + 1)), .ref (fk_a g (89 + 1 + 1 + 1 + 1 + 1 + 1)), .ref (fk_a g (89 + 1 + 1 + 1 + 1 + 1 + 1 + 1)), .ref (fk_a g (89 + 1 + 1 + 1 + 1 + 1 + 1 + 1 + 1)), .ref (fk_a g (89 + 1 + 1 + 1 + 1 + 1 + 1 + 1 + 1 + 1)), .ref (fk_a g (89 + 1 + 1 + 1 + 1 + 1 + 1 + 1 + 1 + 1 + 1)), .ref (fk_a g (89 + 1 + 1 + 1 + 1 + 1 + 1 + 1 + 1 + 1 + 1 + 1)), .ref (fk_a g (89 + 1 + 1 + 1 + 1 + 1 + 1 + 1 + 1 + 1 + 1 + 1 + 1)), .ref (fk_a g (89 + 1 + 1 + 1 + 1 + 1 + 1 + 1 + 1 + 1 + 1 + 1 + 1 + 1)), .ref (fk_a g (89 + 1 + 1 + 1 + 1 + 1 + 1 + 1 + 1 + 1 + 1 + 1 + 1 + 1 + 1)), .ref (fk_a g (89 + 1 + 1 + 1 + 1 + 1 + 1 + 1 + 1 + 1 + 1 + 1 + 1 + 1 + 1 + 1)), .null, .null, .int 0, .null, .int 0, .int 0, .int 0, .int 0, .int 0, .null, .int 0, .null, .int 0, .int 0]) := by rw [hC30, va_up_self]
  refine lv_aload_n S.1 S.2.1 d_M_init_129 rfl (lv_at hl 0 rfl) ?_
  refine lv_sipush (v := nI 480) S.1 S.2.1 d_M_init_130 (by decide +kernel) ?_
  refine fk_bna hg S E h0 (by omega) G (atype := .boolean) fk_rw1 (fk_ra1 E) (N := 480) rfl (by decide) (a0 := (480, .inl (fun _ => 0))) rfl (by decide) ⟨by decide, by decide⟩ d_M_init_133 (fun H G => ?_)
  obtain ⟨C31, hC31⟩ : ∃ z : Nat → va_E, z = va_up C30 (89 + 1 + 1 + 1 + 1 + 1 + 1 + 1 + 1 + 1 + 1 + 1 + 1 + 1 + 1 + 1 + 1) (.inl (g.2.1 1, 480, .inl (fun _ => 0))) := ⟨_, rfl⟩
  rw [← hC31] at G
  have hk31 : C31 89 = .inr (7, [.int 0, .int 0, .ref (fk_a g (89 + 1)), .ref (fk_a g (89 + 1 + 1)), .ref (fk_a g (89 + 1 + 1 + 1)), .ref (fk_a g (89 + 1 + 1 + 1 + 1)), .ref (fk_a g (89 + 1 + 1 + 1 + 1 + 1)), .ref (fk_a g (89 + 1 + 1 + 1 + 1 + 1 + 1)), .ref (fk_a g (89 + 1 + 1 + 1 + 1 + 1 + 1 + 1)), .ref (fk_a g (89 + 1 + 1 + 1 + 1 + 1 + 1 + 1 + 1)), .ref (fk_a g (89 + 1 + 1 + 1 + 1 + 1 + 1 + 1 + 1 + 1)), .ref (fk_a g (89 + 1 + 1 + 1 + 1 + 1 + 1 + 1 + 1 + 1 + 1)), .ref (fk_a g (89 + 1 + 1 + 1 + 1 + 1 + 1 + 1 + 1 + 1 + 1 + 1)), .ref (fk_a g (89 + 1 + 1 + 1 + 1 + 1 + 1 + 1 + 1 + 1 + 1 + 1 + 1)), .ref (fk_a g (89 + 1 + 1 + 1 + 1 + 1 + 1 + 1 + 1 + 1 + 1 + 1 + 1 + 1)), .ref (fk_a g (89 + 1 + 1 + 1 + 1 + 1 + 1 + 1 + 1 + 1 + 1 + 1 + 1 + 1 + 1)), .ref (fk_a g (89 + 1 + 1 + 1 + 1 + 1 + 1 + 1 + 1 + 1 + 1 + 1 + 1 + 1 + 1 + 1)), .null, .null, .int 0, .null, .int 0, .int 0, .int 0, .int 0, .int 0, .null, .int 0, .null, .int 0, .int 0]) := by rw [hC31, va_up_ne _ _ (by omega)]; exact hk30
  refine fk_bpF hg S E hnm G 89 (by omega) hk31 rfl 17 (by decide) rfl i_639 rfl (v := .ref (fk_a g (89 + 1 + 1 + 1 + 1 + 1 + 1 + 1 + 1 + 1 + 1 + 1 + 1 + 1 + 1 + 1 + 1))) (fs' := [.int 0, .int 0, .ref (fk_a g (89 + 1)), .ref (fk_a g (89 + 1 + 1)), .ref (fk_a g (89 + 1 + 1 + 1)), .ref (fk_a g (89 + 1 + 1 + 1 + 1)), .ref (fk_a g (89 + 1 + 1 + 1 + 1 + 1)), .ref (fk_a g (89 + 1 + 1 + 1 + 1 + 1 + 1)), .ref (fk_a g (89 + 1 + 1 + 1 + 1 + 1 + 1 + 1)), .ref (fk_a g (89 + 1 + 1 + 1 + 1 + 1 + 1 + 1 + 1)), .ref (fk_a g (89 + 1 + 1 + 1 + 1 + 1 + 1 + 1 + 1 + 1)), .ref (fk_a g (89 + 1 + 1 + 1 + 1 + 1 + 1 + 1 + 1 + 1 + 1)), .ref (fk_a g (89 + 1 + 1 + 1 + 1 + 1 + 1 + 1 + 1 + 1 + 1 + 1)), .ref (fk_a g (89 + 1 + 1 + 1 + 1 + 1 + 1 + 1 + 1 + 1 + 1 + 1 + 1)), .ref (fk_a g (89 + 1 + 1 + 1 + 1 + 1 + 1 + 1 + 1 + 1 + 1 + 1 + 1 + 1)), .ref (fk_a g (89 + 1 + 1 + 1 + 1 + 1 + 1 + 1 + 1 + 1 + 1 + 1 + 1 + 1 + 1)), .ref (fk_a g (89 + 1 + 1 + 1 + 1 + 1 + 1 + 1 + 1 + 1 + 1 + 1 + 1 + 1 + 1 + 1)), .ref (fk_a g (89 + 1 + 1 + 1 + 1 + 1 + 1 + 1 + 1 + 1 + 1 + 1 + 1 + 1 + 1 + 1 + 1)), .null, .int 0, .null, .int 0, .int 0, .int 0, .int 0, .int 0, .null, .int 0, .null, .int 0, .int 0]) rfl (ty := (.array .boolean)) (by decide +kernel) rfl rfl (Nat.le_of_ble_eq_true rfl) d_M_init_135 (fun H locs G => ?_)
  obtain ⟨C32, hC32⟩ : ∃ z : Nat → va_E, z = va_up C31 89 (.inr (7, [.int 0, .int 0, .ref (fk_a g (89 + 1)), .ref (fk_a g (89 + 1 + 1)), .ref (fk_a g (89 + 1 + 1 + 1)), .ref (fk_a g (89 + 1 + 1 + 1 + 1)), .ref (fk_a g (89 + 1 + 1 + 1 + 1 + 1)), .ref (fk_a g (89 + 1 + 1 + 1 + 1 + 1 + 1)), .ref (fk_a g (89 + 1 + 1 + 1 + 1 + 1 + 1 + 1)), .ref (fk_a g (89 + 1 + 1 + 1 + 1 + 1 + 1 + 1 + 1)), .ref (fk_a g (89 + 1 + 1 + 1 + 1 + 1 + 1 + 1 + 1 + 1)), .ref (fk_a g (89 + 1 + 1 + 1 + 1 + 1 + 1 + 1 + 1 + 1 + 1)), .ref (fk_a g (89 + 1 + 1 + 1 + 1 + 1 + 1 + 1 + 1 + 1 + 1 + 1)), .ref (fk_a g (89 + 1 + 1 + 1 + 1 + 1 + 1 + 1 + 1 + 1 + 1 + 1 + 1)), .ref (fk_a g (89 + 1 + 1 + 1 + 1 + 1 + 1 + 1 + 1 + 1 + 1 + 1 + 1 + 1)), .ref (fk_a g (89 + 1 + 1 + 1 + 1 + 1 + 1 + 1 + 1 + 1 + 1 + 1 + 1 + 1 + 1)), .ref (fk_a g (89 + 1 + 1 + 1 + 1 + 1 + 1 + 1 + 1 + 1 + 1 + 1 + 1 + 1 + 1 + 1)), .ref (fk_a g (89 + 1 + 1 + 1 + 1 + 1 + 1 + 1 + 1 + 1 + 1 + 1 + 1 + 1 + 1 + 1 + 1)), .null, .int 0, .null, .int 0, .int 0, .int 0, .int 0, .int 0, .null, .int 0, .null, .int 0, .int 0])) := ⟨_, rfl⟩
  rw [← hC32] at G
  have hk32 : C32 89 = .inr (7, [.int 0, .int 0, .ref (fk_a g (89 + 1)), .ref (fk_a g (89 + 1 + 1)), .ref (fk_a g (89 + 1 + 1 + 1)), .ref (fk_a g (89 + 1 + 1 + 1 + 1)), .ref (fk_a g (89 + 1 + 1 + 1 + 1 + 1)), .ref (fk_a g (89 + 1 + 1 + 1 + 1 + 1 + 1)), .ref (fk_a g (89 + 1 + 1 + 1 + 1 + 1 + 1 + 1)), .ref (fk_a g (89 + 1 + 1 + 1 + 1 + 1 + 1 + 1 + 1)), .ref (fk_a g (89 + 1 + 1 + 1 + 1 + 1 + 1 + 1 + 1 + 1)), .ref (fk_a g (89 + 1 + 1 + 1 + 1 + 1 + 1 + 1 + 1 + 1 + 1)), .ref (fk_a g (89 + 1 + 1 + 1 + 1 + 1 + 1 + 1 + 1 + 1 + 1 + 1)), .ref (fk_a g (89 + 1 + 1 + 1 + 1 + 1 + 1 + 1 + 1 + 1 + 1 + 1 + 1)), .ref (fk_a g (89 + 1 + 1 + 1 + 1 + 1 + 1 + 1 + 1 + 1 + 1 + 1 + 1 + 1)), .ref (fk_a g (89 + 1 + 1 + 1 + 1 + 1 + 1 + 1 + 1 + 1 + 1 + 1 + 1 + 1 + 1)), .ref (fk_a g (89 + 1 + 1 + 1 + 1 + 1 + 1 + 1 + 1 + 1 + 1 + 1 + 1 + 1 + 1 + 1)), .ref (fk_a g (89 + 1 + 1 + 1 + 1 + 1 + 1 + 1 + 1 + 1 + 1 + 1 + 1 + 1 + 1 + 1 + 1)), .null, .int 0, .null, .int 0, .int 0, .int 0, .int 0, .int 0, .null, .int 0, .null, .int 0, .int 0]) := by rw [hC32, va_up_self]
  refine lv_aload_n S.1 S.2.1 d_M_init_138 rfl (lv_at hl 0 rfl) ?_
  refine lv_bipush (v := nI 40) S.1 S.2.1 d_M_init_139 (by decide +kernel) ?_
  refine fk_bna hg S E h0 (by omega) G (atype := .int) fk_rw0 (fk_ra0 E) (N := 40) rfl (by decide) (a0 := (40, .inl (fun _ => 0))) rfl (by decide) ⟨by decide, by decide⟩ d_M_init_141 (fun H G => ?_)
  obtain ⟨C33, hC33⟩ : ∃ z : Nat → va_E, z = va_up C32 (89 + 1 + 1 + 1 + 1 + 1 + 1 + 1 + 1 + 1 + 1 + 1 + 1 + 1 + 1 + 1 + 1 + 1) (.inl (g.2.1 0, 40, .inl (fun _ => 0))) := ⟨_, rfl⟩
  rw [← hC33] at G
  have hk33 : C33 89 = .inr (7, [.int 0, .int 0, .ref (fk_a g (89 + 1)), .ref (fk_a g (89 + 1 + 1)), .ref (fk_a g (89 + 1 + 1 + 1)), .ref (fk_a g (89 + 1 + 1 + 1 + 1)), .ref (fk_a g (89 + 1 + 1 + 1 + 1 + 1)), .ref (fk_a g (89 + 1 + 1 + 1 + 1 + 1 + 1)), .ref (fk_a g (89 + 1 + 1 + 1 + 1 + 1 + 1 + 1)), .ref (fk_a g (89 + 1 + 1 + 1 + 1 + 1 + 1 + 1 + 1)), .ref (fk_a g (89 + 1 + 1 + 1 + 1 + 1 + 1 + 1 + 1 + 1)), .ref (fk_a g (89 + 1 + 1 + 1 + 1 + 1 + 1 + 1 + 1 + 1 + 1)), .ref (fk_a g (89 + 1 + 1 + 1 + 1 + 1 + 1 + 1 + 1 + 1 + 1 + 1)), .ref (fk_a g (89 + 1 + 1 + 1 + 1 + 1 + 1 + 1 + 1 + 1 + 1 + 1 + 1)), .ref (fk_a g (89 + 1 + 1 + 1 + 1 + 1 + 1 + 1 + 1 + 1 + 1 + 1 + 1 + 1)), .ref (fk_a g (89 + 1 + 1 + 1 + 1 + 1 + 1 + 1 + 1 + 1 + 1 + 1 + 1 + 1 + 1)), .ref (fk_a g (89 + 1 + 1 + 1 + 1 + 1 + 1 + 1 + 1 + 1 + 1 + 1 + 1 + 1 + 1 + 1)), .ref (fk_a g (89 + 1 + 1 + 1 + 1 + 1 + 1 + 1 + 1 + 1 + 1 + 1 + 1 + 1 + 1 + 1 + 1)), .null, .int 0, .null, .int 0, .int 0, .int 0, .int 0, .int 0, .null, .int 0, .null, .int 0, .int 0]) := by rw [hC33, va_up_ne _ _ (by omega)]; exact hk32
  refine fk_bpF hg S E hnm G 89 (by omega) hk33 rfl 18 (by decide) rfl i_640 rfl (v := .ref (fk_a g (89 + 1 + 1 + 1 + 1 + 1 + 1 + 1 + 1 + 1 + 1 + 1 + 1 + 1 + 1 + 1 + 1 + 1))) (fs' := [.int 0, .int 0, .ref (fk_a g (89 + 1)), .ref (fk_a g (89 + 1 + 1)), .ref (fk_a g (89 + 1 + 1 + 1)), .ref (fk_a g (89 + 1 + 1 + 1 + 1)), .ref (fk_a g (89 + 1 + 1 + 1 + 1 + 1)), .ref (fk_a g (89 + 1 + 1 + 1 + 1 + 1 + 1)), .ref (fk_a g (89 + 1 + 1 + 1 + 1 + 1 + 1 + 1)), .ref (fk_a g (89 + 1 + 1 + 1 + 1 + 1 + 1 + 1 + 1)), .ref (fk_a g (89 + 1 + 1 + 1 + 1 + 1 + 1 + 1 + 1 + 1)), .ref (fk_a g (89 + 1 + 1 + 1 + 1 + 1 + 1 + 1 + 1 + 1 + 1)), .ref (fk_a g (89 + 1 + 1 + 1 + 1 + 1 + 1 + 1 + 1 + 1 + 1 + 1)), .ref (fk_a g (89 + 1 + 1 + 1 + 1 + 1 + 1 + 1 + 1 + 1 + 1 + 1 + 1)), .ref (fk_a g (89 + 1 + 1 + 1 + 1 + 1 + 1 + 1 + 1 + 1 + 1 + 1 + 1 + 1)), .ref (fk_a g (89 + 1 + 1 + 1 + 1 + 1 + 1 + 1 + 1 + 1 + 1 + 1 + 1 + 1 + 1)), .ref (fk_a g (89 + 1 + 1 + 1 + 1 + 1 + 1 + 1 + 1 + 1 + 1 + 1 + 1 + 1 + 1 + 1)), .ref (fk_a g (89 + 1 + 1 + 1 + 1 + 1 + 1 + 1 + 1 + 1 + 1 + 1 + 1 + 1 + 1 + 1 + 1)), .ref (fk_a g (89 + 1 + 1 + 1 + 1 + 1 + 1 + 1 + 1 + 1 + 1 + 1 + 1 + 1 + 1 + 1 + 1 + 1)), .int 0, .null, .int 0, .int 0, .int 0, .int 0, .int 0, .null, .int 0, .null, .int 0, .int 0]) rfl (ty := (.array .int)) (by decide +kernel) rfl rfl (Nat.le_of_ble_eq_true rfl) d_M_init_143 (fun H locs G => ?_)
  obtain ⟨C34, hC34⟩ : ∃ z : Nat → va_E, z = va_up C33 89 (.inr (7, [.int 0, .int 0, .ref (fk_a g (89 + 1)), .ref (fk_a g (89 + 1 + 1)), .ref (fk_a g (89 + 1 + 1 + 1)), .ref (fk_a g (89 + 1 + 1 + 1 + 1)), .ref (fk_a g (89 + 1 + 1 + 1 + 1 + 1)), .ref (fk_a g (89 + 1 + 1 + 1 + 1 + 1 + 1)), .ref (fk_a g (89 + 1 + 1 + 1 + 1 + 1 + 1 + 1)), .ref (fk_a g (89 + 1 + 1 + 1 + 1 + 1 + 1 + 1 + 1)), .ref (fk_a g (89 + 1 + 1 + 1 + 1 + 1 + 1 + 1 + 1 + 1)), .ref (fk_a g (89 + 1 + 1 + 1 + 1 + 1 + 1 + 1 + 1 + 1 + 1)), .ref (fk_a g (89 + 1 + 1 + 1 + 1 + 1 + 1 + 1 + 1 + 1 + 1 + 1)), .ref (fk_a g (89 + 1 + 1 + 1 + 1 + 1 + 1 + 1 + 1 + 1 + 1 + 1 + 1)), .ref (fk_a g (89 + 1 + 1 + 1 + 1 + 1 + 1 + 1 + 1 + 1 + 1 + 1 + 1 + 1)), .ref (fk_a g (89 + 1 + 1 + 1 + 1 + 1 + 1 + 1 + 1 + 1 + 1 + 1 + 1 + 1 + 1)), .ref (fk_a g (89 + 1 + 1 + 1 + 1 + 1 + 1 + 1 + 1 + 1 + 1 + 1 + 1 + 1 + 1 + 1)), .ref (fk_a g (89 + 1 + 1 + 1 + 1 + 1 + 1 + 1 + 1 + 1 + 1 + 1 + 1 + 1 + 1 + 1 + 1)), .ref (fk_a g (89 + 1 + 1 + 1 + 1 + 1 + 1 + 1 + 1 + 1 + 1 + 1 + 1 + 1 + 1 + 1 + 1 + 1)), .int 0, .null, .int 0, .int 0, .int 0, .int 0, .int 0, .null, .int 0, .null, .int 0, .int 0])) := ⟨_, rfl⟩
  rw [← hC34] at G
  have hk34 : C34 89 = .inr (7, [.int 0, .int 0, .ref (fk_a g (89 + 1)), .ref (fk_a g (89 + 1 + 1)), .ref (fk_a g (89 + 1 + 1 + 1)), .ref (fk_a g (89 + 1 + 1 + 1 + 1)), .ref (fk_a g (89 + 1 + 1 + 1 + 1 + 1)), .ref (fk_a g (89 + 1 + 1 + 1 + 1 + 1 + 1)), .ref (fk_a g (89 + 1 + 1 + 1 + 1 + 1 + 1 + 1)), .ref (fk_a g (89 + 1 + 1 + 1 + 1 + 1 + 1 + 1 + 1)), .ref (fk_a g (89 + 1 + 1 + 1 + 1 + 1 + 1 + 1 + 1 + 1)), .ref (fk_a g (89 + 1 + 1 + 1 + 1 + 1 + 1 + 1 + 1 + 1 + 1)), .ref (fk_a g (89 + 1 + 1 + 1 + 1 + 1 + 1 + 1 + 1 + 1 + 1 + 1)), .ref (fk_a g (89 + 1 + 1 + 1 + 1 + 1 + 1 + 1 + 1 + 1 + 1 + 1 + 1)), .ref (fk_a g (89 + 1 + 1 + 1 + 1 + 1 + 1 + 1 + 1 + 1 + 1 + 1 + 1 + 1)), .ref (fk_a g (89 + 1 + 1 + 1 + 1 + 1 + 1 + 1 + 1 + 1 + 1 + 1 + 1 + 1 + 1)), .ref (fk_a g (89 + 1 + 1 + 1 + 1 + 1 + 1 + 1 + 1 + 1 + 1 + 1 + 1 + 1 + 1 + 1)), .ref (fk_a g (89 + 1 + 1 + 1 + 1 + 1 + 1 + 1 + 1 + 1 + 1 + 1 + 1 + 1 + 1 + 1 + 1)), .ref (fk_a g (89 + 1 + 1 + 1 + 1 + 1 + 1 + 1 + 1 + 1 + 1 + 1 + 1 + 1 + 1 + 1 + 1 + 1)), .int 0, .null, .int 0, .int 0, .int 0, .int 0, .int 0, .null, .int 0, .null, .int 0, .int 0]) := by rw [hC34, va_up_self]
  refine lv_aload_n S.1 S.2.1 d_M_init_146 rfl (lv_at hl 0 rfl) ?_
  refine lv_bipush (v := nI 40) S.1 S.2.1 d_M_init_147 (by decide +kernel) ?_
  refine fk_bna hg S E h0 (by omega) G (atype := .int) fk_rw0 (fk_ra0 E) (N := 40) rfl (by decide) (a0 := (40, .inl (fun _ => 0))) rfl (by decide) ⟨by decide, by decide⟩ d_M_init_149 (fun H G => ?_)
  obtain ⟨C35, hC35⟩ : ∃ z : Nat → va_E, z = va_up C34 (89 + 1 + 1 + 1 + 1 + 1 + 1 + 1 + 1 + 1 + 1 + 1 + 1 + 1 + 1 + 1 + 1 + 1 + 1) (.inl (g.2.1 0, 40, .inl (fun _ => 0))) := ⟨_, rfl⟩
  rw [← hC35] at G
  have hk35 : C35 89 = .inr (7, [.int 0, .int 0, .ref (fk_a g (89 + 1)), .ref (fk_a g (89 + 1 + 1)), .ref (fk_a g (89 + 1 + 1 + 1)), .ref (fk_a g (89 + 1 + 1 + 1 + 1)), .ref (fk_a g (89 + 1 + 1 + 1 + 1 + 1)), .ref (fk_a g (89 + 1 + 1 + 1 + 1 + 1 + 1)), .ref (fk_a g (89 + 1 + 1 + 1 + 1 + 1 + 1 + 1)), .ref (fk_a g (89 + 1 + 1 + 1 + 1 + 1 + 1 + 1 + 1)), .ref (fk_a g (89 + 1 + 1 + 1 + 1 + 1 + 1 + 1 + 1 + 1)), .ref (fk_a g (89 + 1 + 1 + 1 + 1 + 1 + 1 + 1 + 1 + 1 + 1)), .ref (fk_a g (89 + 1 + 1 + 1 + 1 + 1 + 1 + 1 + 1 + 1 + 1 + 1)), .ref (fk_a g (89 + 1 + 1 + 1 + 1 + 1 + 1 + 1 + 1 + 1 + 1 + 1 + 1)), .ref (fk_a g (89 + 1 + 1 + 1 + 1 + 1 + 1 + 1 + 1 + 1 + 1 + 1 + 1 + 1)), .ref (fk_a g (89 + 1 + 1 + 1 + 1 + 1 + 1 + 1 + 1 + 1 + 1 + 1 + 1 + 1 + 1)), .ref (fk_a g (89 + 1 + 1 + 1 + 1 + 1 + 1 + 1 + 1 + 1 + 1 + 1 + 1 + 1 + 1 + 1)), .ref (fk_a g (89 + 1 + 1 + 1 + 1 + 1 + 1 + 1 + 1 + 1 + 1 + 1 + 1 + 1 + 1 + 1 + 1)), .ref (fk_a g (89 + 1 + 1 + 1 + 1 + 1 + 1 + 1 + 1 + 1 + 1 + 1 + 1 + 1 + 1 + 1 + 1 + 1)), .int 0, .null, .int 0, .int 0, .int 0, .int 0, .int 0, .null, .int 0, .null, .int 0, .int 0]) := by rw [hC35, va_up_ne _ _ (by omega)]; exact hk34
  refine fk_bpF hg S E hnm G 89 (by omega) hk35 rfl 20 (by decide) rfl i_642 rfl (v := .ref (fk_a g (89 + 1 + 1 + 1 + 1 + 1 + 1 + 1 + 1 + 1 + 1 + 1 + 1 + 1 + 1 + 1 + 1 + 1 + 1))) (fs' := [.int 0, .int 0, .ref (fk_a g (89 + 1)), .ref (fk_a g (89 + 1 + 1)), .ref (fk_a g (89 + 1 + 1 + 1)), .ref (fk_a g (89 + 1 + 1 + 1 + 1)), .ref (fk_a g (89 + 1 + 1 + 1 + 1 + 1)), .ref (fk_a g (89 + 1 + 1 + 1 + 1 + 1 + 1)), .ref (fk_a g (89 + 1 + 1 + 1 + 1 + 1 + 1 + 1)), .ref (fk_a g (89 + 1 + 1 + 1 + 1 + 1 + 1 + 1 + 1)), .ref (fk_a g (89 + 1 + 1 + 1 + 1 + 1 + 1 + 1 + 1 + 1)), .ref (fk_a g (89 + 1 + 1 + 1 + 1 + 1 + 1 + 1 + 1 + 1 + 1)), .ref (fk_a g (89 + 1 + 1 + 1 + 1 + 1 + 1 + 1 + 1 + 1 + 1 + 1)), .ref (fk_a g (89 + 1 + 1 + 1 + 1 + 1 + 1 + 1 + 1 + 1 + 1 + 1 + 1)), .ref (fk_a g (89 + 1 + 1 + 1 + 1 + 1 + 1 + 1 + 1 + 1 + 1 + 1 + 1 + 1)), .ref (fk_a g (89 + 1 + 1 + 1 + 1 + 1 + 1 + 1 + 1 + 1 + 1 + 1 + 1 + 1 + 1)), .ref (fk_a g (89 + 1 + 1 + 1 + 1 + 1 + 1 + 1 + 1 + 1 + 1 + 1 + 1 + 1 + 1 + 1)), .ref (fk_a g (89 + 1 + 1 + 1 + 1 + 1 + 1 + 1 + 1 + 1 + 1 + 1 + 1 + 1 + 1 + 1 + 1)), .ref (fk_a g (89 + 1 + 1 + 1 + 1 + 1 + 1 + 1 + 1 + 1 + 1 + 1 + 1 + 1 + 1 + 1 + 1 + 1)), .int 0, .ref (fk_a g (89 + 1 + 1 + 1 + 1 + 1 + 1 + 1 + 1 + 1 + 1 + 1 + 1 + 1 + 1 + 1 + 1 + 1 + 1)), .int 0, .int 0, .int 0, .int 0, .int 0, .null, .int 0, .null, .int 0, .int 0]) rfl (ty := (.array .int)) (by decide +kernel) rfl rfl (Nat.le_of_ble_eq_true rfl) d_M_init_151 (fun H locs G => ?_)
  obtain ⟨C36, hC36⟩ : ∃ z : Nat → va_E, z = va_up C35 89 (.inr (7, [.int 0, .int 0, .ref (fk_a g (89 + 1)), .ref (fk_a g (89 + 1 + 1)), .ref (fk_a g (89 + 1 + 1 + 1)), .ref (fk_a g (89 + 1 + 1 + 1 + 1)), .ref (fk_a g (89 + 1 + 1 + 1 + 1 + 1)), .ref (fk_a g (89 + 1 + 1 + 1 + 1 + 1 + 1)), .ref (fk_a g (89 + 1 + 1 + 1 + 1 + 1 + 1 + 1)), .ref (fk_a g (89 + 1 + 1 + 1 + 1 + 1 + 1 + 1 + 1)), .ref (fk_a g (89 + 1 + 1 + 1 + 1 + 1 + 1 + 1 + 1 + 1)), .ref (fk_a g (89 + 1 + 1 + 1 + 1 + 1 + 1 + 1 + 1 + 1 + 1)), .ref (fk_a g (89 + 1 + 1 + 1 + 1 + 1 + 1 + 1 + 1 + 1 + 1 + 1)), .ref (fk_a g (89 + 1 + 1 + 1 + 1 + 1 + 1 + 1 + 1 + 1 + 1 + 1 + 1)), .ref (fk_a g (89 + 1 + 1 + 1 + 1 + 1 + 1 + 1 + 1 + 1 + 1 + 1 + 1 + 1)), .ref (fk_a g (89 + 1 + 1 + 1 + 1 + 1 + 1 + 1 + 1 + 1 + 1 + 1 + 1 + 1 + 1)), .ref (fk_a g (89 + 1 + 1 + 1 + 1 + 1 + 1 + 1 + 1 + 1 + 1 + 1 + 1 + 1 + 1 + 1)), .ref (fk_a g (89 + 1 + 1 + 1 + 1 + 1 + 1 + 1 + 1 + 1 + 1 + 1 + 1 + 1 + 1 + 1 + 1)), .ref (fk_a g (89 + 1 + 1 + 1 + 1 + 1 + 1 + 1 + 1 + 1 + 1 + 1 + 1 + 1 + 1 + 1 + 1 + 1)), .int 0, .ref (fk_a g (89 + 1 + 1 + 1 + 1 + 1 + 1 + 1 + 1 + 1 + 1 + 1 + 1 + 1 + 1 + 1 + 1 + 1 + 1)), .int 0, .int 0, .int 0, .int 0, .int 0, .null, .int 0, .null, .int 0, .int 0])) := ⟨_, rfl⟩
  rw [← hC36] at G
  have hk36 : C36 89 = .inr (7, [.int 0, .int 0, .ref (fk_a g (89 + 1)), .ref (fk_a g (89 + 1 + 1)), .ref (fk_a g (89 + 1 + 1 + 1)), .ref (fk_a g (89 + 1 + 1 + 1 + 1)), .ref (fk_a g (89 + 1 + 1 + 1 + 1 + 1)), .ref (fk_a g (89 + 1 + 1 + 1 + 1 + 1 + 1)), .ref (fk_a g (89 + 1 + 1 + 1 + 1 + 1 + 1 + 1)), .ref (fk_a g (89 + 1 + 1 + 1 + 1 + 1 + 1 + 1 + 1)), .ref (fk_a g (89 + 1 + 1 + 1 + 1 + 1 + 1 + 1 + 1 + 1)), .ref (fk_a g (89 + 1 + 1 + 1 + 1 + 1 + 1 + 1 + 1 + 1 + 1)), .ref (fk_a g (89 + 1 + 1 + 1 + 1 + 1 + 1 + 1 + 1 + 1 + 1 + 1)), .ref (fk_a g (89 + 1 + 1 + 1 + 1 + 1 + 1 + 1 + 1 + 1 + 1 + 1 + 1)), .ref (fk_a g (89 + 1 + 1 + 1 + 1 + 1 + 1 + 1 + 1 + 1 + 1 + 1 + 1 + 1)), .ref (fk_a g (89 + 1 + 1 + 1 + 1 + 1 + 1 + 1 + 1 + 1 + 1 + 1 + 1 + 1 + 1)), .ref (fk_a g (89 + 1 + 1 + 1 + 1 + 1 + 1 + 1 + 1 + 1 + 1 + 1 + 1 + 1 + 1 + 1)), .ref (fk_a g (89 + 1 + 1 + 1 + 1 + 1 + 1 + 1 + 1 + 1 + 1 + 1 + 1 + 1 + 1 + 1 + 1)), .ref (fk_a g (89 + 1 + 1 + 1 + 1 + 1 + 1 + 1 + 1 + 1 + 1 + 1 + 1 + 1 + 1 + 1 + 1 + 1)), .int 0, .ref (fk_a g (89 + 1 + 1 + 1 + 1 + 1 + 1 + 1 + 1 + 1 + 1 + 1 + 1 + 1 + 1 + 1 + 1 + 1 + 1)), .int 0, .int 0, .int 0, .int 0, .int 0, .null, .int 0, .null, .int 0, .int 0]) := by rw [hC36, va_up_self]
  refine lv_aload_n S.1 S.2.1 d_M_init_154 rfl (lv_at hl 0 rfl) ?_
  refine lv_iconst (v := -1) S.1 S.2.1 d_M_init_155 (by decide +kernel) ?_
  refine fk_bp hg S E G 89 (by omega) hk36 rfl 24 (by decide) rfl i_646 rfl (v := .int (-1)) (fs' := [.int 0, .int 0, .ref (fk_a g (89 + 1)), .ref (fk_a g (89 + 1 + 1)), .ref (fk_a g (89 + 1 + 1 + 1)), .ref (fk_a g (89 + 1 + 1 + 1 + 1)), .ref (fk_a g (89 + 1 + 1 + 1 + 1 + 1)), .ref (fk_a g (89 + 1 + 1 + 1 + 1 + 1 + 1)), .ref (fk_a g (89 + 1 + 1 + 1 + 1 + 1 + 1 + 1)), .ref (fk_a g (89 + 1 + 1 + 1 + 1 + 1 + 1 + 1 + 1)), .ref (fk_a g (89 + 1 + 1 + 1 + 1 + 1 + 1 + 1 + 1 + 1)), .ref (fk_a g (89 + 1 + 1 + 1 + 1 + 1 + 1 + 1 + 1 + 1 + 1)), .ref (fk_a g (89 + 1 + 1 + 1 + 1 + 1 + 1 + 1 + 1 + 1 + 1 + 1)), .ref (fk_a g (89 + 1 + 1 + 1 + 1 + 1 + 1 + 1 + 1 + 1 + 1 + 1 + 1)), .ref (fk_a g (89 + 1 + 1 + 1 + 1 + 1 + 1 + 1 + 1 + 1 + 1 + 1 + 1 + 1)), .ref (fk_a g (89 + 1 + 1 + 1 + 1 + 1 + 1 + 1 + 1 + 1 + 1 + 1 + 1 + 1 + 1)), .ref (fk_a g (89 + 1 + 1 + 1 + 1 + 1 + 1 + 1 + 1 + 1 + 1 + 1 + 1 + 1 + 1 + 1)), .ref (fk_a g (89 + 1 + 1 + 1 + 1 + 1 + 1 + 1 + 1 + 1 + 1 + 1 + 1 + 1 + 1 + 1 + 1)), .ref (fk_a g (89 + 1 + 1 + 1 + 1 + 1 + 1 + 1 + 1 + 1 + 1 + 1 + 1 + 1 + 1 + 1 + 1 + 1)), .int 0, .ref (fk_a g (89 + 1 + 1 + 1 + 1 + 1 + 1 + 1 + 1 + 1 + 1 + 1 + 1 + 1 + 1 + 1 + 1 + 1 + 1)), .int 0, .int 0, .int 0, .int (-1), .int 0, .null, .int 0, .null, .int 0, .int 0]) rfl (ty := (.int)) (by decide +kernel) rfl rfl (Nat.le_of_ble_eq_true rfl) d_M_init_156 (fun H locs G => ?_)
  obtain ⟨C37, hC37⟩ : ∃ z : Nat → va_E, z = va_up C36 89 (.inr (7, [.int 0, .int 0, .ref (fk_a g (89 + 1)), .ref (fk_a g (89 + 1 + 1)), .ref (fk_a g (89 + 1 + 1 + 1)), .ref (fk_a g (89 + 1 + 1 + 1 + 1)), .ref (fk_a g (89 + 1 + 1 + 1 + 1 + 1)), .ref (fk_a g (89 + 1 + 1 + 1 + 1 + 1 + 1)), .ref (fk_a g (89 + 1 + 1 + 1 + 1 + 1 + 1 + 1)), .ref (fk_a g (89 + 1 + 1 + 1 + 1 + 1 + 1 + 1 + 1)), .ref (fk_a g (89 + 1 + 1 + 1 + 1 + 1 + 1 + 1 + 1 + 1)), .ref (fk_a g (89 + 1 + 1 + 1 + 1 + 1 + 1 + 1 + 1 + 1 + 1)), .ref (fk_a g (89 + 1 + 1 + 1 + 1 + 1 + 1 + 1 + 1 + 1 + 1 + 1)), .ref (fk_a g (89 + 1 + 1 + 1 + 1 + 1 + 1 + 1 + 1 + 1 + 1 + 1 + 1)), .ref (fk_a g (89 + 1 + 1 + 1 + 1 + 1 + 1 + 1 + 1 + 1 + 1 + 1 + 1 + 1)), .ref (fk_a g (89 + 1 + 1 + 1 + 1 + 1 + 1 + 1 + 1 + 1 + 1 + 1 + 1 + 1 + 1)), .ref (fk_a g (89 + 1 + 1 + 1 + 1 + 1 + 1 + 1 + 1 + 1 + 1 + 1 + 1 + 1 + 1 + 1)), .ref (fk_a g (89 + 1 + 1 + 1 + 1 + 1 + 1 + 1 + 1 + 1 + 1 + 1 + 1 + 1 + 1 + 1 + 1)), .ref (fk_a g (89 + 1 + 1 + 1 + 1 + 1 + 1 + 1 + 1 + 1 + 1 + 1 + 1 + 1 + 1 + 1 + 1 + 1)), .int 0, .ref (fk_a g (89 + 1 + 1 + 1 + 1 + 1 + 1 + 1 + 1 + 1 + 1 + 1 + 1 + 1 + 1 + 1 + 1 + 1 + 1)), .int 0, .int 0, .int 0, .int (-1), .int 0, .null, .int 0, .null, .int 0, .int 0])) := ⟨_, rfl⟩
  rw [← hC37] at G
  have hk37 : C37 89 = .inr (7, [.int 0, .int 0, .ref (fk_a g (89 + 1)), .ref (fk_a g (89 + 1 + 1)), .ref (fk_a g (89 + 1 + 1 + 1)), .ref (fk_a g (89 + 1 + 1 + 1 + 1)), .ref (fk_a g (89 + 1 + 1 + 1 + 1 + 1)), .ref (fk_a g (89 + 1 + 1 + 1 + 1 + 1 + 1)), .ref (fk_a g (89 + 1 + 1 + 1 + 1 + 1 + 1 + 1)), .ref (fk_a g (89 + 1 + 1 + 1 + 1 + 1 + 1 + 1 + 1)), .ref (fk_a g (89 + 1 + 1 + 1 + 1 + 1 + 1 + 1 + 1 + 1)), .ref (fk_a g (89 + 1 + 1 + 1 + 1 + 1 + 1 + 1 + 1 + 1 + 1)), .ref (fk_a g (89 + 1 + 1 + 1 + 1 + 1 + 1 + 1 + 1 + 1 + 1 + 1)), .ref (fk_a g (89 + 1 + 1 + 1 + 1 + 1 + 1 + 1 + 1 + 1 + 1 + 1 + 1)), .ref (fk_a g (89 + 1 + 1 + 1 + 1 + 1 + 1 + 1 + 1 + 1 + 1 + 1 + 1 + 1)), .ref (fk_a g (89 + 1 + 1 + 1 + 1 + 1 + 1 + 1 + 1 + 1 + 1 + 1 + 1 + 1 + 1)), .ref (fk_a g (89 + 1 + 1 + 1 + 1 + 1 + 1 + 1 + 1 + 1 + 1 + 1 + 1 + 1 + 1 + 1)), .ref (fk_a g (89 + 1 + 1 + 1 + 1 + 1 + 1 + 1 + 1 + 1 + 1 + 1 + 1 + 1 + 1 + 1 + 1)), .ref (fk_a g (89 + 1 + 1 + 1 + 1 + 1 + 1 + 1 + 1 + 1 + 1 + 1 + 1 + 1 + 1 + 1 + 1 + 1)), .int 0, .ref (fk_a g (89 + 1 + 1 + 1 + 1 + 1 + 1 + 1 + 1 + 1 + 1 + 1 + 1 + 1 + 1 + 1 + 1 + 1 + 1)), .int 0, .int 0, .int 0, .int (-1), .int 0, .null, .int 0, .null, .int 0, .int 0]) := by rw [hC37, va_up_self]
  refine lv_aload_n S.1 S.2.1 d_M_init_159 rfl (lv_at hl 0 rfl) ?_
  refine lv_iconst (v := -1) S.1 S.2.1 d_M_init_160 (by decide +kernel) ?_
  refine fk_bp hg S E G 89 (by omega) hk37 rfl 25 (by decide) rfl i_647 rfl (v := .int (-1)) (fs' := [.int 0, .int 0, .ref (fk_a g (89 + 1)), .ref (fk_a g (89 + 1 + 1)), .ref (fk_a g (89 + 1 + 1 + 1)), .ref (fk_a g (89 + 1 + 1 + 1 + 1)), .ref (fk_a g (89 + 1 + 1 + 1 + 1 + 1)), .ref (fk_a g (89 + 1 + 1 + 1 + 1 + 1 + 1)), .ref (fk_a g (89 + 1 + 1 + 1 + 1 + 1 + 1 + 1)), .ref (fk_a g (89 + 1 + 1 + 1 + 1 + 1 + 1 + 1 + 1)), .ref (fk_a g (89 + 1 + 1 + 1 + 1 + 1 + 1 + 1 + 1 + 1)), .ref (fk_a g (89 + 1 + 1 + 1 + 1 + 1 + 1 + 1 + 1 + 1 + 1)), .ref (fk_a g (89 + 1 + 1 + 1 + 1 + 1 + 1 + 1 + 1 + 1 + 1 + 1)), .ref (fk_a g (89 + 1 + 1 + 1 + 1 + 1 + 1 + 1 + 1 + 1 + 1 + 1 + 1)), .ref (fk_a g (89 + 1 + 1 + 1 + 1 + 1 + 1 + 1 + 1 + 1 + 1 + 1 + 1 + 1)), .ref (fk_a g (89 + 1 + 1 + 1 + 1 + 1 + 1 + 1 + 1 + 1 + 1 + 1 + 1 + 1 + 1)), .ref (fk_a g (89 + 1 + 1 + 1 + 1 + 1 + 1 + 1 + 1 + 1 + 1 + 1 + 1 + 1 + 1 + 1)), .ref (fk_a g (89 + 1 + 1 + 1 + 1 + 1 + 1 + 1 + 1 + 1 + 1 + 1 + 1 + 1 + 1 + 1 + 1)), .ref (fk_a g (89 + 1 + 1 + 1 + 1 + 1 + 1 + 1 + 1 + 1 + 1 + 1 + 1 + 1 + 1 + 1 + 1 + 1)), .int 0, .ref (fk_a g (89 + 1 + 1 + 1 + 1 + 1 + 1 + 1 + 1 + 1 + 1 + 1 + 1 + 1 + 1 + 1 + 1 + 1 + 1)), .int 0, .int 0, .int 0, .int (-1), .int (-1), .null, .int 0, .null, .int 0, .int 0]) rfl (ty := (.int)) (by decide +kernel) rfl rfl (Nat.le_of_ble_eq_true rfl) d_M_init_161 (fun H locs G => ?_)
  obtain ⟨C38, hC38⟩ : ∃ z : Nat → va_E, z = va_up C37 89 (.inr (7, [.int 0, .int 0, .ref (fk_a g (89 + 1)), .ref (fk_a g (89 + 1 + 1)), .ref (fk_a g (89 + 1 + 1 + 1)), .ref (fk_a g (89 + 1 + 1 + 1 + 1)), .ref (fk_a g (89 + 1 + 1 + 1 + 1 + 1)), .ref (fk_a g (89 + 1 + 1 + 1 + 1 + 1 + 1)), .ref (fk_a g (89 + 1 + 1 + 1 + 1 + 1 + 1 + 1)), .ref (fk_a g (89 + 1 + 1 + 1 + 1 + 1 + 1 + 1 + 1)), .ref (fk_a g (89 + 1 + 1 + 1 + 1 + 1 + 1 + 1 + 1 + 1)), .ref (fk_a g (89 + 1 + 1 + 1 + 1 + 1 + 1 + 1 + 1 + 1 + 1)), .ref (fk_a g (89 + 1 + 1 + 1 + 1 + 1 + 1 + 1 + 1 + 1 + 1 + 1)), .ref (fk_a g (89 + 1 + 1 + 1 + 1 + 1 + 1 + 1 + 1 + 1 + 1 + 1 + 1)), .ref (fk_a g (89 + 1 + 1 + 1 + 1 + 1 + 1 + 1 + 1 + 1 + 1 + 1 + 1 + 1)), .ref (fk_a g (89 + 1 + 1 + 1 + 1 + 1 + 1 + 1 + 1 + 1 + 1 + 1 + 1 + 1 + 1)), .ref (fk_a g (89 + 1 + 1 + 1 + 1 + 1 + 1 + 1 + 1 + 1 + 1 + 1 + 1 + 1 + 1 + 1)), .ref (fk_a g (89 + 1 + 1 + 1 + 1 + 1 + 1 + 1 + 1 + 1 + 1 + 1 + 1 + 1 + 1 + 1 + 1)), .ref (fk_a g (89 + 1 + 1 + 1 + 1 + 1 + 1 + 1 + 1 + 1 + 1 + 1 + 1 + 1 + 1 + 1 + 1 + 1)), .int 0, .ref (fk_a g (89 + 1 + 1 + 1 + 1 + 1 + 1 + 1 + 1 + 1 + 1 + 1 + 1 + 1 + 1 + 1 + 1 + 1 + 1)), .int 0, .int 0, .int 0, .int (-1), .int (-1), .null, .int 0, .null, .int 0, .int 0])) := ⟨_, rfl⟩
  rw [← hC38] at G
  have hk38 : C38 89 = .inr (7, [.int 0, .int 0, .ref (fk_a g (89 + 1)), .ref (fk_a g (89 + 1 + 1)), .ref (fk_a g (89 + 1 + 1 + 1)), .ref (fk_a g (89 + 1 + 1 + 1 + 1)), .ref (fk_a g (89 + 1 + 1 + 1 + 1 + 1)), .ref (fk_a g (89 + 1 + 1 + 1 + 1 + 1 + 1)), .ref (fk_a g (89 + 1 + 1 + 1 + 1 + 1 + 1 + 1)), .ref (fk_a g (89 + 1 + 1 + 1 + 1 + 1 + 1 + 1 + 1)), .ref (fk_a g (89 + 1 + 1 + 1 + 1 + 1 + 1 + 1 + 1 + 1)), .ref (fk_a g (89 + 1 + 1 + 1 + 1 + 1 + 1 + 1 + 1 + 1 + 1)), .ref (fk_a g (89 + 1 + 1 + 1 + 1 + 1 + 1 + 1 + 1 + 1 + 1 + 1)), .ref (fk_a g (89 + 1 + 1 + 1 + 1 + 1 + 1 + 1 + 1 + 1 + 1 + 1 + 1)), .ref (fk_a g (89 + 1 + 1 + 1 + 1 + 1 + 1 + 1 + 1 + 1 + 1 + 1 + 1 + 1)), .ref (fk_a g (89 + 1 + 1 + 1 + 1 + 1 + 1 + 1 + 1 + 1 + 1 + 1 + 1 + 1 + 1)), .ref (fk_a g (89 + 1 + 1 + 1 + 1 + 1 + 1 + 1 + 1 + 1 + 1 + 1 + 1 + 1 + 1 + 1)), .ref (fk_a g (89 + 1 + 1 + 1 + 1 + 1 + 1 + 1 + 1 + 1 + 1 + 1 + 1 + 1 + 1 + 1 + 1)), .ref (fk_a g (89 + 1 + 1 + 1 + 1 + 1 + 1 + 1 + 1 + 1 + 1 + 1 + 1 + 1 + 1 + 1 + 1 + 1)), .int 0, .ref (fk_a g (89 + 1 + 1 + 1 + 1 + 1 + 1 + 1 + 1 + 1 + 1 + 1 + 1 + 1 + 1 + 1 + 1 + 1 + 1)), .int 0, .int 0, .int 0, .int (-1), .int (-1), .null, .int 0, .null, .int 0, .int 0]) := by rw [hC38, va_up_self]
  refine lv_aload_n S.1 S.2.1 d_M_init_164 rfl (lv_at hl 0 rfl) ?_
  refine lv_bipush (v := nI 12) S.1 S.2.1 d_M_init_165 (by decide +kernel) ?_
  refine fk_bna hg S E h0 (by omega) G (atype := .int) fk_rw0 (fk_ra0 E) (N := 12) rfl (by decide) (a0 := (12, .inl (fun _ => 0))) rfl (by decide) ⟨by decide, by decide⟩ d_M_init_167 (fun H G => ?_)
  obtain ⟨C39, hC39⟩ : ∃ z : Nat → va_E, z = va_up C38 (89 + 1 + 1 + 1 + 1 + 1 + 1 + 1 + 1 + 1 + 1 + 1 + 1 + 1 + 1 + 1 + 1 + 1 + 1 + 1) (.inl (g.2.1 0, 12, .inl (fun _ => 0))) := ⟨_, rfl⟩
  rw [← hC39] at G
  have hk39 : C39 89 = .inr (7, [.int 0, .int 0, .ref (fk_a g (89 + 1)), .ref (fk_a g (89 + 1 + 1)), .ref (fk_a g (89 + 1 + 1 + 1)), .ref (fk_a g (89 + 1 + 1 + 1 + 1)), .ref (fk_a g (89 + 1 + 1 + 1 + 1 + 1)), .ref (fk_a g (89 + 1 + 1 + 1 + 1 + 1 + 1)), .ref (fk_a g (89 + 1 + 1 + 1 + 1 + 1 + 1 + 1)), .ref (fk_a g (89 + 1 + 1 + 1 + 1 + 1 + 1 + 1 + 1)), .ref (fk_a g (89 + 1 + 1 + 1 + 1 + 1 + 1 + 1 + 1 + 1)), .ref (fk_a g (89 + 1 + 1 + 1 + 1 + 1 + 1 + 1 + 1 + 1 + 1)), .ref (fk_a g (89 + 1 + 1 + 1 + 1 + 1 + 1 + 1 + 1 + 1 + 1 + 1)), .ref (fk_a g (89 + 1 + 1 + 1 + 1 + 1 + 1 + 1 + 1 + 1 + 1 + 1 + 1)), .ref (fk_a g (89 + 1 + 1 + 1 + 1 + 1 + 1 + 1 + 1 + 1 + 1 + 1 + 1 + 1)), .ref (fk_a g (89 + 1 + 1 + 1 + 1 + 1 + 1 + 1 + 1 + 1 + 1 + 1 + 1 + 1 + 1)), .ref (fk_a g (89 + 1 + 1 + 1 + 1 + 1 + 1 + 1 + 1 + 1 + 1 + 1 + 1 + 1 + 1 + 1)), .ref (fk_a g (89 + 1 + 1 + 1 + 1 + 1 + 1 + 1 + 1 + 1 + 1 + 1 + 1 + 1 + 1 + 1 + 1)), .ref (fk_a g (89 + 1 + 1 + 1 + 1 + 1 + 1 + 1 + 1 + 1 + 1 + 1 + 1 + 1 + 1 + 1 + 1 + 1)), .int 0, .ref (fk_a g (89 + 1 + 1 + 1 + 1 + 1 + 1 + 1 + 1 + 1 + 1 + 1 + 1 + 1 + 1 + 1 + 1 + 1 + 1)), .int 0, .int 0, .int 0, .int (-1), .int (-1), .null, .int 0, .null, .int 0, .int 0]) := by rw [hC39, va_up_ne _ _ (by omega)]; exact hk38
  refine fk_bpF hg S E hnm G 89 (by omega) hk39 rfl 26 (by decide) rfl i_648 rfl (v := .ref (fk_a g (89 + 1 + 1 + 1 + 1 + 1 + 1 + 1 + 1 + 1 + 1 + 1 + 1 + 1 + 1 + 1 + 1 + 1 + 1 + 1))) (fs' := [.int 0, .int 0, .ref (fk_a g (89 + 1)), .ref (fk_a g (89 + 1 + 1)), .ref (fk_a g (89 + 1 + 1 + 1)), .ref (fk_a g (89 + 1 + 1 + 1 + 1)), .ref (fk_a g (89 + 1 + 1 + 1 + 1 + 1)), .ref (fk_a g (89 + 1 + 1 + 1 + 1 + 1 + 1)), .ref (fk_a g (89 + 1 + 1 + 1 + 1 + 1 + 1 + 1)), .ref (fk_a g (89 + 1 + 1 + 1 + 1 + 1 + 1 + 1 + 1)), .ref (fk_a g (89 + 1 + 1 + 1 + 1 + 1 + 1 + 1 + 1 + 1)), .ref (fk_a g (89 + 1 + 1 + 1 + 1 + 1 + 1 + 1 + 1 + 1 + 1)), .ref (fk_a g (89 + 1 + 1 + 1 + 1 + 1 + 1 + 1 + 1 + 1 + 1 + 1)), .ref (fk_a g (89 + 1 + 1 + 1 + 1 + 1 + 1 + 1 + 1 + 1 + 1 + 1 + 1)), .ref (fk_a g (89 + 1 + 1 + 1 + 1 + 1 + 1 + 1 + 1 + 1 + 1 + 1 + 1 + 1)), .ref (fk_a g (89 + 1 + 1 + 1 + 1 + 1 + 1 + 1 + 1 + 1 + 1 + 1 + 1 + 1 + 1)), .ref (fk_a g (89 + 1 + 1 + 1 + 1 + 1 + 1 + 1 + 1 + 1 + 1 + 1 + 1 + 1 + 1 + 1)), .ref (fk_a g (89 + 1 + 1 + 1 + 1 + 1 + 1 + 1 + 1 + 1 + 1 + 1 + 1 + 1 + 1 + 1 + 1)), .ref (fk_a g (89 + 1 + 1 + 1 + 1 + 1 + 1 + 1 + 1 + 1 + 1 + 1 + 1 + 1 + 1 + 1 + 1 + 1)), .int 0, .ref (fk_a g (89 + 1 + 1 + 1 + 1 + 1 + 1 + 1 + 1 + 1 + 1 + 1 + 1 + 1 + 1 + 1 + 1 + 1 + 1)), .int 0, .int 0, .int 0, .int (-1), .int (-1), .ref (fk_a g (89 + 1 + 1 + 1 + 1 + 1 + 1 + 1 + 1 + 1 + 1 + 1 + 1 + 1 + 1 + 1 + 1 + 1 + 1 + 1)), .int 0, .null, .int 0, .int 0]) rfl (ty := (.array .int)) (by decide +kernel) rfl rfl (Nat.le_of_ble_eq_true rfl) d_M_init_169 (fun H locs G => ?_)
  obtain ⟨C40, hC40⟩ : ∃ z : Nat → va_E, z = va_up C39 89 (.inr (7, [.int 0, .int 0, .ref (fk_a g (89 + 1)), .ref (fk_a g (89 + 1 + 1)), .ref (fk_a g (89 + 1 + 1 + 1)), .ref (fk_a g (89 + 1 + 1 + 1 + 1)), .ref (fk_a g (89 + 1 + 1 + 1 + 1 + 1)), .ref (fk_a g (89 + 1 + 1 + 1 + 1 + 1 + 1)), .ref (fk_a g (89 + 1 + 1 + 1 + 1 + 1 + 1 + 1)), .ref (fk_a g (89 + 1 + 1 + 1 + 1 + 1 + 1 + 1 + 1)), .ref (fk_a g (89 + 1 + 1 + 1 + 1 + 1 + 1 + 1 + 1 + 1)), .ref (fk_a g (89 + 1 + 1 + 1 + 1 + 1 + 1 + 1 + 1 + 1 + 1)), .ref (fk_a g (89 + 1 + 1 + 1 + 1 + 1 + 1 + 1 + 1 + 1 + 1 + 1)), .ref (fk_a g (89 + 1 + 1 + 1 + 1 + 1 + 1 + 1 + 1 + 1 + 1 + 1 + 1)), .ref (fk_a g (89 + 1 + 1 + 1 + 1 + 1 + 1 + 1 + 1 + 1 + 1 + 1 + 1 + 1)), .ref (fk_a g (89 + 1 + 1 + 1 + 1 + 1 + 1 + 1 + 1 + 1 + 1 + 1 + 1 + 1 + 1)), .ref (fk_a g (89 + 1 + 1 + 1 + 1 + 1 + 1 + 1 + 1 + 1 + 1 + 1 + 1 + 1 + 1 + 1)), .ref (fk_a g (89 + 1 + 1 + 1 + 1 + 1 + 1 + 1 + 1 + 1 + 1 + 1 + 1 + 1 + 1 + 1 + 1)), .ref (fk_a g (89 + 1 + 1 + 1 + 1 + 1 + 1 + 1 + 1 + 1 + 1 + 1 + 1 + 1 + 1 + 1 + 1 + 1)), .int 0, .ref (fk_a g (89 + 1 + 1 + 1 + 1 + 1 + 1 + 1 + 1 + 1 + 1 + 1 + 1 + 1 + 1 + 1 + 1 + 1 + 1)), .int 0, .int 0, .int 0, .int (-1), .int (-1), .ref (fk_a g (89 + 1 + 1 + 1 + 1 + 1 + 1 + 1 + 1 + 1 + 1 + 1 + 1 + 1 + 1 + 1 + 1 + 1 + 1 + 1)), .int 0, .null, .int 0, .int 0])) := ⟨_, rfl⟩
  rw [← hC40] at G
  have hk40 : C40 89 = .inr (7, [.int 0, .int 0, .ref (fk_a g (89 + 1)), .ref (fk_a g (89 + 1 + 1)), .ref (fk_a g (89 + 1 + 1 + 1)), .ref (fk_a g (89 + 1 + 1 + 1 + 1)), .ref (fk_a g (89 + 1 + 1 + 1 + 1 + 1)), .ref (fk_a g (89 + 1 + 1 + 1 + 1 + 1 + 1)), .ref (fk_a g (89 + 1 + 1 + 1 + 1 + 1 + 1 + 1)), .ref (fk_a g (89 + 1 + 1 + 1 + 1 + 1 + 1 + 1 + 1)), .ref (fk_a g (89 + 1 + 1 + 1 + 1 + 1 + 1 + 1 + 1 + 1)), .ref (fk_a g (89 + 1 + 1 + 1 + 1 + 1 + 1 + 1 + 1 + 1 + 1)), .ref (fk_a g (89 + 1 + 1 + 1 + 1 + 1 + 1 + 1 + 1 + 1 + 1 + 1)), .ref (fk_a g (89 + 1 + 1 + 1 + 1 + 1 + 1 + 1 + 1 + 1 + 1 + 1 + 1)), .ref (fk_a g (89 + 1 + 1 + 1 + 1 + 1 + 1 + 1 + 1 + 1 + 1 + 1 + 1 + 1)), .ref (fk_a g (89 + 1 + 1 + 1 + 1 + 1 + 1 + 1 + 1 + 1 + 1 + 1 + 1 + 1 + 1)), .ref (fk_a g (89 + 1 + 1 + 1 + 1 + 1 + 1 + 1 + 1 + 1 + 1 + 1 + 1 + 1 + 1 + 1)), .ref (fk_a g (89 + 1 + 1 + 1 + 1 + 1 + 1 + 1 + 1 + 1 + 1 + 1 + 1 + 1 + 1 + 1 + 1)), .ref (fk_a g (89 + 1 + 1 + 1 + 1 + 1 + 1 + 1 + 1 + 1 + 1 + 1 + 1 + 1 + 1 + 1 + 1 + 1)), .int 0, .ref (fk_a g (89 + 1 + 1 + 1 + 1 + 1 + 1 + 1 + 1 + 1 + 1 + 1 + 1 + 1 + 1 + 1 + 1 + 1 + 1)), .int 0, .int 0, .int 0, .int (-1), .int (-1), .ref (fk_a g (89 + 1 + 1 + 1 + 1 + 1 + 1 + 1 + 1 + 1 + 1 + 1 + 1 + 1 + 1 + 1 + 1 + 1 + 1 + 1)), .int 0, .null, .int 0, .int 0]) := by rw [hC40, va_up_self]
  refine lv_aload_n S.1 S.2.1 d_M_init_172 rfl (lv_at hl 0 rfl) ?_
  refine lv_bipush (v := nI 64) S.1 S.2.1 d_M_init_173 (by decide +kernel) ?_
  refine fk_bna hg S E h0 (by omega) G (atype := .int) fk_rw0 (fk_ra0 E) (N := 64) rfl (by decide) (a0 := (64, .inl (fun _ => 0))) rfl (by decide) ⟨by decide, by decide⟩ d_M_init_175 (fun H G => ?_)
  obtain ⟨C41, hC41⟩ : ∃ z : Nat → va_E, z = va_up C40 (89 + 1 + 1 + 1 + 1 + 1 + 1 + 1 + 1 + 1 + 1 + 1 + 1 + 1 + 1 + 1 + 1 + 1 + 1 + 1 + 1) (.inl (g.2.1 0, 64, .inl (fun _ => 0))) := ⟨_, rfl⟩
  rw [← hC41] at G
  have hk41 : C41 89 = .inr (7, [.int 0, .int 0, .ref (fk_a g (89 + 1)), .ref (fk_a g (89 + 1 + 1)), .ref (fk_a g (89 + 1 + 1 + 1)), .ref (fk_a g (89 + 1 + 1 + 1 + 1)), .ref (fk_a g (89 + 1 + 1 + 1 + 1 + 1)), .ref (fk_a g (89 + 1 + 1 + 1 + 1 + 1 + 1)), .ref (fk_a g (89 + 1 + 1 + 1 + 1 + 1 + 1 + 1)), .ref (fk_a g (89 + 1 + 1 + 1 + 1 + 1 + 1 + 1 + 1)), .ref (fk_a g (89 + 1 + 1 + 1 + 1 + 1 + 1 + 1 + 1 + 1)), .ref (fk_a g (89 + 1 + 1 + 1 + 1 + 1 + 1 + 1 + 1 + 1 + 1)), .ref (fk_a g (89 + 1 + 1 + 1 + 1 + 1 + 1 + 1 + 1 + 1 + 1 + 1)), .ref (fk_a g (89 + 1 + 1 + 1 + 1 + 1 + 1 + 1 + 1 + 1 + 1 + 1 + 1)), .ref (fk_a g (89 + 1 + 1 + 1 + 1 + 1 + 1 + 1 + 1 + 1 + 1 + 1 + 1 + 1)), .ref (fk_a g (89 + 1 + 1 + 1 + 1 + 1 + 1 + 1 + 1 + 1 + 1 + 1 + 1 + 1 + 1)), .ref (fk_a g (89 + 1 + 1 + 1 + 1 + 1 + 1 + 1 + 1 + 1 + 1 + 1 + 1 + 1 + 1 + 1)), .ref (fk_a g (89 + 1 + 1 + 1 + 1 + 1 + 1 + 1 + 1 + 1 + 1 + 1 + 1 + 1 + 1 + 1 + 1)), .ref (fk_a g (89 + 1 + 1 + 1 + 1 + 1 + 1 + 1 + 1 + 1 + 1 + 1 + 1 + 1 + 1 + 1 + 1 + 1)), .int 0, .ref (fk_a g (89 + 1 + 1 + 1 + 1 + 1 + 1 + 1 + 1 + 1 + 1 + 1 + 1 + 1 + 1 + 1 + 1 + 1 + 1)), .int 0, .int 0, .int 0, .int (-1), .int (-1), .ref (fk_a g (89 + 1 + 1 + 1 + 1 + 1 + 1 + 1 + 1 + 1 + 1 + 1 + 1 + 1 + 1 + 1 + 1 + 1 + 1 + 1)), .int 0, .null, .int 0, .int 0]) := by rw [hC41, va_up_ne _ _ (by omega)]; exact hk40
  refine fk_bpF hg S E hnm G 89 (by omega) hk41 rfl 28 (by decide) rfl i_650 rfl (v := .ref (fk_a g (89 + 1 + 1 + 1 + 1 + 1 + 1 + 1 + 1 + 1 + 1 + 1 + 1 + 1 + 1 + 1 + 1 + 1 + 1 + 1 + 1))) (fs' := [.int 0, .int 0, .ref (fk_a g (89 + 1)), .ref (fk_a g (89 + 1 + 1)), .ref (fk_a g (89 + 1 + 1 + 1)), .ref (fk_a g (89 + 1 + 1 + 1 + 1)), .ref (fk_a g (89 + 1 + 1 + 1 + 1 + 1)), .ref (fk_a g (89 + 1 + 1 + 1 + 1 + 1 + 1)), .ref (fk_a g (89 + 1 + 1 + 1 + 1 + 1 + 1 + 1)), .ref (fk_a g (89 + 1 + 1 + 1 + 1 + 1 + 1 + 1 + 1)), .ref (fk_a g (89 + 1 + 1 + 1 + 1 + 1 + 1 + 1 + 1 + 1)), .ref (fk_a g (89 + 1 + 1 + 1 + 1 + 1 + 1 + 1 + 1 + 1 + 1)), .ref (fk_a g (89 + 1 + 1 + 1 + 1 + 1 + 1 + 1 + 1 + 1 + 1 + 1)), .ref (fk_a g (89 + 1 + 1 + 1 + 1 + 1 + 1 + 1 + 1 + 1 + 1 + 1 + 1)), .ref (fk_a g (89 + 1 + 1 + 1 + 1 + 1 + 1 + 1 + 1 + 1 + 1 + 1 + 1 + 1)), .ref (fk_a g (89 + 1 + 1 + 1 + 1 + 1 + 1 + 1 + 1 + 1 + 1 + 1 + 1 + 1 + 1)), .ref (fk_a g (89 + 1 + 1 + 1 + 1 + 1 + 1 + 1 + 1 + 1 + 1 + 1 + 1 + 1 + 1 + 1)), .ref (fk_a g (89 + 1 + 1 + 1 + 1 + 1 + 1 + 1 + 1 + 1 + 1 + 1 + 1 + 1 + 1 + 1 + 1)), .ref (fk_a g (89 + 1 + 1 + 1 + 1 + 1 + 1 + 1 + 1 + 1 + 1 + 1 + 1 + 1 + 1 + 1 + 1 + 1)), .int 0, .ref (fk_a g (89 + 1 + 1 + 1 + 1 + 1 + 1 + 1 + 1 + 1 + 1 + 1 + 1 + 1 + 1 + 1 + 1 + 1 + 1)), .int 0, .int 0, .int 0, .int (-1), .int (-1), .ref (fk_a g (89 + 1 + 1 + 1 + 1 + 1 + 1 + 1 + 1 + 1 + 1 + 1 + 1 + 1 + 1 + 1 + 1 + 1 + 1 + 1)), .int 0, .ref (fk_a g (89 + 1 + 1 + 1 + 1 + 1 + 1 + 1 + 1 + 1 + 1 + 1 + 1 + 1 + 1 + 1 + 1 + 1 + 1 + 1 + 1)), .int 0, .int 0]) rfl (ty := (.array .int)) (by decide +kernel) rfl rfl (Nat.le_of_ble_eq_true rfl) d_M_init_177 (fun H locs G => ?_)
  obtain ⟨C42, hC42⟩ : ∃ z : Nat → va_E, z = va_up C41 89 (.inr (7, [.int 0, .int 0, .ref (fk_a g (89 + 1)), .ref (fk_a g (89 + 1 + 1)), .ref (fk_a g (89 + 1 + 1 + 1)), .ref (fk_a g (89 + 1 + 1 + 1 + 1)), .ref (fk_a g (89 + 1 + 1 + 1 + 1 + 1)), .ref (fk_a g (89 + 1 + 1 + 1 + 1 + 1 + 1)), .ref (fk_a g (89 + 1 + 1 + 1 + 1 + 1 + 1 + 1)), .ref (fk_a g (89 + 1 + 1 + 1 + 1 + 1 + 1 + 1 + 1)), .ref (fk_a g (89 + 1 + 1 + 1 + 1 + 1 + 1 + 1 + 1 + 1)), .ref (fk_a g (89 + 1 + 1 + 1 + 1 + 1 + 1 + 1 + 1 + 1 + 1)), .ref (fk_a g (89 + 1 + 1 + 1 + 1 + 1 + 1 + 1 + 1 + 1 + 1 + 1)), .ref (fk_a g (89 + 1 + 1 + 1 + 1 + 1 + 1 + 1 + 1 + 1 + 1 + 1 + 1)), .ref (fk_a g (89 + 1 + 1 + 1 + 1 + 1 + 1 + 1 + 1 + 1 + 1 + 1 + 1 + 1)), .ref (fk_a g (89 + 1 + 1 + 1 + 1 + 1 + 1 + 1 + 1 + 1 + 1 + 1 + 1 + 1 + 1)), .ref (fk_a g (89 + 1 + 1 + 1 + 1 + 1 + 1 + 1 + 1 + 1 + 1 + 1 + 1 + 1 + 1 + 1)), .ref (fk_a g (89 + 1 + 1 + 1 + 1 + 1 + 1 + 1 + 1 + 1 + 1 + 1 + 1 + 1 + 1 + 1 + 1)), .ref (fk_a g (89 + 1 + 1 + 1 + 1 + 1 + 1 + 1 + 1 + 1 + 1 + 1 + 1 + 1 + 1 + 1 + 1 + 1)), .int 0, .ref (fk_a g (89 + 1 + 1 + 1 + 1 + 1 + 1 + 1 + 1 + 1 + 1 + 1 + 1 + 1 + 1 + 1 + 1 + 1 + 1)), .int 0, .int 0, .int 0, .int (-1), .int (-1), .ref (fk_a g (89 + 1 + 1 + 1 + 1 + 1 + 1 + 1 + 1 + 1 + 1 + 1 + 1 + 1 + 1 + 1 + 1 + 1 + 1 + 1)), .int 0, .ref (fk_a g (89 + 1 + 1 + 1 + 1 + 1 + 1 + 1 + 1 + 1 + 1 + 1 + 1 + 1 + 1 + 1 + 1 + 1 + 1 + 1 + 1)), .int 0, .int 0])) := ⟨_, rfl⟩
  rw [← hC42] at G
  have hk42 : C42 89 = .inr (7, [.int 0, .int 0, .ref (fk_a g (89 + 1)), .ref (fk_a g (89 + 1 + 1)), .ref (fk_a g (89 + 1 + 1 + 1)), .ref (fk_a g (89 + 1 + 1 + 1 + 1)), .ref (fk_a g (89 + 1 + 1 + 1 + 1 + 1)), .ref (fk_a g (89 + 1 + 1 + 1 + 1 + 1 + 1)), .ref (fk_a g (89 + 1 + 1 + 1 + 1 + 1 + 1 + 1)), .ref (fk_a g (89 + 1 + 1 + 1 + 1 + 1 + 1 + 1 + 1)), .ref (fk_a g (89 + 1 + 1 + 1 + 1 + 1 + 1 + 1 + 1 + 1)), .ref (fk_a g (89 + 1 + 1 + 1 + 1 + 1 + 1 + 1 + 1 + 1 + 1)), .ref (fk_a g (89 + 1 + 1 + 1 + 1 + 1 + 1 + 1 + 1 + 1 + 1 + 1)), .ref (fk_a g (89 + 1 + 1 + 1 + 1 + 1 + 1 + 1 + 1 + 1 + 1 + 1 + 1)), .ref (fk_a g (89 + 1 + 1 + 1 + 1 + 1 + 1 + 1 + 1 + 1 + 1 + 1 + 1 + 1)), .ref (fk_a g (89 + 1 + 1 + 1 + 1 + 1 + 1 + 1 + 1 + 1 + 1 + 1 + 1 + 1 + 1)), .ref (fk_a g (89 + 1 + 1 + 1 + 1 + 1 + 1 + 1 + 1 + 1 + 1 + 1 + 1 + 1 + 1 + 1)), .ref (fk_a g (89 + 1 + 1 + 1 + 1 + 1 + 1 + 1 + 1 + 1 + 1 + 1 + 1 + 1 + 1 + 1 + 1)), .ref (fk_a g (89 + 1 + 1 + 1 + 1 + 1 + 1 + 1 + 1 + 1 + 1 + 1 + 1 + 1 + 1 + 1 + 1 + 1)), .int 0, .ref (fk_a g (89 + 1 + 1 + 1 + 1 + 1 + 1 + 1 + 1 + 1 + 1 + 1 + 1 + 1 + 1 + 1 + 1 + 1 + 1)), .int 0, .int 0, .int 0, .int (-1), .int (-1), .ref (fk_a g (89 + 1 + 1 + 1 + 1 + 1 + 1 + 1 + 1 + 1 + 1 + 1 + 1 + 1 + 1 + 1 + 1 + 1 + 1 + 1)), .int 0, .ref (fk_a g (89 + 1 + 1 + 1 + 1 + 1 + 1 + 1 + 1 + 1 + 1 + 1 + 1 + 1 + 1 + 1 + 1 + 1 + 1 + 1 + 1)), .int 0, .int 0]) := by rw [hC42, va_up_self]
  refine fk_bret hg S hr hlk E O h0 (by omega) G (by omega) (fun j hj => ?_) ⟨rfl, rfl⟩ d_M_init_180
  rcases (by omega : j < 89 ∨ j = 89 ∨ j = 89 + 1 ∨ j = 89 + 1 + 1 ∨ j = 89 + 1 + 1 + 1 ∨ j = 89 + 1 + 1 + 1 + 1 ∨ j = 89 + 1 + 1 + 1 + 1 + 1 ∨ j = 89 + 1 + 1 + 1 + 1 + 1 + 1 ∨ j = 89 + 1 + 1 + 1 + 1 + 1 + 1 + 1 ∨ j = 89 + 1 + 1 + 1 + 1 + 1 + 1 + 1 + 1 ∨ j = 89 + 1 + 1 + 1 + 1 + 1 + 1 + 1 + 1 + 1 ∨ j = 89 + 1 + 1 + 1 + 1 + 1 + 1 + 1 + 1 + 1 + 1 ∨ j = 89 + 1 + 1 + 1 + 1 + 1 + 1 + 1 + 1 + 1 + 1 + 1 ∨ j = 89 + 1 + 1 + 1 + 1 + 1 + 1 + 1 + 1 + 1 + 1 + 1 + 1 ∨ j = 89 + 1 + 1 + 1 + 1 + 1 + 1 + 1 + 1 + 1 + 1 + 1 + 1 + 1 ∨ j = 89 + 1 + 1 + 1 + 1 + 1 + 1 + 1 + 1 + 1 + 1 + 1 + 1 + 1 + 1 ∨ j = 89 + 1 + 1 + 1 + 1 + 1 + 1 + 1 + 1 + 1 + 1 + 1 + 1 + 1 + 1 + 1 ∨ j = 89 + 1 + 1 + 1 + 1 + 1 + 1 + 1 + 1 + 1 + 1 + 1 + 1 + 1 + 1 + 1 + 1 ∨ j = 89 + 1 + 1 + 1 + 1 + 1 + 1 + 1 + 1 + 1 + 1 + 1 + 1 + 1 + 1 + 1 + 1 + 1 ∨ j = 89 + 1 + 1 + 1 + 1 + 1 + 1 + 1 + 1 + 1 + 1 + 1 + 1 + 1 + 1 + 1 + 1 + 1 + 1 ∨ j = 89 + 1 + 1 + 1 + 1 + 1 + 1 + 1 + 1 + 1 + 1 + 1 + 1 + 1 + 1 + 1 + 1 + 1 + 1 + 1 ∨ j = 89 + 1 + 1 + 1 + 1 + 1 + 1 + 1 + 1 + 1 + 1 + 1 + 1 + 1 + 1 + 1 + 1 + 1 + 1 + 1 + 1) with h9 | h9 | h9 | h9 | h9 | h9 | h9 | h9 | h9 | h9 | h9 | h9 | h9 | h9 | h9 | h9 | h9 | h9 | h9 | h9 | h9 | h9
  · rw [fk_mix_lt h9, hC42, va_up_ne _ _ (by omega), hC41, va_up_ne _ _ (by omega), hC40, va_up_ne _ _ (by omega), hC39, va_up_ne _ _ (by omega), hC38, va_up_ne _ _ (by omega), hC37, va_up_ne _ _ (by omega), hC36, va_up_ne _ _ (by omega), hC35, va_up_ne _ _ (by omega), hC34, va_up_ne _ _ (by omega), hC33, va_up_ne _ _ (by omega), hC32, va_up_ne _ _ (by omega), hC31, va_up_ne _ _ (by omega), hC30, va_up_ne _ _ (by omega), hC29, va_up_ne _ _ (by omega), hC28, va_up_ne _ _ (by omega), hC27, va_up_ne _ _ (by omega), hC26, va_up_ne _ _ (by omega), hC25, va_up_ne _ _ (by omega), hC24, va_up_ne _ _ (by omega), hC23, va_up_ne _ _ (by omega), hC22, va_up_ne _ _ (by omega), hC21, va_up_ne _ _ (by omega), hC20, va_up_ne _ _ (by omega), hC19, va_up_ne _ _ (by omega), hC18, va_up_ne _ _ (by omega), hC17, va_up_ne _ _ (by omega), hC16, va_up_ne _ _ (by omega), hC15, va_up_ne _ _ (by omega), hC14, va_up_ne _ _ (by omega), hC13, va_up_ne _ _ (by omega), hC12, va_up_ne _ _ (by omega), hC11, va_up_ne _ _ (by omega), hC10, va_up_ne _ _ (by omega), hC9, va_up_ne _ _ (by omega), hC8, va_up_ne _ _ (by omega), hC7, va_up_ne _ _ (by omega), hC6, va_up_ne _ _ (by omega), hC5, va_up_ne _ _ (by omega), hC4, va_up_ne _ _ (by omega), hC3, va_up_ne _ _ (by omega), hC2, va_up_ne _ _ (by omega), hC1, va_up_ne _ _ (by omega)]
  · subst h9
    rw [fk_mix_ge (Nat.le_refl _), hC42, va_up_self]
    exact fk_FM.symm
  · subst h9
    rw [fk_mix_ge (by omega), hC42, va_up_ne _ _ (by omega), hC41, va_up_ne _ _ (by omega), hC40, va_up_ne _ _ (by omega), hC39, va_up_ne _ _ (by omega), hC38, va_up_ne _ _ (by omega), hC37, va_up_ne _ _ (by omega), hC36, va_up_ne _ _ (by omega), hC35, va_up_ne _ _ (by omega), hC34, va_up_ne _ _ (by omega), hC33, va_up_ne _ _ (by omega), hC32, va_up_ne _ _ (by omega), hC31, va_up_ne _ _ (by omega), hC30, va_up_ne _ _ (by omega), hC29, va_up_ne _ _ (by omega), hC28, va_up_ne _ _ (by omega), hC27, va_up_ne _ _ (by omega), hC26, va_up_ne _ _ (by omega), hC25, va_up_ne _ _ (by omega), hC24, va_up_ne _ _ (by omega), hC23, va_up_ne _ _ (by omega), hC22, va_up_ne _ _ (by omega), hC21, va_up_ne _ _ (by omega), hC20, va_up_ne _ _ (by omega), hC19, va_up_ne _ _ (by omega), hC18, va_up_ne _ _ (by omega), hC17, va_up_ne _ _ (by omega), hC16, va_up_ne _ _ (by omega), hC15, va_up_ne _ _ (by omega), hC14, va_up_ne _ _ (by omega), hC13, va_up_ne _ _ (by omega), hC12, va_up_ne _ _ (by omega), hC11, va_up_ne _ _ (by omega), hC10, va_up_ne _ _ (by omega), hC9, va_up_ne _ _ (by omega), hC8, va_up_ne _ _ (by omega), hC7, va_up_ne _ _ (by omega), hC6, va_up_ne _ _ (by omega), hC5, va_up_ne _ _ (by omega), hC4, va_up_ne _ _ (by omega), hC3, va_up_ne _ _ (by omega), hC2, va_up_ne _ _ (by omega), hC1, va_up_self]
    exact (fk_Fb12 (by omega) (by decide +kernel)).symm
  · subst h9
    rw [fk_mix_ge (by omega), hC42, va_up_ne _ _ (by omega), hC41, va_up_ne _ _ (by omega), hC40, va_up_ne _ _ (by omega), hC39, va_up_ne _ _ (by omega), hC38, va_up_ne _ _ (by omega), hC37, va_up_ne _ _ (by omega), hC36, va_up_ne _ _ (by omega), hC35, va_up_ne _ _ (by omega), hC34, va_up_ne _ _ (by omega), hC33, va_up_ne _ _ (by omega), hC32, va_up_ne _ _ (by omega), hC31, va_up_ne _ _ (by omega), hC30, va_up_ne _ _ (by omega), hC29, va_up_ne _ _ (by omega), hC28, va_up_ne _ _ (by omega), hC27, va_up_ne _ _ (by omega), hC26, va_up_ne _ _ (by omega), hC25, va_up_ne _ _ (by omega), hC24, va_up_ne _ _ (by omega), hC23, va_up_ne _ _ (by omega), hC22, va_up_ne _ _ (by omega), hC21, va_up_ne _ _ (by omega), hC20, va_up_ne _ _ (by omega), hC19, va_up_ne _ _ (by omega), hC18, va_up_ne _ _ (by omega), hC17, va_up_ne _ _ (by omega), hC16, va_up_ne _ _ (by omega), hC15, va_up_ne _ _ (by omega), hC14, va_up_ne _ _ (by omega), hC13, va_up_ne _ _ (by omega), hC12, va_up_ne _ _ (by omega), hC11, va_up_ne _ _ (by omega), hC10, va_up_ne _ _ (by omega), hC9, va_up_ne _ _ (by omega), hC8, va_up_ne _ _ (by omega), hC7, va_up_ne _ _ (by omega), hC6, va_up_ne _ _ (by omega), hC5, va_up_ne _ _ (by omega), hC4, va_up_ne _ _ (by omega), hC3, va_up_self]
    exact (fk_Fb12 (by omega) (by decide +kernel)).symm
  · subst h9
    rw [fk_mix_ge (by omega), hC42, va_up_ne _ _ (by omega), hC41, va_up_ne _ _ (by omega), hC40, va_up_ne _ _ (by omega), hC39, va_up_ne _ _ (by omega), hC38, va_up_ne _ _ (by omega), hC37, va_up_ne _ _ (by omega), hC36, va_up_ne _ _ (by omega), hC35, va_up_ne _ _ (by omega), hC34, va_up_ne _ _ (by omega), hC33, va_up_ne _ _ (by omega), hC32, va_up_ne _ _ (by omega), hC31, va_up_ne _ _ (by omega), hC30, va_up_ne _ _ (by omega), hC29, va_up_ne _ _ (by omega), hC28, va_up_ne _ _ (by omega), hC27, va_up_ne _ _ (by omega), hC26, va_up_ne _ _ (by omega), hC25, va_up_ne _ _ (by omega), hC24, va_up_ne _ _ (by omega), hC23, va_up_ne _ _ (by omega), hC22, va_up_ne _ _ (by omega), hC21, va_up_ne _ _ (by omega), hC20, va_up_ne _ _ (by omega), hC19, va_up_ne _ _ (by omega), hC18, va_up_ne _ _ (by omega), hC17, va_up_ne _ _ (by omega), hC16, va_up_ne _ _ (by omega), hC15, va_up_ne _ _ (by omega), hC14, va_up_ne _ _ (by omega), hC13, va_up_ne _ _ (by omega), hC12, va_up_ne _ _ (by omega), hC11, va_up_ne _ _ (by omega), hC10, va_up_ne _ _ (by omega), hC9, va_up_ne _ _ (by omega), hC8, va_up_ne _ _ (by omega), hC7, va_up_ne _ _ (by omega), hC6, va_up_ne _ _ (by omega), hC5, va_up_self]
    exact (fk_F12 (by omega) (by decide +kernel)).symm
  · subst h9
    rw [fk_mix_ge (by omega), hC42, va_up_ne _ _ (by omega), hC41, va_up_ne _ _ (by omega), hC40, va_up_ne _ _ (by omega), hC39, va_up_ne _ _ (by omega), hC38, va_up_ne _ _ (by omega), hC37, va_up_ne _ _ (by omega), hC36, va_up_ne _ _ (by omega), hC35, va_up_ne _ _ (by omega), hC34, va_up_ne _ _ (by omega), hC33, va_up_ne _ _ (by omega), hC32, va_up_ne _ _ (by omega), hC31, va_up_ne _ _ (by omega), hC30, va_up_ne _ _ (by omega), hC29, va_up_ne _ _ (by omega), hC28, va_up_ne _ _ (by omega), hC27, va_up_ne _ _ (by omega), hC26, va_up_ne _ _ (by omega), hC25, va_up_ne _ _ (by omega), hC24, va_up_ne _ _ (by omega), hC23, va_up_ne _ _ (by omega), hC22, va_up_ne _ _ (by omega), hC21, va_up_ne _ _ (by omega), hC20, va_up_ne _ _ (by omega), hC19, va_up_ne _ _ (by omega), hC18, va_up_ne _ _ (by omega), hC17, va_up_ne _ _ (by omega), hC16, va_up_ne _ _ (by omega), hC15, va_up_ne _ _ (by omega), hC14, va_up_ne _ _ (by omega), hC13, va_up_ne _ _ (by omega), hC12, va_up_ne _ _ (by omega), hC11, va_up_ne _ _ (by omega), hC10, va_up_ne _ _ (by omega), hC9, va_up_ne _ _ (by omega), hC8, va_up_ne _ _ (by omega), hC7, va_up_self]
    exact (fk_F12 (by omega) (by decide +kernel)).symm
  · subst h9
    rw [fk_mix_ge (by omega), hC42, va_up_ne _ _ (by omega), hC41, va_up_ne _ _ (by omega), hC40, va_up_ne _ _ (by omega), hC39, va_up_ne _ _ (by omega), hC38, va_up_ne _ _ (by omega), hC37, va_up_ne _ _ (by omega), hC36, va_up_ne _ _ (by omega), hC35, va_up_ne _ _ (by omega), hC34, va_up_ne _ _ (by omega), hC33, va_up_ne _ _ (by omega), hC32, va_up_ne _ _ (by omega), hC31, va_up_ne _ _ (by omega), hC30, va_up_ne _ _ (by omega), hC29, va_up_ne _ _ (by omega), hC28, va_up_ne _ _ (by omega), hC27, va_up_ne _ _ (by omega), hC26, va_up_ne _ _ (by omega), hC25, va_up_ne _ _ (by omega), hC24, va_up_ne _ _ (by omega), hC23, va_up_ne _ _ (by omega), hC22, va_up_ne _ _ (by omega), hC21, va_up_ne _ _ (by omega), hC20, va_up_ne _ _ (by omega), hC19, va_up_ne _ _ (by omega), hC18, va_up_ne _ _ (by omega), hC17, va_up_ne _ _ (by omega), hC16, va_up_ne _ _ (by omega), hC15, va_up_ne _ _ (by omega), hC14, va_up_ne _ _ (by omega), hC13, va_up_ne _ _ (by omega), hC12, va_up_ne _ _ (by omega), hC11, va_up_ne _ _ (by omega), hC10, va_up_ne _ _ (by omega), hC9, va_up_self]
    exact (fk_F12 (by omega) (by decide +kernel)).symm
  · subst h9
    rw [fk_mix_ge (by omega), hC42, va_up_ne _ _ (by omega), hC41, va_up_ne _ _ (by omega), hC40, va_up_ne _ _ (by omega), hC39, va_up_ne _ _ (by omega), hC38, va_up_ne _ _ (by omega), hC37, va_up_ne _ _ (by omega), hC36, va_up_ne _ _ (by omega), hC35, va_up_ne _ _ (by omega), hC34, va_up_ne _ _ (by omega), hC33, va_up_ne _ _ (by omega), hC32, va_up_ne _ _ (by omega), hC31, va_up_ne _ _ (by omega), hC30, va_up_ne _ _ (by omega), hC29, va_up_ne _ _ (by omega), hC28, va_up_ne _ _ (by omega), hC27, va_up_ne _ _ (by omega), hC26, va_up_ne _ _ (by omega), hC25, va_up_ne _ _ (by omega), hC24, va_up_ne _ _ (by omega), hC23, va_up_ne _ _ (by omega), hC22, va_up_ne _ _ (by omega), hC21, va_up_ne _ _ (by omega), hC20, va_up_ne _ _ (by omega), hC19, va_up_ne _ _ (by omega), hC18, va_up_ne _ _ (by omega), hC17, va_up_ne _ _ (by omega), hC16, va_up_ne _ _ (by omega), hC15, va_up_ne _ _ (by omega), hC14, va_up_ne _ _ (by omega), hC13, va_up_ne _ _ (by omega), hC12, va_up_ne _ _ (by omega), hC11, va_up_self]
    exact (fk_F12 (by omega) (by decide +kernel)).symm
  · subst h9
    rw [fk_mix_ge (by omega), hC42, va_up_ne _ _ (by omega), hC41, va_up_ne _ _ (by omega), hC40, va_up_ne _ _ (by omega), hC39, va_up_ne _ _ (by omega), hC38, va_up_ne _ _ (by omega), hC37, va_up_ne _ _ (by omega), hC36, va_up_ne _ _ (by omega), hC35, va_up_ne _ _ (by omega), hC34, va_up_ne _ _ (by omega), hC33, va_up_ne _ _ (by omega), hC32, va_up_ne _ _ (by omega), hC31, va_up_ne _ _ (by omega), hC30, va_up_ne _ _ (by omega), hC29, va_up_ne _ _ (by omega), hC28, va_up_ne _ _ (by omega), hC27, va_up_ne _ _ (by omega), hC26, va_up_ne _ _ (by omega), hC25, va_up_ne _ _ (by omega), hC24, va_up_ne _ _ (by omega), hC23, va_up_ne _ _ (by omega), hC22, va_up_ne _ _ (by omega), hC21, va_up_ne _ _ (by omega), hC20, va_up_ne _ _ (by omega), hC19, va_up_ne _ _ (by omega), hC18, va_up_ne _ _ (by omega), hC17, va_up_ne _ _ (by omega), hC16, va_up_ne _ _ (by omega), hC15, va_up_ne _ _ (by omega), hC14, va_up_ne _ _ (by omega), hC13, va_up_self]
    exact (fk_Fb12 (by omega) (by decide +kernel)).symm
  · subst h9
    rw [fk_mix_ge (by omega), hC42, va_up_ne _ _ (by omega), hC41, va_up_ne _ _ (by omega), hC40, va_up_ne _ _ (by omega), hC39, va_up_ne _ _ (by omega), hC38, va_up_ne _ _ (by omega), hC37, va_up_ne _ _ (by omega), hC36, va_up_ne _ _ (by omega), hC35, va_up_ne _ _ (by omega), hC34, va_up_ne _ _ (by omega), hC33, va_up_ne _ _ (by omega), hC32, va_up_ne _ _ (by omega), hC31, va_up_ne _ _ (by omega), hC30, va_up_ne _ _ (by omega), hC29, va_up_ne _ _ (by omega), hC28, va_up_ne _ _ (by omega), hC27, va_up_ne _ _ (by omega), hC26, va_up_ne _ _ (by omega), hC25, va_up_ne _ _ (by omega), hC24, va_up_ne _ _ (by omega), hC23, va_up_ne _ _ (by omega), hC22, va_up_ne _ _ (by omega), hC21, va_up_ne _ _ (by omega), hC20, va_up_ne _ _ (by omega), hC19, va_up_ne _ _ (by omega), hC18, va_up_ne _ _ (by omega), hC17, va_up_ne _ _ (by omega), hC16, va_up_ne _ _ (by omega), hC15, va_up_self]
    exact (fk_F12 (by omega) (by decide +kernel)).symm
  · subst h9
    rw [fk_mix_ge (by omega), hC42, va_up_ne _ _ (by omega), hC41, va_up_ne _ _ (by omega), hC40, va_up_ne _ _ (by omega), hC39, va_up_ne _ _ (by omega), hC38, va_up_ne _ _ (by omega), hC37, va_up_ne _ _ (by omega), hC36, va_up_ne _ _ (by omega), hC35, va_up_ne _ _ (by omega), hC34, va_up_ne _ _ (by omega), hC33, va_up_ne _ _ (by omega), hC32, va_up_ne _ _ (by omega), hC31, va_up_ne _ _ (by omega), hC30, va_up_ne _ _ (by omega), hC29, va_up_ne _ _ (by omega), hC28, va_up_ne _ _ (by omega), hC27, va_up_ne _ _ (by omega), hC26, va_up_ne _ _ (by omega), hC25, va_up_ne _ _ (by omega), hC24, va_up_ne _ _ (by omega), hC23, va_up_ne _ _ (by omega), hC22, va_up_ne _ _ (by omega), hC21, va_up_ne _ _ (by omega), hC20, va_up_ne _ _ (by omega), hC19, va_up_ne _ _ (by omega), hC18, va_up_ne _ _ (by omega), hC17, va_up_self]
    exact (fk_F12 (by omega) (by decide +kernel)).symm
  · subst h9
    rw [fk_mix_ge (by omega), hC42, va_up_ne _ _ (by omega), hC41, va_up_ne _ _ (by omega), hC40, va_up_ne _ _ (by omega), hC39, va_up_ne _ _ (by omega), hC38, va_up_ne _ _ (by omega), hC37, va_up_ne _ _ (by omega), hC36, va_up_ne _ _ (by omega), hC35, va_up_ne _ _ (by omega), hC34, va_up_ne _ _ (by omega), hC33, va_up_ne _ _ (by omega), hC32, va_up_ne _ _ (by omega), hC31, va_up_ne _ _ (by omega), hC30, va_up_ne _ _ (by omega), hC29, va_up_ne _ _ (by omega), hC28, va_up_ne _ _ (by omega), hC27, va_up_ne _ _ (by omega), hC26, va_up_ne _ _ (by omega), hC25, va_up_ne _ _ (by omega), hC24, va_up_ne _ _ (by omega), hC23, va_up_ne _ _ (by omega), hC22, va_up_ne _ _ (by omega), hC21, va_up_ne _ _ (by omega), hC20, va_up_ne _ _ (by omega), hC19, va_up_self]
    exact (fk_F12 (by omega) (by decide +kernel)).symm
  · subst h9
    rw [fk_mix_ge (by omega), hC42, va_up_ne _ _ (by omega), hC41, va_up_ne _ _ (by omega), hC40, va_up_ne _ _ (by omega), hC39, va_up_ne _ _ (by omega), hC38, va_up_ne _ _ (by omega), hC37, va_up_ne _ _ (by omega), hC36, va_up_ne _ _ (by omega), hC35, va_up_ne _ _ (by omega), hC34, va_up_ne _ _ (by omega), hC33, va_up_ne _ _ (by omega), hC32, va_up_ne _ _ (by omega), hC31, va_up_ne _ _ (by omega), hC30, va_up_ne _ _ (by omega), hC29, va_up_ne _ _ (by omega), hC28, va_up_ne _ _ (by omega), hC27, va_up_ne _ _ (by omega), hC26, va_up_ne _ _ (by omega), hC25, va_up_ne _ _ (by omega), hC24, va_up_ne _ _ (by omega), hC23, va_up_ne _ _ (by omega), hC22, va_up_ne _ _ (by omega), hC21, va_up_self]
    exact (fk_F480 (by omega) (by decide +kernel)).symm
  · subst h9
    rw [fk_mix_ge (by omega), hC42, va_up_ne _ _ (by omega), hC41, va_up_ne _ _ (by omega), hC40, va_up_ne _ _ (by omega), hC39, va_up_ne _ _ (by omega), hC38, va_up_ne _ _ (by omega), hC37, va_up_ne _ _ (by omega), hC36, va_up_ne _ _ (by omega), hC35, va_up_ne _ _ (by omega), hC34, va_up_ne _ _ (by omega), hC33, va_up_ne _ _ (by omega), hC32, va_up_ne _ _ (by omega), hC31, va_up_ne _ _ (by omega), hC30, va_up_ne _ _ (by omega), hC29, va_up_ne _ _ (by omega), hC28, va_up_ne _ _ (by omega), hC27, va_up_ne _ _ (by omega), hC26, va_up_ne _ _ (by omega), hC25, va_up_ne _ _ (by omega), hC24, va_up_ne _ _ (by omega), hC23, va_up_self]
    exact (fk_F480 (by omega) (by decide +kernel)).symm
  · subst h9
    rw [fk_mix_ge (by omega), hC42, va_up_ne _ _ (by omega), hC41, va_up_ne _ _ (by omega), hC40, va_up_ne _ _ (by omega), hC39, va_up_ne _ _ (by omega), hC38, va_up_ne _ _ (by omega), hC37, va_up_ne _ _ (by omega), hC36, va_up_ne _ _ (by omega), hC35, va_up_ne _ _ (by omega), hC34, va_up_ne _ _ (by omega), hC33, va_up_ne _ _ (by omega), hC32, va_up_ne _ _ (by omega), hC31, va_up_ne _ _ (by omega), hC30, va_up_ne _ _ (by omega), hC29, va_up_ne _ _ (by omega), hC28, va_up_ne _ _ (by omega), hC27, va_up_ne _ _ (by omega), hC26, va_up_ne _ _ (by omega), hC25, va_up_self]
    exact (fk_F480 (by omega) (by decide +kernel)).symm
  · subst h9
    rw [fk_mix_ge (by omega), hC42, va_up_ne _ _ (by omega), hC41, va_up_ne _ _ (by omega), hC40, va_up_ne _ _ (by omega), hC39, va_up_ne _ _ (by omega), hC38, va_up_ne _ _ (by omega), hC37, va_up_ne _ _ (by omega), hC36, va_up_ne _ _ (by omega), hC35, va_up_ne _ _ (by omega), hC34, va_up_ne _ _ (by omega), hC33, va_up_ne _ _ (by omega), hC32, va_up_ne _ _ (by omega), hC31, va_up_ne _ _ (by omega), hC30, va_up_ne _ _ (by omega), hC29, va_up_ne _ _ (by omega), hC28, va_up_ne _ _ (by omega), hC27, va_up_self]
    exact (fk_F480 (by omega) (by decide +kernel)).symm
  · subst h9
    rw [fk_mix_ge (by omega), hC42, va_up_ne _ _ (by omega), hC41, va_up_ne _ _ (by omega), hC40, va_up_ne _ _ (by omega), hC39, va_up_ne _ _ (by omega), hC38, va_up_ne _ _ (by omega), hC37, va_up_ne _ _ (by omega), hC36, va_up_ne _ _ (by omega), hC35, va_up_ne _ _ (by omega), hC34, va_up_ne _ _ (by omega), hC33, va_up_ne _ _ (by omega), hC32, va_up_ne _ _ (by omega), hC31, va_up_ne _ _ (by omega), hC30, va_up_ne _ _ (by omega), hC29, va_up_self]
    exact (fk_F480 (by omega) (by decide +kernel)).symm
  · subst h9
    rw [fk_mix_ge (by omega), hC42, va_up_ne _ _ (by omega), hC41, va_up_ne _ _ (by omega), hC40, va_up_ne _ _ (by omega), hC39, va_up_ne _ _ (by omega), hC38, va_up_ne _ _ (by omega), hC37, va_up_ne _ _ (by omega), hC36, va_up_ne _ _ (by omega), hC35, va_up_ne _ _ (by omega), hC34, va_up_ne _ _ (by omega), hC33, va_up_ne _ _ (by omega), hC32, va_up_ne _ _ (by omega), hC31, va_up_self]
    exact (fk_Fb480 (by omega) (by decide +kernel)).symm
  · subst h9
    rw [fk_mix_ge (by omega), hC42, va_up_ne _ _ (by omega), hC41, va_up_ne _ _ (by omega), hC40, va_up_ne _ _ (by omega), hC39, va_up_ne _ _ (by omega), hC38, va_up_ne _ _ (by omega), hC37, va_up_ne _ _ (by omega), hC36, va_up_ne _ _ (by omega), hC35, va_up_ne _ _ (by omega), hC34, va_up_ne _ _ (by omega), hC33, va_up_self]
    exact (fk_F40 (by omega) (by decide +kernel)).symm
  · subst h9
    rw [fk_mix_ge (by omega), hC42, va_up_ne _ _ (by omega), hC41, va_up_ne _ _ (by omega), hC40, va_up_ne _ _ (by omega), hC39, va_up_ne _ _ (by omega), hC38, va_up_ne _ _ (by omega), hC37, va_up_ne _ _ (by omega), hC36, va_up_ne _ _ (by omega), hC35, va_up_self]
    exact (fk_F40 (by omega) (by decide +kernel)).symm
  · subst h9
    rw [fk_mix_ge (by omega), hC42, va_up_ne _ _ (by omega), hC41, va_up_ne _ _ (by omega), hC40, va_up_ne _ _ (by omega), hC39, va_up_self]
    exact (fk_F12 (by omega) (by decide +kernel)).symm
  · subst h9
    rw [fk_mix_ge (by omega), hC42, va_up_ne _ _ (by omega), hC41, va_up_self]
    exact (fk_F64 (by omega) (by decide +kernel)).symm
