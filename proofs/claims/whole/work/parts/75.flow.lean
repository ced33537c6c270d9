/-! flow. -/
theorem fk_R4_new {n : Nat} {ck : Nat → Nat} {M : fk_M} {o : Nat} (hn : n ≤ 12) (hck : ∀ f, f < n → ck f < 25) (h4 : M 79 4 = 0) (h5 : M 79 5 = -1) (h6 : M 79 6 = -1) (h83 : ∀ i, i < 25 → M 83 i = 0) (h22 : M 89 22 = 0) (h23 : M 89 23 = 0) (h24 : M 89 24 = -1) (h25 : M 89 25 = -1) (h95 : ∀ f, f < 12 → M 95 f = 0) (h96 : ∀ f, f < 12 → M 96 f = 0) (hp : ∀ f, f < n → M (3 + 6 * f) 5 = 0) (ho : o ≤ 12) (h27 : M 89 27 = nI o) : fk_R4 n ck M := by
  refine ⟨by rw [h4, h23], by rw [h5, h24], by rw [h6, h25], by rw [h83 0 (by decide), h22], fun f hf => ⟨?_, ?_, ?_, fun q => absurd (h95 f (by omega)) q⟩, o, ho, h27, fun q => absurd h4 q⟩
  · rw [h95 f (by omega), h83 _ (hck f hf)]
  · rw [hp f hf, h96 f (by omega)]
  · exact Or.inl (h96 f (by omega))
section
variable {Gd : fk_Gt}
/-- a flow more, on both sides -/
theorem fk_flow_rel {n : Nat} {ck P sz Np : Nat → Nat} {bb sp sl : Nat → Nat → Nat} {x dl : Nat} {db : Nat → Nat} {M : fk_M} (h1 : fk_R1 n ck P sz Np bb sp sl M) (h2 : fk_R2 P x dl db M) (h3 : fk_R3 n ck sz M) (h4 : fk_R4 n ck M) (h12 : n < 12) {vb vi : Int32} (hb : vb = 0 ∨ vb = 1) (hi : vi = 0 ∨ vi = 1) {cc : Nat} (hcc : cc = 0 ∨ (0 < cc ∧ (cc - 1) / 2 < n ∧ ¬ M (3 + 6 * ((cc - 1) / 2)) 1 = 0)) {MA : fk_M}
    (hMA : MA = va_up (va_up M (3 + 6 * n) (upd (upd (upd (M (3 + 6 * n)) 1 vb) 3 (nI cc)) 2 vi)) 1 (upd (M 1) 1 (nI (n + 1)))) :
    fk_Sh (n + 1) (fun f => if f = n then cc else ck f) P sz bb MA ∧ fk_Rel Gd (fk_mf (fk_rs P (fk_fg MA) (n + 1)) n vb (nI cc) vi) := by
  obtain ⟨hs, hr, hp⟩ := h1
  have hcc25 : cc < 25 := by omega
  have eA : ∀ k, k ≠ 3 + 6 * n → k ≠ 1 → MA k = M k := fun k b1 b2 => by rw [hMA, va_up_ne _ _ b2, va_up_ne _ _ b1]
  have eN : MA (3 + 6 * n) = upd (upd (upd (M (3 + 6 * n)) 1 vb) 3 (nI cc)) 2 vi := by rw [hMA, va_up_ne _ _ (by omega), va_up_self]
  have e1 : MA 1 1 = nI (n + 1) := by rw [hMA, va_up_self, pk_us]
  have ef : ∀ j, j < 12 → j ≠ n → MA (3 + 6 * j) = M (3 + 6 * j) := fun j _ hjn => eA _ (by omega) (by omega)
  have eX : ∀ y i, fk_X y → i < 5 → MA (y + i) = M (y + i) := fun y i hy hi9 => by
    have q1 := fk_X83 hy (i := i) hi9
    have q2 := fk_X4 hy (j := n) h12
    refine eA _ (fun e => ?_) (by omega)
    rcases (by omega : i = 0 ∨ i = 1 ∨ i = 2 ∨ i = 3 ∨ i = 4) with rfl | rfl | rfl | rfl | rfl
    · exact q2.2.2.2.2 e
    · exact q2.2.2.2.1 e
    · exact q2.2.2.1 e
    · exact q2.2.1 e
    · exact q2.1 e
  have et : ∀ j t, j < 12 → t ≠ 1 → t ≠ 2 → t ≠ 3 → MA (3 + 6 * j) t = M (3 + 6 * j) t := fun j t hj b1 b2 b3 => by
    by_cases e : j = n
    · subst e
      rw [eN, pk_un b2, pk_un b3, pk_un b1]
    · rw [ef j hj e]
  have hSh : fk_Sh (n + 1) (fun f => if f = n then cc else ck f) P sz bb MA := by
    refine ⟨e1, by omega, fun j hj => ?_⟩
    obtain ⟨a1, a2, a3, a4, a5, a6, a7, a8, a9, a10, a11, a12⟩ := hs.2.2 j hj
    have q0 := eX (P j) 0 a1 (by decide)
    rw [Nat.add_zero] at q0
    rw [q0, eX (P j) 1 a1 (by decide), eX (P j) 2 a1 (by decide), eX (P j) 3 a1 (by decide), et j 0 hj (by decide) (by decide) (by decide)]
    refine ⟨a1, a2, ?_, ?_, a5, a6, a7, a8, fun h => fk_T_mono (by omega) _ _ _ (a9 h), ?_, ?_, ?_⟩
    · by_cases e : j = n
      · subst e
        rw [eN, pk_un (by decide), pk_us]
        show _ = nI (if _ then _ else _)
        rw [if_pos rfl]
      · rw [ef j hj e, a3]
        show _ = nI (if _ then _ else _)
        rw [if_neg e]
    · show (if _ then _ else _) < 25
      split
      · exact hcc25
      · exact a4
    · by_cases e : j = n
      · subst e
        rw [eN, pk_un (by decide), pk_un (by decide), pk_us]
        exact hb
      · rw [ef j hj e]
        exact a10
    · by_cases e : j = n
      · subst e
        rw [eN, pk_us]
        exact hi
      · rw [ef j hj e]
        exact a11
    · by_cases e : j = n
      · subst e
        exact fun _ => ((h3.1 j hj).2.2.2.2 (Nat.le_refl _)).1
      · rw [ef j hj e]
        exact a12
  refine ⟨hSh, ?_⟩
  have hP : ∀ j, j < 12 → fk_X (P j) := fun j hj => (hs.2.2 j hj).1
  obtain ⟨M8, hM8⟩ : ∃ z : fk_M, z = fk_rs P (fk_fg MA) (n + 1) := ⟨_, rfl⟩
  rw [← hM8]
  have k8 : ∀ k, (k = 0 ∨ k = 2 ∨ k = 75 ∨ k = 77 ∨ 89 ≤ k) → M8 k = M k := fun k hk => by
    rw [hM8, fk_rs_hi hP (by omega) (by omega), fk_fg_k (by omega), eA k (by omega) (by omega)]
  have x8 : ∀ y i, fk_X y → i < 4 → M8 (y + i) = M (y + i) := fun y i hy hi9 => by
    have q1 := fk_X83 hy (i := i) (by omega)
    rw [hM8, fk_rs_x hP hy hi9 (by omega), fk_fg_k (by omega), eX y i hy (by omega)]
  have f8 : ∀ j t, j < 12 → t ≠ 5 → M8 (3 + 6 * j) t = MA (3 + 6 * j) t := fun j t hj ht => by
    rw [hM8, fk_rs_ft hP hj (by omega) ht, fk_fg_k (by omega)]
  obtain ⟨M9, hM9⟩ : ∃ z : fk_M, z = fk_mf M8 n vb (nI cc) vi := ⟨_, rfl⟩
  rw [← hM9]
  have c9 : ∀ k, k < 89 → M9 k = M8 k := fun k hk => by
    rw [hM9]
    unfold fk_mf
    rw [fk_ma_k (by omega), va_up_ne _ _ (by omega), va_up_ne _ _ (by omega), va_up_ne _ _ (by omega), va_up_ne _ _ (by omega), fk_th_ne (by omega)]
  have d9 : ∀ k, 89 < k → k ≠ 90 → k ≠ 91 → k ≠ 92 → k ≠ 94 → k ≠ 95 → k ≠ 96 → k ≠ 103 → k ≠ 105 → M9 k = M k := fun k b0 b1 b2 b3 b4 b5 b6 b7 b8 => by
    rw [hM9]
    unfold fk_mf
    rw [fk_ma_k (by omega), va_up_ne _ _ (by omega), va_up_ne _ _ (by omega), va_up_ne _ _ (by omega), va_up_ne _ _ (by omega), fk_th_ne (by omega), k8 k (by omega)]
  have e90 : M9 90 = upd (M 90) n vb := by
    rw [hM9]
    unfold fk_mf
    rw [fk_ma_k (by decide), va_up_ne _ _ (by decide), va_up_ne _ _ (by decide), va_up_ne _ _ (by decide), va_up_self, k8 90 (by decide)]
  have e91 : M9 91 = upd (M 91) n vi := by
    rw [hM9]
    unfold fk_mf
    rw [fk_ma_k (by decide), va_up_ne _ _ (by decide), va_up_self, k8 91 (by decide)]
  have e92 : M9 92 = upd (M 92) n (nI cc) := by
    rw [hM9]
    unfold fk_mf
    rw [fk_ma_k (by decide), va_up_ne _ _ (by decide), va_up_ne _ _ (by decide), va_up_self, k8 92 (by decide)]
  have t89 : ∀ t, t ≠ 0 → t ≠ 1 → t ≠ 22 → t ≠ 23 → t ≠ 24 → t ≠ 25 → M9 89 t = M 89 t := fun t b0 b1 b2 b3 b4 b5 => by
    rw [hM9]
    unfold fk_mf
    rw [fk_ma_89t ⟨b2, b3, b4, b5⟩, va_up_self, pk_un b1, fk_th_s b0, k8 89 (by decide)]
  have n9 : M9 89 1 = nI (n + 1) := by
    rw [hM9]
    unfold fk_mf
    rw [fk_ma_89t (by decide), va_up_self, pk_us]
  have hf9 : ∀ j t, j < 12 → t ≠ 5 → M9 (3 + 6 * j) t = MA (3 + 6 * j) t := fun j t hj ht => by rw [c9 _ (by omega), f8 j t hj ht]
  obtain ⟨a1, a2, a3, a4, a5, a6, a7, a8, a9⟩ := h2
  have hx0 := fk_X83 a1 (i := 0) (by decide)
  have hx1 := fk_X83 a1 (i := 1) (by decide)
  have hx3 := fk_X83 a1 (i := 3) (by decide)
  obtain ⟨o, ho, h27, -⟩ := h4.2.2.2.2.2
  have hSh9 : fk_Sh (n + 1) (fun f => if f = n then cc else ck f) P sz bb M9 := by
    refine hSh.to ⟨?_, fun j hj t ht => hf9 j t hj (by omega), fun y hy => ?_⟩
    · rw [c9 1 (by decide), hM8, fk_rs_hi hP (by omega) (by decide), fk_fg_k (by decide)]
    · have q0 := fk_X83 hy (i := 0) (by decide)
      have q1 := fk_X83 hy (i := 1) (by decide)
      have q2 := fk_X83 hy (i := 2) (by decide)
      have q3 := fk_X83 hy (i := 3) (by decide)
      have r0 : M9 y = MA y := by have := x8 y 0 hy (by decide); have r := eX y 0 hy (by decide); rw [Nat.add_zero] at this r; rw [c9 y (by omega), this, r]
      exact ⟨r0, by rw [c9 _ (by omega), x8 y 1 hy (by decide), eX y 1 hy (by decide)], by rw [c9 _ (by omega), x8 y 2 hy (by decide), eX y 2 hy (by decide)], by rw [c9 _ (by omega), x8 y 3 hy (by decide), eX y 3 hy (by decide)]⟩
  refine ⟨n + 1, fun f => if f = n then cc else ck f, P, sz, fun f => if f = n then 0 else Np f, bb, sp, fun f => if f = n then fun _ => 1 else sl f, x, dl, db, ⟨hSh9, ⟨by omega, n9, fun f hf => ?_⟩, fun f hf h0 => ?_⟩, ⟨a1, ?_, a3, a4, ?_, ?_, a7, fun i hi9 => ?_, fun i hi9 => ?_⟩, ⟨fun f hf => ?_, fun f hf => ?_, fun f hf hb9 => ?_⟩, ?_, fun q => absurd ?_ q⟩
  · -- the reference's shape
    by_cases e : f = n
    · subst e
      rw [e92]
      obtain ⟨b1, b2, b3, b4, b5⟩ := h3.1 f (by omega)
      obtain ⟨b6, b7, b8⟩ := b5 (Nat.le_refl _)
      refine ⟨?_, ?_, by omega, ?_, ?_, fun p hp9 => absurd hp9 ?_, ?_, fun p hp9 => absurd hp9 ?_, fun j hj => absurd hj (by omega), fun q => absurd ?_ q⟩
      · show (if f = f then cc else ck f) < 25
        rw [if_pos rfl]; exact hcc25
      · show _ = nI (if f = f then cc else ck f)
        rw [if_pos rfl, pk_us]
      · show (if f = f then 0 else Np f) ≤ 40
        rw [if_pos rfl]; omega
      · show (if f = f then fun _ => 1 else sl f) 0 = 1
        rw [if_pos rfl]
      · show ¬ p < (if f = f then 0 else Np f)
        rw [if_pos rfl]; omega
      · show _ = nI (if f = f then 0 else Np f)
        rw [d9 99 (by decide) (by decide) (by decide) (by decide) (by decide) (by decide) (by decide) (by decide) (by decide), if_pos rfl, b8, nI_0]
      · show ¬ p < (if f = f then 0 else Np f)
        rw [if_pos rfl]; omega
      · rw [d9 98 (by decide) (by decide) (by decide) (by decide) (by decide) (by decide) (by decide) (by decide) (by decide), b4, b6, nI_0]
    · obtain ⟨b1, b2, b3⟩ := hr.2.2 f (by omega)
      obtain ⟨c1, c2, c3, c4, c5, c6, c7, c8⟩ := b3
      show (if f = n then cc else ck f) < 25 ∧ M9 92 f = nI (if f = n then cc else ck f) ∧ fk_RE M9 (n + 1) f (sz f) (if f = n then 0 else Np f) (bb f) (sp f) (if f = n then fun _ => 1 else sl f)
      rw [if_neg e, if_neg e, if_neg e, e92, pk_un e]
      refine ⟨b1, b2, c1, c2, c3, fk_RF_mono (by omega) c4, ?_, ?_, ?_, ?_⟩
      · rw [d9 99 (by decide) (by decide) (by decide) (by decide) (by decide) (by decide) (by decide) (by decide) (by decide)]; exact c5
      · rw [d9 101 (by decide) (by decide) (by decide) (by decide) (by decide) (by decide) (by decide) (by decide) (by decide)]; exact c6
      · rw [d9 100 (by decide) (by decide) (by decide) (by decide) (by decide) (by decide) (by decide) (by decide) (by decide)]; exact c7
      · rw [d9 98 (by decide) (by decide) (by decide) (by decide) (by decide) (by decide) (by decide) (by decide) (by decide)]; exact c8
  · -- parts
    by_cases e : f = n
    · subst e
      have := ((h3.1 f (by omega)).2.2.2.2 (Nat.le_refl _)).1
      omega
    · show sp f 0 = 0 ∧ (∀ p, p < (if f = n then 0 else Np f) → _) ∧ sp f (if f = n then 0 else Np f) = sz f
      rw [if_neg e]
      exact hp f (by omega) h0
  · rw [c9 0 (by decide), k8 0 (by decide)]; exact a2
  · have q := x8 x 0 a1 (by decide)
    rw [Nat.add_zero] at q
    rw [c9 x (by omega), q]; exact a5
  · rw [t89 19 (by decide) (by decide) (by decide) (by decide) (by decide) (by decide)]; exact a6
  · rw [c9 _ (by omega), x8 x 1 a1 (by decide), d9 106 (by decide) (by decide) (by decide) (by decide) (by decide) (by decide) (by decide) (by decide) (by decide)]; exact a8 i hi9
  · rw [c9 _ (by omega), x8 x 3 a1 (by decide)]; exact a9 i hi9
  · -- flows
    obtain ⟨b1, b2, b3, b4, b5⟩ := h3.1 f hf
    rw [hf9 f 1 hf (by decide), hf9 f 2 hf (by decide), hf9 f 4 hf (by decide), et f 4 hf (by decide) (by decide) (by decide), e90, e91, d9 93 (by decide) (by decide) (by decide) (by decide) (by decide) (by decide) (by decide) (by decide) (by decide), d9 98 (by decide) (by decide) (by decide) (by decide) (by decide) (by decide) (by decide) (by decide) (by decide), d9 99 (by decide) (by decide) (by decide) (by decide) (by decide) (by decide) (by decide) (by decide) (by decide)]
    refine ⟨?_, ?_, b3, b4, fun q => b5 (by omega)⟩
    · by_cases e : f = n
      · subst e
        rw [eN, pk_un (by decide), pk_un (by decide), pk_us, pk_us]
      · rw [ef f hf e, pk_un e]; exact b1
    · by_cases e : f = n
      · subst e
        rw [eN, pk_us, pk_us]
      · rw [ef f hf e, pk_un e]; exact b2
  · -- clocks
    show (if f = n then cc else ck f) = 0 ∨ _ ∧ ¬ M9 (3 + 6 * (((if f = n then cc else ck f) - 1) / 2)) 1 = 0
    by_cases e : f = n
    · subst e
      rw [if_pos rfl]
      rcases hcc with q | ⟨q1, q2, q3⟩
      · exact Or.inl q
      · exact Or.inr ⟨by show ((if f = f then cc else ck f) - 1) / 2 < f; rw [if_pos rfl]; exact q2, by rw [hf9 _ 1 (by omega) (by decide), ef _ (by omega) (by omega)]; exact q3⟩
    · rw [if_neg e]
      rcases h3.2.1 f (by omega) with q | ⟨q1, q2⟩
      · exact Or.inl q
      · exact Or.inr ⟨by show ((if f = n then cc else ck f) - 1) / 2 < f; rw [if_neg e]; exact q1, by rw [hf9 _ 1 (by omega) (by decide), ef _ (by omega) (by omega)]; exact q2⟩
  · rw [hf9 f 4 (by omega) (by decide), et f 4 (by omega) (by decide) (by decide) (by decide)]
    by_cases e : f = n
    · subst e
      exact Or.inl ((h3.1 f (by omega)).2.2.2.2 (Nat.le_refl _)).2.1
    · rw [hf9 f 1 (by omega) (by decide), ef f (by omega) e] at hb9
      exact h3.2.2 f (by omega) hb9
  · have g79 : ∀ t, M9 79 t = fk_fg MA 79 t := fun t => by rw [c9 79 (by decide), hM8, fk_rs_hi hP (by omega) (by decide)]
    refine fk_R4_new (o := o) (by omega) (fun f hf => ?_) (by rw [g79, fk_fg_4]) (by rw [g79, fk_fg_5]) (by rw [g79, fk_fg_6]) (fun i hi9 => ?_) ?_ ?_ ?_ ?_ (fun f hf => ?_) (fun f hf => ?_) (fun f hf => ?_) ho ?_
    · exact (hSh9.2.2 f (by omega)).2.2.2.1
    · rw [c9 83 (by decide), hM8, fk_rs_83 hP (n + 1) (by omega)]
      exact fk_fl_lt hi9
    · rw [hM9]; exact fk_ma_22
    · rw [hM9]; exact fk_ma_23
    · rw [hM9]; exact fk_ma_24
    · rw [hM9]; exact fk_ma_25
    · rw [hM9]; exact fk_ma_95 hf
    · rw [hM9]; exact fk_ma_96 hf
    · rw [c9 _ (by omega), hM8]; exact fk_rs_f5 hP hf (by omega)
    · rw [t89 27 (by decide) (by decide) (by decide) (by decide) (by decide) (by decide)]; exact h27
  · rw [c9 79 (by decide), hM8, fk_rs_hi hP (by omega) (by decide)]; exact fk_fg_4
theorem o_flow (hG : fk_Gs Gd) (l : Launch) (hfl : l.flags = flags0) : fk_o_flow l (fk_Rel Gd) := by
  intro g ov M h vb v vi hb hi
  have h0 := h
  obtain ⟨n, ck, P, sz, Np, bb, sp, sl, x, dl, db, h1, h2, h3, h4, h5⟩ := h
  have hn := h1.1.2.1
  -- which clocks are none
  by_cases hv0 : v < 0
  · have c9 := c_M_flow l g ov M n h1.2.1.2.1 hn vb v vi hb hi true (Or.inl ⟨hv0, rfl⟩)
    rw [show decide (true = false ∧ n = 12) = false from decide_eq_false (fun q => absurd q.1 (by decide)), if_pos (by decide), if_pos (by decide)] at c9
    exact ⟨1, 2, M, fk_th M 1, ov, _, by decide, by decide, h_flow_t1 l g ov M M vb v vi (t_D_flow1 l hfl g ov M n h1.1.1 hn vb vi v (Or.inl hv0)) ⟨rfl, rfl⟩ ⟨by decide, by decide⟩, c9, fk_th_0, fun h => absurd h (by decide), h0.th hG 1⟩
  · obtain ⟨cc, hc31, rfl⟩ := nI_of hv0
    by_cases hok : cc = 0 ∨ (0 < cc ∧ (cc - 1) / 2 < n ∧ ¬ M (3 + 6 * ((cc - 1) / 2)) 1 = 0)
    · have hcc : cc = 0 ∨ (0 < cc ∧ cc < 2 ^ 31 ∧ fk_ic M n cc = true) := by
        rcases hok with q | ⟨q1, q2, q3⟩
        · exact Or.inl q
        · exact Or.inr ⟨q1, hc31, decide_eq_true ⟨q2, q3⟩⟩
      have hbd : ∀ M' : fk_M, M' 90 = M 90 → (nI cc < 0 ∧ false = true) ∨ (nI cc = 0 ∧ false = false) ∨ ∃ ck', 0 < ck' ∧ ck' < 2 ^ 31 ∧ nI cc = nI ck' ∧ false = decide (n ≤ (ck' - 1) / 2 ∨ M' 90 ((ck' - 1) / 2) = 0) := by
        intro M' e
        rcases hok with q | ⟨q1, q2, q3⟩
        · exact Or.inr (Or.inl ⟨by rw [q]; exact nI_0, rfl⟩)
        · refine Or.inr (Or.inr ⟨cc, q1, hc31, rfl, (decide_eq_false (fun q => ?_)).symm⟩)
          rcases q with q | q
          · omega
          · rw [e, ← (h3.1 _ (by omega)).1] at q
            exact q3 q
      by_cases h12 : n = 12
      · subst h12
        have c9 := c_M_flow l g ov M 12 h1.2.1.2.1 (by decide) vb (nI cc) vi hb hi false (hbd M rfl)
        rw [show decide (false = false ∧ 12 = 12) = true by decide, if_pos (by decide), if_pos (by decide)] at c9
        exact ⟨2, 2, M, fk_th M 2, ov, _, by decide, by decide, h_flow_t2 l g ov M M vb (nI cc) vi (t_D_flow2 l hfl g ov M h1.1.1 vb vi cc hcc) ⟨rfl, rfl⟩ ⟨by decide, by decide⟩, c9, fk_th_0, fun h => absurd h (by decide), h0.th hG 2⟩
      · have hlt : n < 12 := by omega
        obtain ⟨MA, hMA⟩ : ∃ z : fk_M, z = va_up (va_up M (3 + 6 * n) (upd (upd (upd (M (3 + 6 * n)) 1 vb) 3 (nI cc)) 2 vi)) 1 (upd (M 1) 1 (nI (n + 1))) := ⟨_, rfl⟩
        obtain ⟨hSh, hRel⟩ := fk_flow_rel (Gd := Gd) h1 h2 h3 h4 hlt hb hi hok hMA
        have hP : ∀ j, j < 12 → fk_X (P j) := fun j hj => (h1.1.2.2 j hj).1
        have c8 := c_D_flow l g ov M n h1.1.1 hlt vb vi hb hi cc hcc (fun f => if f = n then cc else ck f) P sz bb (by rw [← hMA]; exact hSh)
        rw [← hMA] at c8
        have k8 : ∀ k, 89 ≤ k → fk_rs P (fk_fg MA) (n + 1) k = M k := fun k hk => by
          rw [fk_rs_hi hP (by omega) (by omega), fk_fg_k (by omega), hMA, va_up_ne _ _ (by omega), va_up_ne _ _ (by omega)]
        have c9 := c_M_flow l g (nI n).toInt64 (fk_rs P (fk_fg MA) (n + 1)) n (by rw [k8 89 (by decide)]; exact h1.2.1.2.1) hn vb (nI cc) vi hb hi false (hbd _ (k8 90 (by decide)))
        rw [show decide (false = false ∧ n = 12) = false from decide_eq_false (fun q => h12 q.2), if_neg (by decide), if_neg (by decide)] at c9
        refine ⟨0, 2, _, _, _, nI n, by decide, by decide, h_flow_r l g ov M _ vb (nI cc) vi (nI n) c8 ⟨rfl, rfl⟩ ⟨by decide, by decide⟩, c9, ?_, fun _ => rfl, hRel⟩
        unfold fk_mf
        rw [fk_ma_89t (by decide), va_up_self, pk_un (by decide)]
        exact fk_th_0
    · have hc0 : 0 < cc := by omega
      have c9 := c_M_flow l g ov M n h1.2.1.2.1 hn vb (nI cc) vi hb hi true (Or.inr (Or.inr ⟨cc, hc0, hc31, rfl, (decide_eq_true (by
        by_cases q : n ≤ (cc - 1) / 2
        · exact Or.inl q
        · refine Or.inr (Decidable.byContradiction (fun q2 => hok (Or.inr ⟨hc0, by omega, fun q3 => q2 ?_⟩)))
          rw [← (h3.1 _ (by omega)).1]
          exact q3)).symm⟩))
      rw [show decide (true = false ∧ n = 12) = false from decide_eq_false (fun q => absurd q.1 (by decide)), if_pos (by decide), if_pos (by decide)] at c9
      exact ⟨1, 2, M, fk_th M 1, ov, _, by decide, by decide, h_flow_t1 l g ov M M vb (nI cc) vi (t_D_flow1 l hfl g ov M n h1.1.1 hn vb vi (nI cc) (Or.inr ⟨cc, rfl, hc0, hc31, decide_eq_false (fun q => hok (Or.inr ⟨hc0, q.1, q.2⟩))⟩)) ⟨rfl, rfl⟩ ⟨by decide, by decide⟩, c9, fk_th_0, fun h => absurd h (by decide), h0.th hG 1⟩
end
