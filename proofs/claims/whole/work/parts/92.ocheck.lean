/-! check: the class's and the reference's, from one relation to the next. -/
theorem z_ag_k {n q : Nat} (h1 : q ≠ 75) (h2 : q ≠ 77) (h3 : q ≠ 78) : ∀ d k o pl M, fk_ag n d k o pl M q = M q := by
  intro d
  induction d with
  | zero => intro k o pl M; rfl
  | succ d ih =>
    intro k o pl M
    cases hp : fk_pk M n pl with
    | none =>
      show (match fk_pk M n pl with | none => M | some j => _) q = _
      rw [hp]
    | some j =>
      rw [z_ag_s hp]
      split
      · rw [ih, va_up_ne _ _ h1, va_up_ne _ _ h2, va_up_ne _ _ h3]
      · rw [ih, va_up_ne _ _ h3]
theorem z_pc0 : ∀ n, n ≤ 12 → fk_pc (nI 0) n = 0 := by
  intro n
  induction n with
  | zero => intro _; rfl
  | succ n ih =>
    intro h
    have h0 : ∀ f : Fin 12, fk_wf (nI 0) f.1 = false := by decide +kernel
    show fk_pc (nI 0) n + (fk_wf (nI 0) n).toNat = 0
    rw [ih (by omega), h0 ⟨n, by omega⟩]
    rfl
theorem z_wf0 {f : Nat} (h : f < 12) : fk_wf (nI 0) f = false := by
  have h0 : ∀ f : Fin 12, fk_wf (nI 0) f.1 = false := by decide +kernel
  exact h0 ⟨f, h⟩
section
variable {n : Nat} {ck P sz Np : Nat → Nat} {bb sp sl : Nat → Nat → Nat} {x dl : Nat} {db : Nat → Nat} {M : fk_M} {Gd : fk_Gt}
/-- the relation after a check, from what became of the cells -/
theorem z_rel (h1 : fk_R1 n ck P sz Np bb sp sl M) (h2 : fk_R2 P x dl db M) (h3 : fk_R3 n ck sz M) (M9 : fk_M) (F1 : ∀ k, k < 89 → k ≠ 83 → (k < 75 ∨ 81 < k) → (∀ j, j < 12 → k ≠ P j + 3) → (∀ j, j < n → k ≠ P j + 4) → (∀ f, f < n → k ≠ 3 + 6 * f) → M9 k = M k) (F2 : ∀ f t, f < 12 → t ≠ 5 → M9 (3 + 6 * f) t = M (3 + 6 * f) t) (F2' : ∀ f, f < n → M9 (3 + 6 * f) 5 = 0) (F3 : ∀ c, c < 25 → M9 83 c = 0) (F4 : ∀ k, 90 ≤ k → k ≠ 94 → k ≠ 95 → k ≠ 96 → k ≠ 97 → k ≠ 102 → k ≠ 103 → k ≠ 105 → k ≠ 108 → k ≠ 109 → M9 k = M k) (F5 : M9 89 1 = M 89 1 ∧ M9 89 19 = M 89 19 ∧ M9 89 22 = 0) (F6 : ∀ f, f < 12 → M9 95 f = 0 ∧ M9 96 f = 0) (F7 : fk_Sh n ck P sz bb M9) (F8 : M9 79 4 = M9 89 23 ∧ M9 79 5 = M9 89 24 ∧ M9 79 6 = M9 89 25) (F9 : ∃ o, o ≤ 12 ∧ M9 89 27 = nI o ∧ (¬ M9 79 4 = 0 → M9 75 3 = nI o ∧ ∀ i, i < o → M9 77 i = M9 108 i)) (F10 : ¬ M9 79 4 = 0 → Gd n ck P sz Np bb sp sl M9) : fk_Rel Gd M9 := by
  obtain ⟨hs, hr, hp⟩ := h1
  have hn := hs.2.1
  obtain ⟨a1, a2, a3, a4, a5, a6, a7, a8, a9⟩ := h2
  have hPX : ∀ j, j < 12 → fk_X (P j) := fun j hj => (hs.2.2 j hj).1
  have ex : ∀ i, i < 5 → M9 (x + i) = M (x + i) := fun i hi => by
    have b := fk_X83 a1 (i := i) hi
    refine F1 _ (by omega) (by omega) (by omega) (fun j hj e => a3 j hj (fk_XX a1 (hPX j hj) hi (by decide) e).symm) (fun j hj e => a3 j (by omega) (fk_XX a1 (hPX j (by omega)) hi (by decide) e).symm) (fun f hf e => ?_)
    have h12 := fk_X4 a1 (j := f) (by omega)
    rcases (by omega : i = 0 ∨ i = 1 ∨ i = 2 ∨ i = 3 ∨ i = 4) with rfl | rfl | rfl | rfl | rfl
    · exact h12.2.2.2.2 e
    · exact h12.2.2.2.1 e
    · exact h12.2.2.1 e
    · exact h12.2.1 e
    · exact h12.1 e
  have e0 : M9 0 = M 0 := F1 0 (by decide) (by decide) (by decide) (fun j hj e => by omega) (fun j hj e => by omega) (fun f hf e => by omega)
  have k4 : ∀ k, (k = 90 ∨ k = 91 ∨ k = 92 ∨ k = 93 ∨ k = 98 ∨ k = 99 ∨ k = 100 ∨ k = 101 ∨ k = 106) → M9 k = M k := fun k h => F4 k (by omega) (by omega) (by omega) (by omega) (by omega) (by omega) (by omega) (by omega) (by omega) (by omega)
  refine ⟨n, ck, P, sz, Np, bb, sp, sl, x, dl, db, ⟨F7, hr.of ⟨F5.1, k4 90 (by decide), k4 91 (by decide), k4 92 (by decide), k4 98 (by decide), k4 99 (by decide), k4 100 (by decide), k4 101 (by decide)⟩, hp⟩, ⟨a1, by rw [e0]; exact a2, a3, a4, ?_, by rw [F5.2.1]; exact a6, a7, ?_, ?_⟩, ⟨fun f hf => ?_, fun f hf => ?_, fun f hf => ?_⟩, ⟨F8.1, F8.2.1, F8.2.2, ?_, fun f hf => ?_, F9⟩, F10⟩
  · have := ex 0 (by decide)
    rw [Nat.add_zero] at this
    rw [this]; exact a5
  · rw [ex 1 (by decide), k4 106 (by decide)]; exact a8
  · rw [ex 3 (by decide)]; exact a9
  · rw [F2 f 1 hf (by decide), F2 f 2 hf (by decide), F2 f 4 hf (by decide), k4 90 (by decide), k4 91 (by decide), k4 93 (by decide), k4 98 (by decide), k4 99 (by decide)]
    exact h3.1 f hf
  · rcases h3.2.1 f hf with q | q
    · exact Or.inl q
    · exact Or.inr ⟨q.1, by rw [F2 _ 1 (by omega) (by decide)]; exact q.2⟩
  · rw [F2 f 1 (by omega) (by decide), F2 f 4 (by omega) (by decide)]
    exact h3.2.2 f hf
  · rw [F3 0 (by decide), F5.2.2]
  · have hc := (hs.2.2 f (by omega)).2.2.2.1
    rw [(F6 f (by omega)).1, (F6 f (by omega)).2, F3 _ hc, F2' f hf]
    exact ⟨rfl, rfl, Or.inl rfl, fun q => absurd rfl q⟩
end
set_option maxHeartbeats 1000000 in
theorem o_check (t : Nat) (l : Launch) : fk_o_check l (fk_Rel (z_Gd t)) := by
  intro g ov M hRel
  obtain ⟨n, ck, P, sz, Np, bb, sp, sl, x, dl, db, h1, h2, h3, h4, h5⟩ := hRel
  obtain ⟨hs, hr, hp⟩ := h1
  have hn := hs.2.1
  have hPX : ∀ j, j < 12 → fk_X (P j) := fun j hj => (hs.2.2 j hj).1
  have x3 : ∀ j i, j < 12 → i < 5 → 4 ≤ P j + i ∧ (P j + i < 75 ∨ (84 ≤ P j + i ∧ P j + i < 89)) := fun j i hj hi => fk_X83 (hPX j hj) hi
  obtain ⟨Cx, hCx⟩ : ∃ z : fk_M, z = fk_fg (fk_rs P M n) := ⟨_, rfl⟩
  obtain ⟨C0, hC0⟩ : ∃ z : fk_M, z = fk_tr n ck P sz bb Cx := ⟨_, rfl⟩
  have ho : ∀ k, k ≠ 76 → C0 k = Cx k := by rw [hC0]; exact fk_t2_O n (fk_t1_O ck P sz bb Cx n) n
  have hx : ∀ k, k ≠ 79 → Cx k = fk_rs P M n k := fun k hk => by rw [hCx]; exact fk_fg_k hk
  have hS0 : fk_Sh n ck P sz bb C0 := by
    have s1 := hs.to (fk_rs_Eq hPX M n hn)
    have s2 : fk_Sh n ck P sz bb Cx := by rw [hCx]; exact s1.to (fk_Eq_k (by omega) _)
    rw [hC0]
    exact s2.to ((fk_t2_O n (fk_t1_O ck P sz bb Cx n) n).Eq (by omega))
  have hhi : ∀ k, 89 ≤ k → C0 k = M k := fun k hk => by rw [ho k (by omega), hx k (by omega)]; exact fk_rs_hi hPX hn (by omega)
  have hfl : ∀ f t, f < 12 → t ≠ 5 → C0 (3 + 6 * f) t = M (3 + 6 * f) t := fun f t hf ht => by rw [ho _ (by omega), hx _ (by omega)]; exact fk_rs_ft hPX hf hn ht
  have zB : ∀ R : fk_M, (∀ k, 90 ≤ k → k ≠ 94 → k ≠ 95 → k ≠ 96 → k ≠ 103 → k ≠ 105 → R k = M k) → R 89 1 = M 89 1 → z_B n ck P sz Np bb sp sl C0 R := fun R q1 q2 => by
    have k4 : ∀ k, (k = 90 ∨ k = 91 ∨ k = 92 ∨ k = 93 ∨ k = 98 ∨ k = 99 ∨ k = 100 ∨ k = 101 ∨ k = 106) → R k = M k := fun k h => q1 k (by omega) (by omega) (by omega) (by omega) (by omega) (by omega)
    refine ⟨hS0, hr.of ⟨q2, k4 90 (by decide), k4 91 (by decide), k4 92 (by decide), k4 98 (by decide), k4 99 (by decide), k4 100 (by decide), k4 101 (by decide)⟩, hp, h2.2.2.2.1, fun f hf => ?_, ?_⟩
    · rw [hfl f 1 hf (by decide), hfl f 2 hf (by decide), k4 90 (by decide), k4 91 (by decide), k4 98 (by decide)]
      obtain ⟨b1, b2, b3, b4, b5⟩ := h3.1 f hf
      exact ⟨b1, b2, b4⟩
    · rw [k4 90 (by decide), hhi 90 (by decide)]
  have hck : ∀ f, f < n → ck f = 0 ∨ (ck f - 1) / 2 < f := fun f hf => (h3.2.1 f hf).imp id (fun q => q.1)
  have hE : ∀ f, f < n → Cx (P f + 2) = C0 (P f + 2) := fun f hf => (ho _ (by have := x3 f 2 (by omega) (by decide); omega)).symm
  have hC76 : C0 76 = fk_tr n ck P sz bb Cx 76 := by rw [hC0]
  obtain ⟨M8, hM8⟩ : ∃ z : fk_M, z = (fk_exm n ck P sz bb (fk_rs P M n)).2 := ⟨_, rfl⟩
  have hex : ∀ r C', fk_ru n ck P sz bb 5 1 C0 = (r, C') → fk_exm n ck P sz bb (fk_rs P M n) = if r = 0 then (0, fk_pd (fk_ag0 n C')) else (r, C') := fun r C' q => by
    unfold fk_exm
    rw [← hCx, ← hC0, q]
  have hi8 : ∀ k, 89 ≤ k → M8 k = M k := fun k hk => by
    rcases z_check (zB M (fun _ _ _ _ _ _ _ => rfl) rfl) hck hE hC76 with ⟨rule, f, i, C', R', r1, r2, c1, c2, c3, c4, c5⟩ | ⟨C', R', c1, c2, c3, c4, c5, c6⟩
    · rw [hM8, hex _ _ c1, if_neg (by omega)]
      show va_up C' 79 _ k = _
      rw [va_up_ne _ _ (by omega), c4 k (by omega) (by omega) (fun j hj => by have := x3 j 3 hj (by decide); omega), hhi k hk]
    · rw [hM8, hex _ _ c1, if_pos rfl]
      show fk_pd (fk_ag0 n C') k = _
      unfold fk_pd fk_ag0
      rw [va_up_ne _ _ (by omega), z_ag_k (by omega) (by omega) (by omega), va_up_ne _ _ (by omega), c4 k (by omega) (by omega) (fun j hj => by have := x3 j 3 hj (by decide); omega), hhi k hk]
  obtain ⟨R0, hR0⟩ : ∃ z : fk_M, z = fk_ma (fk_th M8 0) := ⟨_, rfl⟩
  have r0k : ∀ k, k ≠ 89 → k ≠ 94 → k ≠ 95 → k ≠ 96 → k ≠ 103 → k ≠ 105 → R0 k = M8 k := fun k a b c d e f => by rw [hR0, fk_ma_k ⟨a, b, c, d, e, f⟩, fk_th_ne a]
  have r0t : ∀ s, s ≠ 0 → s ≠ 22 → s ≠ 23 → s ≠ 24 → s ≠ 25 → R0 89 s = M 89 s := fun s a b c d e => by rw [hR0, fk_ma_89t ⟨b, c, d, e⟩, fk_th_s a, hi8 89 (by decide)]
  have hB := zB R0 (fun k a b c d e f => by rw [r0k k (by omega) b c d e f, hi8 k (by omega)]) (r0t 1 (by decide) (by decide) (by decide) (by decide) (by decide))
  have c8 := c_D_check l g ov M n ck P sz bb hs
  have c9 := c_M_check l g ov M8 n ck sz Np bb sp sl (hr.of ⟨by rw [hi8 89 (by decide)], hi8 90 (by decide), hi8 91 (by decide), hi8 92 (by decide), hi8 98 (by decide), hi8 99 (by decide), hi8 100 (by decide), hi8 101 (by decide)⟩)
  rw [← hM8] at c8
  rw [← hR0] at c9
  -- the cells under 89 that a check leaves
  have z83 : ∀ C', z_FC P C0 C' → ∀ c, c < 25 → C' 83 c = 0 := fun C' q c hc => by
    rw [q 83 (by decide) (by decide) (fun j hj => by have := x3 j 3 hj (by decide); omega), ho 83 (by decide), hx 83 (by decide), fk_rs_83 hPX n hn]
    exact fk_fl_lt hc
  have zf : ∀ C', z_FC P C0 C' → ∀ f, f < 12 → C' (3 + 6 * f) = C0 (3 + 6 * f) := fun C' q f hf => q _ (by omega) (by omega) (fun i hi e => (fk_X4 (hPX i hi) hf).2.1 e.symm)
  have zk : ∀ C', z_FC P C0 C' → ∀ k, k < 89 → k ≠ 83 → (k < 75 ∨ 81 < k) → (∀ j, j < 12 → k ≠ P j + 3) → (∀ j, j < n → k ≠ P j + 4) → (∀ f, f < n → k ≠ 3 + 6 * f) → C' k = M k := fun C' q k a b c d e f => by
    rw [q k (by omega) (by omega) d, ho k (by omega), hx k (by omega)]
    exact fk_rs_k b n (fun j hj => ⟨f j hj, e j hj⟩)
  have z5 : ∀ f, f < n → C0 (3 + 6 * f) 5 = 0 := fun f hf => by rw [ho _ (by omega), hx _ (by omega)]; exact fk_rs_f5 hPX hf hn
  have z79 : ∀ C', z_FC P C0 C' → C' 79 4 = 0 ∧ C' 79 5 = -1 ∧ C' 79 6 = -1 := fun C' q => by
    rw [q 79 (by decide) (by decide) (fun j hj => by have := x3 j 3 hj (by decide); omega), ho 79 (by decide), hCx]
    exact ⟨fk_fg_4, fk_fg_5, fk_fg_6⟩
  have z4 : ∀ C', z_FC P C0 C' → ∀ f, f < n → ∀ i, i < 40 → C' (P f + 4) i = 0 := fun C' q f hf i hi => by
    have hb := x3 f 4 (by omega) (by decide)
    rw [q _ (by omega) (by omega) (fun j hj e => by have := fk_XX (hPX f (by omega)) (hPX j hj) (by decide) (by decide) e; omega), ho _ (by omega), hx _ (by omega)]
    exact fk_rs_p hPX n hf hn i hi
  rcases z_check hB hck hE hC76 with ⟨rule, f, i, C', R', r1, r2, c1, c2, c3, c4, c5⟩ | ⟨C', R', c1, c2, c3, c4, c5, c6⟩
  · have e8 := hex _ _ c1
    rw [if_neg (by omega)] at e8
    rw [e8] at c8
    rw [e8] at hM8
    have hM8 : M8 = va_up C' 79 (upd (upd (C' 79) 5 (nI f)) 6 (nI i)) := hM8
    rw [c2] at c9
    refine ⟨7, 4, _, _, _, by decide, by decide, c8, c9, ?_⟩
    show fk_Rel _ (va_up R' 89 (upd (upd (R' 89) 24 (nI f)) 25 (nI i)))
    have lo : ∀ k, k < 89 → va_up R' 89 (upd (upd (R' 89) 24 (nI f)) 25 (nI i)) k = M8 k := fun k hk => by
      rw [va_up_ne _ _ (by omega), c5.1 k (by omega) (by omega) (by omega) (by omega), r0k k (by omega) (by omega) (by omega) (by omega) (by omega) (by omega)]
    have lc : ∀ k, k < 89 → k ≠ 79 → va_up R' 89 (upd (upd (R' 89) 24 (nI f)) 25 (nI i)) k = C' k := fun k hk k9 => by
      rw [lo k hk, hM8, va_up_ne _ _ k9]
    have q79 := z79 C' c4
    obtain ⟨-, -, -, -, -, o, a6, a7, -⟩ := h4
    refine z_rel ⟨hs, hr, hp⟩ h2 h3 _ (fun k a b c d e f => by rw [lc k a (by omega)]; exact zk C' c4 k a b c d e f) (fun f s hf hs9 => by rw [lc _ (by omega) (by omega), zf C' c4 f hf]; exact hfl f s hf hs9) (fun f hf => by rw [lc _ (by omega) (by omega), zf C' c4 f (by omega)]; exact z5 f hf) (fun c hc => by rw [lc _ (by omega) (by omega)]; exact z83 C' c4 c hc) (fun k a b1 b2 b3 b4 b5 b6 b7 b8 b9 => by rw [va_up_ne _ _ (by omega), c5.1 k (by omega) b4 b5 b9, r0k k (by omega) b1 b2 b3 b6 b7, hi8 k (by omega)]) ⟨?_, ?_, ?_⟩ (fun f hf => ?_) ?_ ⟨?_, ?_, ?_⟩ ⟨o, a6, ?_, fun q => absurd ?_ q⟩ (fun q => absurd ?_ q)
    · rw [va_up_self, pk_un (by decide), pk_un (by decide), c5.2 1 (by decide) (by decide)]; exact r0t 1 (by decide) (by decide) (by decide) (by decide) (by decide)
    · rw [va_up_self, pk_un (by decide), pk_un (by decide), c5.2 19 (by decide) (by decide)]; exact r0t 19 (by decide) (by decide) (by decide) (by decide) (by decide)
    · rw [va_up_self, pk_un (by decide), pk_un (by decide), c5.2 22 (by decide) (by decide), hR0]; exact fk_ma_22
    · rw [va_up_ne _ _ (by decide), va_up_ne _ _ (by decide), c5.1 95 (by decide) (by decide) (by decide) (by decide), c5.1 96 (by decide) (by decide) (by decide) (by decide), hR0]
      exact ⟨fk_ma_95 hf, fk_ma_96 hf⟩
    · refine c3.to ⟨lc 1 (by decide) (by decide), fun j hj s _ => by rw [lc _ (by omega) (by omega)], fun y hy => ?_⟩
      have b0 := fk_X83 hy (i := 0) (by decide)
      have b3 := fk_X83 hy (i := 3) (by decide)
      exact ⟨lc _ (by omega) (by omega), lc _ (by omega) (by omega), lc _ (by omega) (by omega), lc _ (by omega) (by omega)⟩
    · rw [lo 79 (by decide), hM8, va_up_self, pk_un (by decide), pk_un (by decide), va_up_self, pk_un (by decide), pk_un (by decide), q79.1, c5.2 23 (by decide) (by decide), hR0]; exact fk_ma_23.symm
    · rw [lo 79 (by decide), hM8, va_up_self, pk_un (by decide), pk_us, va_up_self, pk_un (by decide), pk_us]
    · rw [lo 79 (by decide), hM8, va_up_self, pk_us, va_up_self, pk_us]
    · rw [va_up_self, pk_un (by decide), pk_un (by decide), c5.2 27 (by decide) (by decide), r0t 27 (by decide) (by decide) (by decide) (by decide) (by decide)]; exact a7
    · rw [lo 79 (by decide), hM8, va_up_self, pk_un (by decide), pk_un (by decide)]; exact q79.1
    · rw [lo 79 (by decide), hM8, va_up_self, pk_un (by decide), pk_un (by decide)]; exact q79.1
  · have e8 := hex _ _ c1
    rw [if_pos rfl] at e8
    rw [e8] at c8
    rw [e8] at hM8
    have hM8 : M8 = fk_pd (fk_ag0 n C') := hM8
    rw [c2] at c9
    refine ⟨7, 4, _, _, _, by decide, by decide, c8, c9, ?_⟩
    obtain ⟨d1, d2, d3, d4, d5, d6, d7⟩ := c6
    obtain ⟨Rm, hRm⟩ : ∃ z : fk_M, z = va_up R' 89 (upd (R' 89) 23 (nI 1)) := ⟨_, rfl⟩
    rw [← hRm]
    have m97 : Rm 97 = R' 97 := by rw [hRm, va_up_ne _ _ (by decide)]
    have m91 : Rm 91 = M 91 := by rw [hRm, va_up_ne _ _ (by decide), c5.1 91 (by decide) (by decide) (by decide) (by decide), r0k 91 (by decide) (by decide) (by decide) (by decide) (by decide) (by decide), hi8 91 (by decide)]
    have p3 : ∀ k, (75 ≤ k ∧ k < 80) → C' k = C0 k := fun k hk => c4 k (by omega) (by omega) (fun j hj => by have := x3 j 3 hj (by decide); omega)
    obtain ⟨O', o', pl', g1, g2, g3, g4, g5, g6, g7⟩ := z_ag d4 hn (In := fun f => C0 (3 + 6 * f) 2) (fun f hf => (hS0.2.2 f (by omega)).2.2.2.2.2.2.2.2.2.2.1) n 0 0 (nI 0) (va_up C' 75 (upd (C' 75) 3 (nI 0))) (fk_dn (M 91) n) (n + 1) (Rm 108) (by omega) (fun a ha => by rw [va_up_ne _ _ (by decide), p3 76 (by decide)]; exact d5 a ha) (fun f hf => by rw [va_up_ne _ _ (by omega), zf C' c4 f (by omega)]) (z_pc0 n hn) (fun f hf => by
        rw [z_dn (by omega) n hn, z_wf0 (by omega), hfl f 2 (by omega) (by decide), (h3.1 f (by omega)).2.1]
        exact ⟨fun q => Or.inr q.2, fun q => ⟨hf, q.elim (fun q => by cases q) id⟩⟩) (Nat.le_refl _) (Nat.le_refl _) (fun i hi => by omega) (by rw [va_up_self, pk_us]) ⟨fun s hs => by omega, fun f hf q => (by rw [z_wf0 (by omega)] at q; cases q), fun s f hs => by omega⟩
    have hag : fk_ag n n 0 0 (nI 0) (va_up C' 75 (upd (C' 75) 3 (nI 0))) = fk_ag0 n C' := rfl
    rw [hag] at g2 g4 g5 g7
    have ham : fk_am n Rm = fk_aq Rm O' o' := by
      unfold fk_am
      rw [m97, m91, g1]
    rw [ham]
    show fk_Rel _ (fk_aq Rm O' o')
    have lo : ∀ k, k < 89 → fk_aq Rm O' o' k = M8 k := fun k hk => by
      unfold fk_aq
      rw [va_up_ne _ _ (by omega), va_up_ne _ _ (by omega), hRm, va_up_ne _ _ (by omega), c5.1 k (by omega) (by omega) (by omega) (by omega), r0k k (by omega) (by omega) (by omega) (by omega) (by omega) (by omega)]
    have lp : ∀ k, k < 89 → k ≠ 79 → fk_aq Rm O' o' k = fk_ag0 n C' k := fun k hk k9 => by
      rw [lo k hk, hM8]; unfold fk_pd; rw [va_up_ne _ _ k9]
    have lc : ∀ k, k < 89 → k ≠ 75 → k ≠ 77 → k ≠ 78 → k ≠ 79 → fk_aq Rm O' o' k = C' k := fun k hk a b c d => by
      rw [lp k hk d, g7 k a b c, va_up_ne _ _ a]
    have hi9 : ∀ k, 90 ≤ k → k ≠ 108 → fk_aq Rm O' o' k = R' k := fun k hk a => by
      unfold fk_aq
      rw [va_up_ne _ _ (by omega), va_up_ne _ _ a, hRm, va_up_ne _ _ (by omega)]
    have h89 : fk_aq Rm O' o' 89 = upd (upd (R' 89) 23 (nI 1)) 27 (nI o') := by
      unfold fk_aq
      rw [va_up_self, hRm, va_up_self]
    have l79 : fk_aq Rm O' o' 79 = upd (C' 79) 4 (nI 1) := by
      rw [lo 79 (by decide), hM8]
      unfold fk_pd
      rw [va_up_self, g7 79 (by decide) (by decide) (by decide), va_up_ne _ _ (by decide)]
    have q79 := z79 C' c4
    have hSh9 : fk_Sh n ck P sz bb (fk_aq Rm O' o') := by
      refine c3.to ⟨lc 1 (by decide) (by decide) (by decide) (by decide) (by decide), fun j hj s _ => by rw [lc _ (by omega) (by omega) (by omega) (by omega) (by omega)], fun y hy => ?_⟩
      have b0 := fk_X83 hy (i := 0) (by decide)
      have b3 := fk_X83 hy (i := 3) (by decide)
      exact ⟨lc _ (by omega) (by omega) (by omega) (by omega) (by omega), lc _ (by omega) (by omega) (by omega) (by omega) (by omega), lc _ (by omega) (by omega) (by omega) (by omega) (by omega), lc _ (by omega) (by omega) (by omega) (by omega) (by omega)⟩
    have e83 : ∀ c, c < 25 → fk_aq Rm O' o' 83 c = 0 := fun c hc => by rw [lc _ (by omega) (by omega) (by omega) (by omega) (by omega)]; exact z83 C' c4 c hc
    have efl : ∀ f s, f < 12 → s ≠ 5 → fk_aq Rm O' o' (3 + 6 * f) s = M (3 + 6 * f) s := fun f s hf hs9 => by rw [lc _ (by omega) (by omega) (by omega) (by omega) (by omega), zf C' c4 f hf]; exact hfl f s hf hs9
    refine z_rel ⟨hs, hr, hp⟩ h2 h3 _ (fun k a b c d e f => by rw [lc k a (by omega) (by omega) (by omega) (by omega)]; exact zk C' c4 k a b c d e f) efl (fun f hf => by rw [lc _ (by omega) (by omega) (by omega) (by omega) (by omega), zf C' c4 f (by omega)]; exact z5 f hf) e83 (fun k a b1 b2 b3 b4 b5 b6 b7 b8 b9 => by rw [hi9 k a b8, c5.1 k (by omega) b4 b5 b9, r0k k (by omega) b1 b2 b3 b6 b7, hi8 k (by omega)]) ⟨?_, ?_, ?_⟩ (fun f hf => ?_) hSh9 ⟨?_, ?_, ?_⟩ ⟨o', by omega, ?_, fun _ => ⟨?_, fun i hi => ?_⟩⟩ (fun _ => ?_)
    · rw [h89, pk_un (by decide), pk_un (by decide), c5.2 1 (by decide) (by decide)]; exact r0t 1 (by decide) (by decide) (by decide) (by decide) (by decide)
    · rw [h89, pk_un (by decide), pk_un (by decide), c5.2 19 (by decide) (by decide)]; exact r0t 19 (by decide) (by decide) (by decide) (by decide) (by decide)
    · rw [h89, pk_un (by decide), pk_un (by decide), c5.2 22 (by decide) (by decide), hR0]; exact fk_ma_22
    · rw [hi9 95 (by decide) (by decide), hi9 96 (by decide) (by decide), c5.1 95 (by decide) (by decide) (by decide) (by decide), c5.1 96 (by decide) (by decide) (by decide) (by decide), hR0]
      exact ⟨fk_ma_95 hf, fk_ma_96 hf⟩
    · rw [l79, h89, pk_us, pk_un (by decide), pk_us]
    · rw [l79, h89, pk_un (by decide), q79.2.1, pk_un (by decide), pk_un (by decide), c5.2 24 (by decide) (by decide), hR0]; exact fk_ma_24.symm
    · rw [l79, h89, pk_un (by decide), q79.2.2, pk_un (by decide), pk_un (by decide), c5.2 25 (by decide) (by decide), hR0]; exact fk_ma_25.symm
    · rw [h89, pk_us]
    · rw [lp 75 (by decide) (by decide)]; exact g2
    · rw [lp 77 (by decide) (by decide), g4 i hi]
      unfold fk_aq
      rw [va_up_ne _ _ (by decide), va_up_self]
    · have e97 : fk_aq Rm O' o' 97 = R' 97 := hi9 97 (by decide) (by decide)
      refine ⟨fun f hf hin => ?_, by rw [e97]; exact d4, by rw [e97]; exact d7, ⟨pl', by rw [e97, lp 78 (by decide) (by decide)]; exact g5, g6⟩, fun c hc => ⟨0, Nat.zero_le _, by rw [e83 c hc]; exact nI_0.symm⟩⟩
      have hin0 : C0 (3 + 6 * f) 2 = 0 := by rw [hfl f 2 (by omega) (by decide), ← efl f 2 (by omega) (by decide)]; exact hin
      obtain ⟨hN, -⟩ := hB.nw hf (d1 f hf hin0)
      have b2 := x3 f 2 (by omega) (by decide)
      have b3 := x3 f 3 (by omega) (by decide)
      have b4 := x3 f 4 (by omega) (by decide)
      have eP2 : fk_aq Rm O' o' (P f + 2) = C0 (P f + 2) := by
        rw [lc _ (by omega) (by omega) (by omega) (by omega) (by omega)]
        exact c4 _ (by omega) (by omega) (fun j hj e => by have := fk_XX (hPX f (by omega)) (hPX j hj) (by decide) (by decide) e; omega)
      have eP3 : fk_aq Rm O' o' (P f + 3) = C' (P f + 3) := lc _ (by omega) (by omega) (by omega) (by omega) (by omega)
      have eP4 : ∀ i, i < 40 → fk_aq Rm O' o' (P f + 4) i = 0 := fun i hi => by rw [lc _ (by omega) (by omega) (by omega) (by omega) (by omega)]; exact z4 C' c4 f hf i hi
      have e90 : fk_aq Rm O' o' 90 = C0 90 := by rw [hi9 90 (by decide) (by decide), c5.1 90 (by decide) (by decide) (by decide) (by decide), r0k 90 (by decide) (by decide) (by decide) (by decide) (by decide) (by decide), hi8 90 (by decide), hhi 90 (by decide)]
      have et : fk_ty1 (fk_aq Rm O' o') f = fk_ty1 C0 f := by unfold fk_ty1; rw [efl f 1 (by omega) (by decide), hfl f 1 (by omega) (by decide)]
      have e103 : ∀ k, k < 480 → fk_aq Rm O' o' 103 k = 0 := fun k hk => by
        rw [hi9 103 (by decide) (by decide), c5.1 103 (by decide) (by decide) (by decide) (by decide), hR0]; exact fk_ma_103 hk
      have e105 : ∀ k, k < 480 → fk_aq Rm O' o' 105 k = 0 := fun k hk => by
        rw [hi9 105 (by decide) (by decide), c5.1 105 (by decide) (by decide) (by decide) (by decide), hR0]; exact fk_ma_105 hk
      have hsp : ∀ p, p < Np f → sp f p < 40 := fun p hp => by
        obtain ⟨-, k1, -⟩ := hN.node hp
        have := k1.1
        have := hN.1
        omega
      refine ⟨d1 f hf hin0, ?_, ?_, ?_, fun p hp => ⟨fun _ => ?_, fun _ => ?_⟩⟩
      · rw [e90, eP2, et]
        obtain ⟨Ty, y1, y2⟩ := d2 f hf hin0
        exact ⟨Ty, y1, fun p hp => ⟨y2 p hp, fun _ _ => Or.inl (eP4 _ (hsp p hp))⟩⟩
      · rw [eP2, eP3, hi9 102 (by decide) (by decide)]
        exact d3 f hf hin0
      · rw [eP2, e97]
        exact d6 f hf hin0
      · have := hsp p hp
        rw [eP4 _ this, e103 _ (by omega)]
      · have := hsp p hp
        obtain ⟨q, q1, q2⟩ := (hSh9.2.2 f (by omega)).2.2.2.2.2.2.2.1 (sp f p) this
        rw [e105 _ (by omega), q2, nI_clamp (by omega), e83 q q1]
