/-! The pure layer: what the memory holds after restart, again, forget. -/
theorem fk_fl_lt {r : Nat → Int32} {n j : Nat} {v : Int32} (h : j < n) : fk_fl r n v j = v := if_pos h
theorem fk_fl_ge {r : Nat → Int32} {n j : Nat} {v : Int32} (h : n ≤ j) : fk_fl r n v j = r j := if_neg (by omega)
theorem fk_X4 {x j : Nat} (h : fk_X x) (hj : j < 12) : x + 4 ≠ 3 + 6 * j ∧ x + 3 ≠ 3 + 6 * j ∧ x + 2 ≠ 3 + 6 * j ∧ x + 1 ≠ 3 + 6 * j ∧ x ≠ 3 + 6 * j := by
  rcases h with rfl | ⟨i, hi, rfl⟩ <;> omega
/-- two expressions' cells are apart -/
theorem fk_XX {x y i j : Nat} (hx : fk_X x) (hy : fk_X y) (hi : i < 5) (hj : j < 5) (h : x + i = y + j) : x = y := by
  rcases hx with rfl | ⟨a, ha, rfl⟩ <;> rcases hy with rfl | ⟨b, hb, rfl⟩ <;> omega
theorem fk_X83 {x i : Nat} (hx : fk_X x) (hi : i < 5) : 4 ≤ x + i ∧ (x + i < 75 ∨ (84 ≤ x + i ∧ x + i < 89)) := by
  rcases hx with rfl | ⟨a, ha, rfl⟩ <;> omega
section
variable {P : Nat → Nat} {M : fk_M}
theorem fk_rs_k {k : Nat} (h1 : k ≠ 83) : ∀ n, (∀ j, j < n → k ≠ 3 + 6 * j ∧ k ≠ P j + 4) → fk_rs P M n k = M k := by
  intro n
  induction n with
  | zero => intro _; exact va_up_ne _ _ h1
  | succ n ih =>
    intro h
    have h2 := h n (by omega)
    show va_up (va_up _ _ _) _ _ k = _
    rw [va_up_ne _ _ h2.2, va_up_ne _ _ h2.1]
    exact ih (fun j hj => h j (by omega))
theorem fk_rs_83 (hP : ∀ j, j < 12 → fk_X (P j)) : ∀ n, n ≤ 12 → fk_rs P M n 83 = fk_fl (M 83) 25 0 := by
  intro n
  induction n with
  | zero => intro _; exact va_up_self ..
  | succ n ih =>
    intro hn
    have hx := fk_X83 (hP n (by omega)) (i := 4) (by decide)
    show va_up (va_up _ _ _) _ _ 83 = _
    rw [va_up_ne _ _ (by omega), va_up_ne _ _ (by omega)]
    exact ih (by omega)
theorem fk_rs_f (hP : ∀ j, j < 12 → fk_X (P j)) {j : Nat} (hj : j < 12) : ∀ n, n ≤ 12 → fk_rs P M n (3 + 6 * j) = if j < n then upd (M (3 + 6 * j)) 5 0 else M (3 + 6 * j) := by
  intro n
  induction n with
  | zero =>
    intro _
    rw [if_neg (by omega)]
    exact va_up_ne _ _ (by omega)
  | succ n ih =>
    intro hn
    have hx := fk_X4 (hP n (by omega)) hj
    show va_up (va_up _ _ _) _ _ (3 + 6 * j) = _
    rw [va_up_ne _ _ (fun h => hx.1 h.symm)]
    by_cases h : j = n
    · subst h
      rw [va_up_self, ih (by omega), if_neg (by omega), if_pos (by omega)]
    · rw [va_up_ne _ _ (by omega), ih (by omega)]
      by_cases h2 : j < n
      · rw [if_pos h2, if_pos (by omega)]
      · rw [if_neg h2, if_neg (by omega)]
/-- a flow's field, but for isPresent -/
theorem fk_rs_ft (hP : ∀ j, j < 12 → fk_X (P j)) {j t n : Nat} (hj : j < 12) (hn : n ≤ 12) (ht : t ≠ 5) : fk_rs P M n (3 + 6 * j) t = M (3 + 6 * j) t := by
  rw [fk_rs_f hP hj n hn]
  split
  · exact pk_un ht
  · rfl
theorem fk_rs_f5 (hP : ∀ j, j < 12 → fk_X (P j)) {j n : Nat} (hj : j < n) (hn : n ≤ 12) : fk_rs P M n (3 + 6 * j) 5 = 0 := by
  rw [fk_rs_f hP (by omega) n hn, if_pos hj]
  exact pk_us
/-- the cells of an expression, but for its past -/
theorem fk_rs_x {x i : Nat} (hP : ∀ j, j < 12 → fk_X (P j)) (hx : fk_X x) (hi : i < 4) {n : Nat} (hn : n ≤ 12) : fk_rs P M n (x + i) = M (x + i) := by
  have h9 := fk_X83 hx (i := i) (by omega)
  refine fk_rs_k (by omega) n (fun j hj => ⟨?_, fun h => ?_⟩)
  · have h1 := fk_X4 hx (j := j) (by omega)
    rcases (by omega : i = 0 ∨ i = 1 ∨ i = 2 ∨ i = 3) with rfl | rfl | rfl | rfl
    · exact h1.2.2.2.2
    · exact h1.2.2.2.1
    · exact h1.2.2.1
    · exact h1.2.1
  · have h2 := fk_XX hx (hP j (by omega)) (by omega) (by decide) h
    omega
theorem fk_rs_p (hP : ∀ j, j < 12 → fk_X (P j)) {j : Nat} : ∀ n, j < n → n ≤ 12 → ∀ i, i < 40 → fk_rs P M n (P j + 4) i = 0 := by
  intro n
  induction n with
  | zero => intro h; omega
  | succ n ih =>
    intro h hn i hi
    show (va_up (va_up (fk_rs P M n) (3 + 6 * n) _) (P n + 4) _ : fk_M) (P j + 4) i = _
    by_cases h1 : P j + 4 = P n + 4
    · rw [h1, va_up_self]
      exact fk_fl_lt hi
    · have hx := fk_X4 (hP j (by omega)) (j := n) (by omega)
      have hjn : j ≠ n := fun e => h1 (by rw [e])
      rw [va_up_ne _ _ h1, va_up_ne _ _ hx.1]
      exact ih (by omega) (by omega) i hi
theorem fk_rs_hi (hP : ∀ j, j < 12 → fk_X (P j)) {k n : Nat} (hn : n ≤ 12) (hk : k = 0 ∨ k = 1 ∨ k = 2 ∨ (75 ≤ k ∧ k < 83) ∨ 89 ≤ k) : fk_rs P M n k = M k := by
  refine fk_rs_k (by omega) n (fun j hj => ⟨by omega, fun h => ?_⟩)
  have h9 := fk_X83 (hP j (by omega)) (i := 4) (by decide)
  omega
/-- again: all but these cells stay -/
theorem fk_ma_k {k : Nat} (h : k ≠ 89 ∧ k ≠ 94 ∧ k ≠ 95 ∧ k ≠ 96 ∧ k ≠ 103 ∧ k ≠ 105) : fk_ma M k = M k := by
  unfold fk_ma fk_mr fk_m2 fk_m1
  rw [va_up_ne _ _ h.2.2.2.2.2, va_up_ne _ _ h.2.2.2.2.1, va_up_ne _ _ h.2.2.2.1, va_up_ne _ _ h.2.2.1, va_up_ne _ _ h.2.1, va_up_ne _ _ h.1, va_up_ne _ _ h.1]
theorem fk_ma_89 : fk_ma M 89 = upd (upd (upd (upd (M 89) 23 (nI 0)) 24 (-1)) 25 (-1)) 22 (nI 0) := by
  unfold fk_ma fk_mr fk_m2 fk_m1
  rw [va_up_ne _ _ (by decide), va_up_ne _ _ (by decide), va_up_ne _ _ (by decide), va_up_ne _ _ (by decide), va_up_ne _ _ (by decide), va_up_self, va_up_self]
theorem fk_ma_89t {t : Nat} (h : t ≠ 22 ∧ t ≠ 23 ∧ t ≠ 24 ∧ t ≠ 25) : fk_ma M 89 t = M 89 t := by
  rw [fk_ma_89, pk_un h.1, pk_un h.2.2.2, pk_un h.2.2.1, pk_un h.2.1]
theorem fk_ma_22 : fk_ma M 89 22 = 0 := by rw [fk_ma_89, pk_us]; exact nI_0
theorem fk_ma_23 : fk_ma M 89 23 = 0 := by rw [fk_ma_89, pk_un (by decide), pk_un (by decide), pk_un (by decide), pk_us]; exact nI_0
theorem fk_ma_24 : fk_ma M 89 24 = -1 := by rw [fk_ma_89, pk_un (by decide), pk_un (by decide), pk_us]
theorem fk_ma_25 : fk_ma M 89 25 = -1 := by rw [fk_ma_89, pk_un (by decide), pk_us]
theorem fk_ma_94 {f : Nat} (h : f < 12) : fk_ma M 94 f = 0 := by
  unfold fk_ma fk_mr fk_m2 fk_m1
  rw [va_up_ne _ _ (by decide), va_up_ne _ _ (by decide), va_up_ne _ _ (by decide), va_up_ne _ _ (by decide), va_up_self]
  exact fk_fl_lt h
theorem fk_ma_95 {f : Nat} (h : f < 12) : fk_ma M 95 f = 0 := by
  unfold fk_ma fk_mr fk_m2 fk_m1
  rw [va_up_ne _ _ (by decide), va_up_ne _ _ (by decide), va_up_ne _ _ (by decide), va_up_self]
  exact fk_fl_lt h
theorem fk_ma_96 {f : Nat} (h : f < 12) : fk_ma M 96 f = 0 := by
  unfold fk_ma fk_mr fk_m2 fk_m1
  rw [va_up_ne _ _ (by decide), va_up_ne _ _ (by decide), va_up_self]
  exact fk_fl_lt h
theorem fk_ma_103 {k : Nat} (h : k < 480) : fk_ma M 103 k = 0 := by
  unfold fk_ma fk_mr fk_m2 fk_m1
  rw [va_up_ne _ _ (by decide), va_up_self]
  exact fk_fl_lt h
theorem fk_ma_105 {k : Nat} (h : k < 480) : fk_ma M 105 k = 0 := by
  unfold fk_ma fk_mr fk_m2 fk_m1
  rw [va_up_self]
  exact fk_fl_lt h
theorem fk_fg_k {k : Nat} (h : k ≠ 79) : fk_fg M k = M k := va_up_ne _ _ h
theorem fk_fg_4 : fk_fg M 79 4 = 0 := by unfold fk_fg; rw [va_up_self, pk_un (by decide), pk_un (by decide), pk_us]; exact nI_0
theorem fk_fg_5 : fk_fg M 79 5 = -1 := by unfold fk_fg; rw [va_up_self, pk_un (by decide), pk_us]
theorem fk_fg_6 : fk_fg M 79 6 = -1 := by unfold fk_fg; rw [va_up_self, pk_us]
end
/-! More flows: the same trees. -/
theorem fk_ok_mono {b : Nat → Nat} {n cnt cnt' x : Nat} (hc : cnt ≤ cnt') (h : fk_ok b n cnt x) : fk_ok b n cnt' x := ⟨h.1, h.2.1, h.2.2.1, fun q => by have := h.2.2.2 q; omega⟩
theorem fk_Ts_mono {f f' : Nat → Nat → Prop} (h : ∀ x e, f x e → f' x e) : ∀ k x e, fk_Ts f k x e → fk_Ts f' k x e := by
  intro k
  induction k with
  | zero => intro x e h1; exact h1
  | succ k ih =>
    intro x e h1
    obtain ⟨y, h2, h3⟩ := h1
    exact ⟨y, h x y h2, ih y e h3⟩
theorem fk_T_mono {b : Nat → Nat} {n cnt cnt' : Nat} {E : Nat → Int32} (hc : cnt ≤ cnt') : ∀ r x e, fk_T b n cnt E r x e → fk_T b n cnt' E r x e := by
  intro r
  induction r with
  | zero => intro x e h; exact h
  | succ r ih =>
    intro x e h
    exact ⟨fk_ok_mono hc h.1, h.2.1, h.2.2.1, fk_Ts_mono ih _ _ _ h.2.2.2⟩
theorem fk_RF_mono {b : Nat → Nat} {n cnt cnt' P : Nat} {sp sl : Nat → Nat} (hc : cnt ≤ cnt') (h : fk_RF b n cnt sp sl P) : fk_RF b n cnt' sp sl P := fun p hp => ⟨fk_ok_mono hc (h p hp).1, (h p hp).2⟩
