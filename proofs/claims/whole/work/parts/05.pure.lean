/-! Expressions as rows of bytes: the parser of the class (a recursion whose fuel is the depth that is left), and the walk with a stack of the reference; they agree. -/
/-- the own bytes of a kind -/
def fk_hd (k : Nat) : Nat := if k = 0 ∨ k = 3 ∨ 15 < k then 2 else 1
/-- how many parts a kind has -/
def fk_ar (k : Nat) : Nat := if k < 4 then 0 else if k < 6 ∨ k = 14 ∨ k = 16 ∨ k = 17 then 1 else if k = 13 then 3 else 2
theorem fk_hd_pos (k : Nat) : 1 ≤ fk_hd k ∧ fk_hd k ≤ 2 := by
  unfold fk_hd; split <;> omega
theorem fk_ar_le (k : Nat) : fk_ar k ≤ 3 := by
  unfold fk_ar; split <;> (try split) <;> (try split) <;> omega
/-- the bytes at x begin an expression, its parts apart -/
abbrev fk_ok (b : Nat → Nat) (n cnt x : Nat) : Prop := x < n ∧ b x ≤ 18 ∧ x + fk_hd (b x) ≤ n ∧ ((b x = 3 ∨ 15 < b x) → b (x + 1) < cnt)
def fk_ps (f : Nat → Option Nat) : Nat → Nat → Option Nat
  | 0, x => some x
  | k + 1, x => match f x with
    | none => none
    | some e => fk_ps f k e
/-- the end of the expression at x, of at most r levels -/
def fk_pe (b : Nat → Nat) (n cnt : Nat) : Nat → Nat → Option Nat
  | 0, _ => none
  | r + 1, x => if fk_ok b n cnt x then fk_ps (fk_pe b n cnt r) (fk_ar (b x)) (x + fk_hd (b x)) else none
/-- expressions stand one behind the other from x on to the end, of so many levels each -/
def fk_Ch (b : Nat → Nat) (n cnt : Nat) : List Nat → Nat → Prop
  | [], x => x = n
  | r :: L, x => ∃ e, fk_pe b n cnt r x = some e ∧ fk_Ch b n cnt L e
theorem fk_ps_Ch {b : Nat → Nat} {n cnt r : Nat} {L : List Nat} : ∀ (k x e : Nat), fk_ps (fk_pe b n cnt r) k x = some e → fk_Ch b n cnt L e → fk_Ch b n cnt (List.replicate k r ++ L) x := by
  intro k
  induction k with
  | zero =>
    intro x e h hc
    simp only [fk_ps, Option.some.injEq] at h
    subst h
    exact hc
  | succ k ih =>
    intro x e h hc
    simp only [fk_ps] at h
    cases hf : fk_pe b n cnt r x with
    | none => rw [hf] at h; cases h
    | some y =>
      rw [hf] at h
      exact ⟨y, hf, ih y e h hc⟩
theorem fk_Ch_ps {b : Nat → Nat} {n cnt r : Nat} {L : List Nat} : ∀ (k x : Nat), fk_Ch b n cnt (List.replicate k r ++ L) x → ∃ e, fk_ps (fk_pe b n cnt r) k x = some e ∧ fk_Ch b n cnt L e := by
  intro k
  induction k with
  | zero => intro x h; exact ⟨x, rfl, h⟩
  | succ k ih =>
    intro x h
    obtain ⟨y, hf, h2⟩ := h
    obtain ⟨e, h3, h4⟩ := ih y h2
    exact ⟨e, by simp only [fk_ps, hf]; exact h3, h4⟩
theorem fk_Ch_step {b : Nat → Nat} {n cnt r x : Nat} {L : List Nat} : fk_Ch b n cnt ((r + 1) :: L) x ↔ fk_ok b n cnt x ∧ fk_Ch b n cnt (List.replicate (fk_ar (b x)) r ++ L) (x + fk_hd (b x)) := by
  constructor
  · rintro ⟨e, h1, h2⟩
    simp only [fk_pe] at h1
    by_cases hk : fk_ok b n cnt x
    · rw [if_pos hk] at h1
      exact ⟨hk, fk_ps_Ch _ _ _ h1 h2⟩
    · rw [if_neg hk] at h1
      cases h1
  · rintro ⟨hk, h⟩
    obtain ⟨e, h1, h2⟩ := fk_Ch_ps _ _ h
    exact ⟨e, by simp only [fk_pe]; rw [if_pos hk]; exact h1, h2⟩
theorem fk_Ch_zero {b : Nat → Nat} {n cnt x : Nat} {L : List Nat} : ¬ fk_Ch b n cnt (0 :: L) x := by
  rintro ⟨e, h, -⟩
  cases h
theorem fk_Ch_le {b : Nat → Nat} {n cnt x : Nat} {L : List Nat} (h : fk_Ch b n cnt L x) : x ≤ n := by
  cases L with
  | nil => exact Nat.le_of_eq h
  | cons r L =>
    cases r with
    | zero => exact absurd h fk_Ch_zero
    | succ r => exact Nat.le_of_lt (fk_Ch_step.mp h).1.1
/-- the stack of levels stays short -/
def fk_Dp : List Nat → Prop
  | [] => True
  | r :: L => L.length + 2 * r ≤ 22 ∧ fk_Dp L
theorem fk_Dp_rep {r : Nat} {L : List Nat} (hL : fk_Dp L) : ∀ k, k ≤ 3 → L.length + 2 * (r + 1) ≤ 22 → fk_Dp (List.replicate k r ++ L) := by
  intro k
  induction k with
  | zero => intro _ _; exact hL
  | succ k ih =>
    intro hk hr
    refine ⟨?_, ih (by omega) hr⟩
    show (List.replicate k r ++ L).length + 2 * r ≤ 22
    rw [List.length_append, List.length_replicate]
    omega
theorem fk_Dp_step {r k : Nat} {L : List Nat} (hk : k ≤ 3) (h : fk_Dp ((r + 1) :: L)) : fk_Dp (List.replicate k r ++ L) := fk_Dp_rep h.2 k hk h.1
theorem fk_Dp_len {L : List Nat} (h : fk_Dp L) : L.length ≤ 23 := by
  cases L with
  | nil => simp
  | cons r L => have := h.1; simp; omega
/-- more levels left: the same end -/
theorem fk_ps_mono {f g : Nat → Option Nat} (h : ∀ x e, f x = some e → g x = some e) : ∀ k x e, fk_ps f k x = some e → fk_ps g k x = some e := by
  intro k
  induction k with
  | zero => intro x e h1; exact h1
  | succ k ih =>
    intro x e h1
    simp only [fk_ps] at h1 ⊢
    cases hf : f x with
    | none => rw [hf] at h1; cases h1
    | some y =>
      rw [hf] at h1
      rw [h x y hf]
      exact ih y e h1
theorem fk_pe_succ {b : Nat → Nat} {n cnt : Nat} : ∀ r x e, fk_pe b n cnt r x = some e → fk_pe b n cnt (r + 1) x = some e := by
  intro r
  induction r with
  | zero => intro x e h; cases h
  | succ r ih =>
    intro x e h
    simp only [fk_pe] at h
    by_cases hk : fk_ok b n cnt x
    · rw [if_pos hk] at h
      show (if fk_ok b n cnt x then fk_ps (fk_pe b n cnt (r + 1)) (fk_ar (b x)) (x + fk_hd (b x)) else none) = some e
      rw [if_pos hk]
      exact fk_ps_mono ih _ _ _ h
    · rw [if_neg hk] at h
      cases h
theorem fk_pe_mono {b : Nat → Nat} {n cnt r r' x e : Nat} (hr : r ≤ r') (h : fk_pe b n cnt r x = some e) : fk_pe b n cnt r' x = some e := by
  induction hr with
  | refl => exact h
  | step _ ih => exact fk_pe_succ _ _ _ ih
/-- an end lies behind the beginning, and within -/
theorem fk_ps_lt {f : Nat → Option Nat} {n : Nat} (h : ∀ x e, f x = some e → x < e ∧ e ≤ n) : ∀ k x e, x ≤ n → fk_ps f k x = some e → x ≤ e ∧ e ≤ n := by
  intro k
  induction k with
  | zero => intro x e hx h1; simp only [fk_ps, Option.some.injEq] at h1; omega
  | succ k ih =>
    intro x e hx h1
    simp only [fk_ps] at h1
    cases hf : f x with
    | none => rw [hf] at h1; cases h1
    | some y =>
      rw [hf] at h1
      have h2 := h x y hf
      have h3 := ih y e h2.2 h1
      omega
theorem fk_pe_lt {b : Nat → Nat} {n cnt : Nat} : ∀ r x e, fk_pe b n cnt r x = some e → x < e ∧ e ≤ n := by
  intro r
  induction r with
  | zero => intro x e h; cases h
  | succ r ih =>
    intro x e h
    simp only [fk_pe] at h
    by_cases hk : fk_ok b n cnt x
    · rw [if_pos hk] at h
      have h1 := fk_ps_lt ih _ _ _ hk.2.2.1 h
      have h2 := fk_hd_pos (b x)
      omega
    · rw [if_neg hk] at h
      cases h
/-! The tree at a byte, with its ends noted in a row E: at each expression's first byte where it ends, 0 at the other bytes. -/
def fk_Ts (f : Nat → Nat → Prop) : Nat → Nat → Nat → Prop
  | 0, x, e => x = e
  | k + 1, x, e => ∃ y, f x y ∧ fk_Ts f k y e
def fk_T (b : Nat → Nat) (n cnt : Nat) (E : Nat → Int32) : Nat → Nat → Nat → Prop
  | 0, _, _ => False
  | r + 1, x, e => fk_ok b n cnt x ∧ E x = nI e ∧ (fk_hd (b x) = 2 → E (x + 1) = 0) ∧ fk_Ts (fk_T b n cnt E r) (fk_ar (b x)) (x + fk_hd (b x)) e
theorem fk_Ts_lt {f : Nat → Nat → Prop} {n : Nat} (h : ∀ x e, f x e → x < e ∧ e ≤ n) : ∀ k x e, x ≤ n → fk_Ts f k x e → x ≤ e ∧ e ≤ n := by
  intro k
  induction k with
  | zero => intro x e hx h1; simp only [fk_Ts] at h1; omega
  | succ k ih =>
    intro x e hx h1
    obtain ⟨y, h2, h3⟩ := h1
    have h4 := h x y h2
    have h5 := ih y e h4.2 h3
    omega
theorem fk_T_lt {b : Nat → Nat} {n cnt : Nat} {E : Nat → Int32} : ∀ r x e, fk_T b n cnt E r x e → x < e ∧ e ≤ n := by
  intro r
  induction r with
  | zero => intro x e h; exact h.elim
  | succ r ih =>
    intro x e h
    obtain ⟨hk, -, -, h1⟩ := h
    have h2 := fk_Ts_lt ih _ _ _ hk.2.2.1 h1
    have h3 := fk_hd_pos (b x)
    omega
theorem fk_Ts_cong {f f' : Nat → Nat → Prop} {n lo hi : Nat} (hlt : ∀ x e, f x e → x < e ∧ e ≤ n) (h : ∀ x e, lo ≤ x → e ≤ hi → f x e → f' x e) : ∀ k x e, lo ≤ x → e ≤ hi → x ≤ n → fk_Ts f k x e → fk_Ts f' k x e := by
  intro k
  induction k with
  | zero => intro x e _ _ _ h1; exact h1
  | succ k ih =>
    intro x e hx he hn h1
    obtain ⟨y, h2, h3⟩ := h1
    have h4 := hlt x y h2
    have h5 := fk_Ts_lt hlt k y e h4.2 h3
    exact ⟨y, h x y hx (by omega) h2, ih y e (by omega) he h4.2 h3⟩
theorem fk_T_cong {b : Nat → Nat} {n cnt : Nat} {E E' : Nat → Int32} : ∀ r x e, (∀ j, x ≤ j → j < e → E' j = E j) → fk_T b n cnt E r x e → fk_T b n cnt E' r x e := by
  intro r
  induction r with
  | zero => intro x e _ h; exact h
  | succ r ih =>
    intro x e hE h
    have hlt := fk_T_lt _ _ _ h
    obtain ⟨hk, h1, h2, h3⟩ := h
    have h4 := fk_hd_pos (b x)
    have h5 := fk_Ts_lt (fk_T_lt r) _ _ _ hk.2.2.1 h3
    refine ⟨hk, by rw [hE x (Nat.le_refl _) hlt.1]; exact h1, fun h => by rw [hE (x + 1) (by omega) (by omega)]; exact h2 h, ?_⟩
    exact fk_Ts_cong (lo := x + fk_hd (b x)) (hi := e) (fk_T_lt r) (fun y d hy hd h => ih y d (fun j j1 j2 => hE j (by omega) (by omega)) h) _ _ _ (Nat.le_refl _) (Nat.le_refl _) hk.2.2.1 h3
/-- what the class writes into the row of ends -/
def fk_wps (f : Nat → Option Nat) (w : Nat → (Nat → Int32) → Nat → Int32) : Nat → Nat → (Nat → Int32) → Nat → Int32
  | 0, _, E => E
  | k + 1, x, E => match f x with
    | none => w x E
    | some e => fk_wps f w k e (w x E)
def fk_we (b : Nat → Nat) (n cnt : Nat) : Nat → Nat → (Nat → Int32) → Nat → Int32
  | 0, _, E => E
  | r + 1, x, E => if fk_ok b n cnt x then
      match fk_pe b n cnt (r + 1) x with
      | none => fk_wps (fk_pe b n cnt r) (fk_we b n cnt r) (fk_ar (b x)) (x + fk_hd (b x)) E
      | some e => upd (fk_wps (fk_pe b n cnt r) (fk_we b n cnt r) (fk_ar (b x)) (x + fk_hd (b x)) E) x (nI e)
    else E
theorem fk_wps_T {b : Nat → Nat} {n cnt r : Nat} (ih : ∀ x e E, (∀ j, x ≤ j → E j = 0) → fk_pe b n cnt r x = some e → fk_T b n cnt (fk_we b n cnt r x E) r x e ∧ ∀ j, (j < x ∨ e ≤ j) → fk_we b n cnt r x E j = E j) :
    ∀ k x e E, (∀ j, x ≤ j → E j = 0) → x ≤ n → fk_ps (fk_pe b n cnt r) k x = some e → fk_Ts (fk_T b n cnt (fk_wps (fk_pe b n cnt r) (fk_we b n cnt r) k x E) r) k x e ∧ ∀ j, (j < x ∨ e ≤ j) → fk_wps (fk_pe b n cnt r) (fk_we b n cnt r) k x E j = E j := by
  intro k
  induction k with
  | zero =>
    intro x e E _ _ h
    simp only [fk_ps, Option.some.injEq] at h
    exact ⟨h, fun _ _ => rfl⟩
  | succ k ihk =>
    intro x e E hz hx h
    simp only [fk_ps] at h
    cases hf : fk_pe b n cnt r x with
    | none => rw [hf] at h; cases h
    | some y =>
      rw [hf] at h
      have hy := fk_pe_lt _ _ _ hf
      have he := fk_ps_lt (fk_pe_lt r) _ _ _ hy.2 h
      obtain ⟨t1, k1⟩ := ih x y E hz hf
      obtain ⟨t2, k2⟩ := ihk y e (fk_we b n cnt r x E) (fun j hj => by rw [k1 j (Or.inr hj)]; exact hz j (by omega)) hy.2 h
      have hw : fk_wps (fk_pe b n cnt r) (fk_we b n cnt r) (k + 1) x E = fk_wps (fk_pe b n cnt r) (fk_we b n cnt r) k y (fk_we b n cnt r x E) := by
        simp only [fk_wps, hf]
      rw [hw]
      refine ⟨⟨y, fk_T_cong _ _ _ (fun j j1 j2 => k2 j (Or.inl j2)) t1, t2⟩, fun j hj => ?_⟩
      rw [k2 j (by omega), k1 j (by omega)]
theorem fk_we_T {b : Nat → Nat} {n cnt : Nat} : ∀ r x e E, (∀ j, x ≤ j → E j = 0) → fk_pe b n cnt r x = some e → fk_T b n cnt (fk_we b n cnt r x E) r x e ∧ ∀ j, (j < x ∨ e ≤ j) → fk_we b n cnt r x E j = E j := by
  intro r
  induction r with
  | zero => intro x e E _ h; cases h
  | succ r ih =>
    intro x e E hz h
    have hlt := fk_pe_lt _ _ _ h
    have h0 := h
    simp only [fk_pe] at h
    by_cases hk : fk_ok b n cnt x
    · rw [if_pos hk] at h
      have hp := fk_hd_pos (b x)
      obtain ⟨t1, k1⟩ := fk_wps_T ih _ _ _ E (fun j hj => hz j (by omega)) hk.2.2.1 h
      have hc := fk_ps_lt (fk_pe_lt r) _ _ _ hk.2.2.1 h
      have hw : fk_we b n cnt (r + 1) x E = upd (fk_wps (fk_pe b n cnt r) (fk_we b n cnt r) (fk_ar (b x)) (x + fk_hd (b x)) E) x (nI e) := by
        show (if fk_ok b n cnt x then _ else _) = _
        rw [if_pos hk, h0]
      rw [hw]
      refine ⟨⟨hk, pk_us, fun h2 => ?_, ?_⟩, fun j hj => ?_⟩
      · rw [pk_un (by omega), k1 (x + 1) (by omega)]
        exact hz _ (by omega)
      · exact fk_Ts_cong (lo := x + fk_hd (b x)) (hi := e) (fk_T_lt r) (fun y d hy hd h => fk_T_cong _ _ _ (fun j j1 j2 => pk_un (by omega)) h) _ _ _ (Nat.le_refl _) (Nat.le_refl _) hk.2.2.1 t1
      · rw [pk_un (by omega), k1 j (by omega)]
    · rw [if_neg hk] at h
      cases h
/-- trees one behind the other, to the end -/
def fk_CT (b : Nat → Nat) (n cnt : Nat) (E : Nat → Int32) : List Nat → Nat → Prop
  | [], x => x = n
  | r :: L, x => ∃ e, fk_T b n cnt E r x e ∧ fk_CT b n cnt E L e
theorem fk_Ts_CT {b : Nat → Nat} {n cnt r : Nat} {E : Nat → Int32} {L : List Nat} : ∀ (k x e : Nat), fk_Ts (fk_T b n cnt E r) k x e → fk_CT b n cnt E L e → fk_CT b n cnt E (List.replicate k r ++ L) x := by
  intro k
  induction k with
  | zero => intro x e h hc; simp only [fk_Ts] at h; subst h; exact hc
  | succ k ih =>
    intro x e h hc
    obtain ⟨y, h1, h2⟩ := h
    exact ⟨y, h1, ih y e h2 hc⟩
theorem fk_CT_le {b : Nat → Nat} {n cnt x : Nat} {E : Nat → Int32} {L : List Nat} (h : fk_CT b n cnt E L x) : x ≤ n := by
  cases L with
  | nil => exact Nat.le_of_eq h
  | cons r L =>
    obtain ⟨e, h1, -⟩ := h
    have := fk_T_lt _ _ _ h1
    omega
theorem fk_CT_step {b : Nat → Nat} {n cnt x r : Nat} {E : Nat → Int32} {L : List Nat} (h : fk_CT b n cnt E (r :: L) x) : ∃ q e, r = q + 1 ∧ fk_ok b n cnt x ∧ E x = nI e ∧ x < e ∧ e ≤ n ∧ (fk_hd (b x) = 2 → E (x + 1) = 0) ∧ fk_CT b n cnt E L e ∧ fk_Ts (fk_T b n cnt E q) (fk_ar (b x)) (x + fk_hd (b x)) e ∧ fk_CT b n cnt E (List.replicate (fk_ar (b x)) q ++ L) (x + fk_hd (b x)) := by
  obtain ⟨e, h1, h2⟩ := h
  have hlt := fk_T_lt _ _ _ h1
  cases r with
  | zero => exact h1.elim
  | succ q =>
    obtain ⟨hk, a1, a2, a3⟩ := h1
    exact ⟨q, e, rfl, hk, a1, hlt.1, hlt.2, a2, h2, a3, fk_Ts_CT _ _ _ a3 h2⟩
/-! Which flows wait for which: the closure by rounds (Warshall), and that any other order of the same unions comes to it. -/
/-- paths whose inner places lie under k -/
def fk_wp (R : Nat → Nat → Prop) : Nat → Nat → Nat → Prop
  | 0, a, b => R a b
  | k + 1, a, b => fk_wp R k a b ∨ (fk_wp R k a k ∧ fk_wp R k k b)
theorem fk_wp_mono {R : Nat → Nat → Prop} {k a b : Nat} (h : fk_wp R k a b) : fk_wp R (k + 1) a b := Or.inl h
theorem fk_wp_le {R : Nat → Nat → Prop} {k k' a b : Nat} (hk : k ≤ k') (h : fk_wp R k a b) : fk_wp R k' a b := by
  induction hk with
  | refl => exact h
  | step _ ih => exact Or.inl ih
/-- through a place under k it goes on -/
theorem fk_wp_via {R : Nat → Nat → Prop} : ∀ k j, j < k → ∀ a b, fk_wp R k a j → fk_wp R k j b → fk_wp R k a b := by
  intro k
  induction k with
  | zero => intro j hj; omega
  | succ k ih =>
    intro j hj a b h1 h2
    by_cases hjk : j = k
    · subst hjk
      have g1 : fk_wp R j a j := h1.elim id (fun h => h.1)
      have g2 : fk_wp R j j b := h2.elim id (fun h => h.2)
      exact Or.inr ⟨g1, g2⟩
    · have hj2 : j < k := by omega
      rcases h1 with h1 | ⟨h1, h1'⟩
      · rcases h2 with h2 | ⟨h2, h2'⟩
        · exact Or.inl (ih j hj2 a b h1 h2)
        · exact Or.inr ⟨ih j hj2 a k h1 h2, h2'⟩
      · rcases h2 with h2 | ⟨h2, h2'⟩
        · exact Or.inr ⟨h1, ih j hj2 k b h1' h2⟩
        · exact Or.inr ⟨h1, h2'⟩
/-- the closure is the least -/
theorem fk_wp_least {R S : Nat → Nat → Prop} (h0 : ∀ a b, R a b → S a b) (ht : ∀ a j b, S a j → S j b → S a b) : ∀ k a b, fk_wp R k a b → S a b := by
  intro k
  induction k with
  | zero => intro a b h; exact h0 a b h
  | succ k ih =>
    intro a b h
    rcases h with h | ⟨h1, h2⟩
    · exact ih a b h
    · exact ht a k b (ih a k h1) (ih k b h2)
