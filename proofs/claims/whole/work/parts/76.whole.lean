/-! isWhole against the class's reading: one answer; and the parts that the reference notes. -/
/-- where the p-th node from i on begins, and how many trees wait there -/
def fk_np9 (b : Nat → Nat) (i : Nat) : Nat → Nat
  | 0 => i
  | p + 1 => fk_np9 b i p + fk_hd (b (fk_np9 b i p))
def fk_nl9 (b : Nat → Nat) (i t : Nat) : Nat → Nat
  | 0 => t
  | p + 1 => fk_nl9 b i t p - 1 + fk_ar (b (fk_np9 b i p))
theorem fk_np9_S (b : Nat → Nat) (i : Nat) : ∀ p, fk_np9 b i (p + 1) = fk_np9 b (i + fk_hd (b i)) p := by
  intro p
  induction p with
  | zero => rfl
  | succ p ih =>
    show fk_np9 b i (p + 1) + fk_hd (b (fk_np9 b i (p + 1))) = fk_np9 b (i + fk_hd (b i)) p + fk_hd (b (fk_np9 b (i + fk_hd (b i)) p))
    rw [ih]
theorem fk_nl9_S (b : Nat → Nat) (i t : Nat) : ∀ p, fk_nl9 b i t (p + 1) = fk_nl9 b (i + fk_hd (b i)) (t - 1 + fk_ar (b i)) p := by
  intro p
  induction p with
  | zero => rfl
  | succ p ih =>
    show fk_nl9 b i t (p + 1) - 1 + fk_ar (b (fk_np9 b i (p + 1))) = fk_nl9 b (i + fk_hd (b i)) (t - 1 + fk_ar (b i)) p - 1 + fk_ar (b (fk_np9 b (i + fk_hd (b i)) p))
    rw [ih, fk_np9_S]
/-- the stack holds the levels of L, the first on top -/
def fk_IS9 (S : Nat → Int32) : List Nat → Prop
  | [] => True
  | r :: L => S L.length = nI (11 - r) ∧ r ≤ 11 ∧ fk_IS9 S L
theorem fk_IS9_cong {S S' : Nat → Int32} : ∀ L : List Nat, (∀ j, j < L.length → S' j = S j) → fk_IS9 S L → fk_IS9 S' L := by
  intro L
  induction L with
  | nil => intro _ _; trivial
  | cons r L ih =>
    intro h h1
    exact ⟨by rw [h L.length (by simp)]; exact h1.1, h1.2.1, ih (fun j hj => h j (by simp; omega)) h1.2.2⟩
theorem fk_IS9_push {S : Nat → Int32} {L : List Nat} {r : Nat} (hr : r ≤ 11) (h : fk_IS9 S L) : ∀ k, fk_IS9 (fk_sp (nI (11 - r)) k L.length S) (List.replicate k r ++ L) := by
  intro k
  have h0 : ∀ m, m ≤ k → fk_IS9 (fk_sp (nI (11 - r)) k L.length S) (List.replicate m r ++ L) := by
    intro m
    induction m with
    | zero =>
      intro _
      refine fk_IS9_cong L (fun j hj => ?_) h
      rw [fk_sp_at, if_neg (by omega)]
    | succ m ih =>
      intro hm
      refine ⟨?_, hr, ih (by omega)⟩
      show fk_sp (nI (11 - r)) k L.length S (List.replicate m r ++ L).length = _
      rw [fk_sp_at, List.length_append, List.length_replicate, if_pos (by omega)]
  exact h0 k (Nat.le_refl _)
theorem fk_iw_spec {b : Nat → Nat} {n cnt : Nat} : ∀ (d : Nat) (S : Nat → Int32) (L : List Nat) (St : Nat → Int32) (f i : Nat), fk_IS9 S L → fk_Dp L → i ≤ n → n - i + 2 ≤ d →
    (fk_Ch b n cnt L i → ∃ (N : Nat) (S' St' : Nat → Int32), fk_iw b n cnt d S L.length St f i = (true, S', 0, St', f + N) ∧ fk_np9 b i N = n ∧ fk_nl9 b i L.length N = 0 ∧ (∀ q, q < N → St' (f + q) = nI (fk_np9 b i q) ∧ fk_ok b n cnt (fk_np9 b i q) ∧ 1 ≤ fk_nl9 b i L.length q ∧ fk_nl9 b i L.length q ≤ 23) ∧ ∀ j, j < f → St' j = St j) ∧
    (¬ fk_Ch b n cnt L i → (fk_iw b n cnt d S L.length St f i).1 = false) := by
  intro d
  induction d with
  | zero => intro S L St f i _ _ _ h; omega
  | succ d ih =>
    intro S L St f i hS hD hi hd
    cases L with
    | nil =>
      rw [fk_iw_S, if_pos (show ([] : List Nat).length = 0 from rfl)]
      refine ⟨fun h => ⟨0, S, St, ?_, h, rfl, fun q hq => by omega, fun _ _ => rfl⟩, fun h => decide_eq_false h⟩
      rw [show decide (i = n) = true from decide_eq_true h]
      rfl
    | cons r L =>
      obtain ⟨s1, s2, s3⟩ := hS
      have hlen : (r :: L).length - 1 = L.length := by simp
      have htop : (S ((r :: L).length - 1)).toNatClampNeg = 11 - r := by rw [hlen, s1, nI_clamp (by omega)]
      rw [fk_iw_S, if_neg (by simp), htop, hlen]
      by_cases hbad : 10 < 11 - r ∨ n ≤ i ∨ 18 < b i
      · rw [if_pos hbad]
        refine ⟨fun h => ?_, fun _ => rfl⟩
        cases r with
        | zero => exact absurd h fk_Ch_zero
        | succ r =>
          have := (fk_Ch_step.mp h).1
          omega
      · rw [if_neg hbad]
        cases r with
        | zero => omega
        | succ r =>
          by_cases hb2 : (fk_hd (b i) = 2 ∧ n ≤ i + 1) ∨ ((b i = 3 ∨ 15 < b i) ∧ cnt ≤ b (i + 1))
          · rw [if_pos hb2]
            refine ⟨fun h => ?_, fun _ => rfl⟩
            have hk := (fk_Ch_step.mp h).1
            rcases hb2 with q | ⟨q1, q2⟩
            · have := hk.2.2.1; omega
            · have := hk.2.2.2 q1; omega
          · rw [if_neg hb2]
            have hh := fk_hd_pos (b i)
            have hok : fk_ok b n cnt i := ⟨by omega, by omega, by omega, fun q => by omega⟩
            have hL : L.length + fk_ar (b i) = (List.replicate (fk_ar (b i)) r ++ L).length := by rw [List.length_append, List.length_replicate]; omega
            have hDn : fk_Dp (List.replicate (fk_ar (b i)) r ++ L) := fk_Dp_step (fk_ar_le _) hD
            have hlv : 11 - (r + 1) + 1 = 11 - r := by omega
            obtain ⟨g1, g2⟩ := ih (fk_sp (nI (11 - (r + 1) + 1)) (fk_ar (b i)) L.length S) (List.replicate (fk_ar (b i)) r ++ L) (upd St f (nI i)) (f + 1) (i + fk_hd (b i)) (by rw [hlv]; exact fk_IS9_push (by omega) s3 _) hDn (hok.2.2.1) (by omega)
            rw [hL]
            refine ⟨fun h => ?_, fun h => g2 (fun q => h (fk_Ch_step.mpr ⟨hok, q⟩))⟩
            obtain ⟨N, S', St', e1, e2, e3, e4, e5⟩ := g1 (fk_Ch_step.mp h).2
            have hlt : L.length + 1 - 1 + fk_ar (b i) = (List.replicate (fk_ar (b i)) r ++ L).length := by rw [← hL]; omega
            refine ⟨N + 1, S', St', by rw [e1, show f + 1 + N = f + (N + 1) by omega], by rw [fk_np9_S]; exact e2, ?_, fun q hq => ?_, fun j hj => ?_⟩
            · rw [fk_nl9_S]
              show fk_nl9 b (i + fk_hd (b i)) (L.length + 1 - 1 + fk_ar (b i)) N = 0
              rw [hlt]
              exact e3
            · cases q with
              | zero =>
                refine ⟨?_, hok, by show 1 ≤ L.length + 1; omega, ?_⟩
                · rw [Nat.add_zero, e5 f (by omega), pk_us]
                  rfl
                · have := fk_Dp_len hD
                  exact this
              | succ q =>
                obtain ⟨c1, c2, c3, c4⟩ := e4 q (by omega)
                rw [fk_np9_S, fk_nl9_S]
                show St' (f + (q + 1)) = _ ∧ _ ∧ 1 ≤ fk_nl9 b (i + fk_hd (b i)) (L.length + 1 - 1 + fk_ar (b i)) q ∧ fk_nl9 b (i + fk_hd (b i)) (L.length + 1 - 1 + fk_ar (b i)) q ≤ 23
                rw [hlt, show f + (q + 1) = f + 1 + q by omega]
                exact ⟨c1, c2, c3, c4⟩
            · rw [e5 j (by omega), pk_un (by omega)]
theorem fk_pe_Ch {b : Nat → Nat} {n cnt : Nat} : fk_pe b n cnt 11 0 = some n ↔ fk_Ch b n cnt [11] 0 := by
  constructor
  · intro h
    exact ⟨n, h, rfl⟩
  · rintro ⟨e, h1, h2⟩
    have h2 : e = n := h2
    rw [← h2]
    rw [h2] at h1 ⊢
    exact h1
/-- the whole draft -/
theorem fk_iw_draft {b : Nat → Nat} {n cnt : Nat} (hn : n ≤ 40) (A St : Nat → Int32) :
    (fk_pe b n cnt 11 0 = some n → ∃ (N : Nat) (S' St' : Nat → Int32), fk_iw b n cnt 42 (upd A 0 (nI 0)) 1 St 0 0 = (true, S', 0, St', N) ∧ N ≤ n ∧ fk_np9 b 0 N = n ∧ fk_nl9 b 0 1 N = 0 ∧ ∀ q, q < N → St' q = nI (fk_np9 b 0 q) ∧ fk_ok b n cnt (fk_np9 b 0 q) ∧ 1 ≤ fk_nl9 b 0 1 q ∧ fk_nl9 b 0 1 q ≤ 23) ∧
    (¬ fk_pe b n cnt 11 0 = some n → (fk_iw b n cnt 42 (upd A 0 (nI 0)) 1 St 0 0).1 = false) := by
  obtain ⟨g1, g2⟩ := fk_iw_spec (b := b) (n := n) (cnt := cnt) 42 (upd A 0 (nI 0)) [11] St 0 0 ⟨pk_us, by decide, trivial⟩ ⟨by decide, trivial⟩ (Nat.zero_le _) (by omega)
  refine ⟨fun h => ?_, fun h => g2 (fun q => h (fk_pe_Ch.mpr q))⟩
  obtain ⟨N, S', St', e1, e2, e3, e4, -⟩ := g1 (fk_pe_Ch.mp h)
  have hmono : ∀ q, q ≤ fk_np9 b 0 q := by
    intro q
    induction q with
    | zero => exact Nat.le_refl _
    | succ q ih =>
      have hh := fk_hd_pos (b (fk_np9 b 0 q))
      show q + 1 ≤ fk_np9 b 0 q + fk_hd (b (fk_np9 b 0 q))
      omega
  refine ⟨N, S', St', ?_, by have := hmono N; omega, e2, e3, fun q hq => ?_⟩
  · rw [Nat.zero_add] at e1
    exact e1
  · obtain ⟨c1, c2⟩ := e4 q hq
    rw [Nat.zero_add] at c1
    exact ⟨c1, c2⟩
