/-! equation. -/
theorem fk_wps_cong {f : Nat → Option Nat} {w : Nat → (Nat → Int32) → Nat → Int32} {n : Nat} (hw : ∀ x E E', (∀ j, j < n → E j = E' j) → ∀ j, j < n → w x E j = w x E' j) : ∀ k x E E', (∀ j, j < n → E j = E' j) → ∀ j, j < n → fk_wps f w k x E j = fk_wps f w k x E' j := by
  intro k
  induction k with
  | zero => intro x E E' h j hj; exact h j hj
  | succ k ih =>
    intro x E E' h j hj
    simp only [fk_wps]
    cases f x with
    | none => exact hw x E E' h j hj
    | some e => exact ih e _ _ (hw x E E' h) j hj
theorem fk_we_cong {b : Nat → Nat} {n cnt : Nat} : ∀ r x E E', (∀ j, j < n → E j = E' j) → ∀ j, j < n → fk_we b n cnt r x E j = fk_we b n cnt r x E' j := by
  intro r
  induction r with
  | zero => intro x E E' h j hj; exact h j hj
  | succ r ih =>
    intro x E E' h j hj
    simp only [fk_we]
    split
    · cases fk_pe b n cnt (r + 1) x with
      | none => exact fk_wps_cong ih _ _ _ _ h j hj
      | some e =>
        show upd _ x (nI e) j = upd _ x (nI e) j
        by_cases hx : j = x
        · subst hx; rw [pk_us, pk_us]
        · rw [pk_un hx, pk_un hx]
          exact fk_wps_cong ih _ _ _ _ h j hj
    · exact h j hj
/-- the ends that the class notes are a tree -/
theorem fk_we_tree {b : Nat → Nat} {n cnt : Nat} (hn : n ≤ 40) (A : Nat → Int32) (h : fk_pe b n cnt 11 0 = some n) : fk_T b n cnt (fk_we b n cnt 11 0 (fk_fl A 40 0)) 11 0 n := by
  have h1 := (fk_we_T (b := b) (n := n) (cnt := cnt) 11 0 n (fun _ => 0) (fun _ _ => rfl) h).1
  refine fk_T_cong 11 0 n (fun j _ hj => fk_we_cong 11 0 _ _ (fun i hi => ?_) j hj) h1
  exact fk_fl_lt (by omega)
section
variable {bf : Nat → Nat} {nb n : Nat} {M : fk_M}
theorem fk_me1_k {k : Nat} (h : k ≠ 89 ∧ k ≠ 107 ∧ k ≠ 109) : fk_me1 bf nb n M k = M k := by
  unfold fk_me1 fk_wm
  rw [va_up_ne _ _ h.1, va_up_ne _ _ h.1, va_up_ne _ _ h.2.1, va_up_ne _ _ h.2.2]
theorem fk_me1_t {t : Nat} (h : t ≠ 19 ∧ t ≠ 21 ∧ t ≠ 29) : fk_me1 bf nb n M 89 t = M 89 t := by
  unfold fk_me1 fk_wm
  rw [va_up_self, pk_un h.1, va_up_self, pk_un h.2.1, pk_un h.2.2]
theorem fk_me1_19 : fk_me1 bf nb n M 89 19 = nI 0 := by
  unfold fk_me1
  rw [va_up_self, pk_us]
end
section
variable {Gd : fk_Gt}
/-- a draft that is thrown away -/
theorem fk_eq_bad (hG : fk_Gs Gd) {n : Nat} {ck P sz Np : Nat → Nat} {bb sp sl : Nat → Nat → Nat} {x dl : Nat} {db : Nat → Nat} {M M8 : fk_M} (h1 : fk_R1 n ck P sz Np bb sp sl M) (h2 : fk_R2 P x dl db M) (h3 : fk_R3 n ck sz M) (h4 : fk_R4 n ck M) (h5 : ¬ M 79 4 = 0 → Gd n ck P sz Np bb sp sl M)
    (e : ∀ k, k ≠ x → k ≠ x + 2 → M8 k = M k) (ex : M8 x 4 = nI 0) (bf : Nat → Nat) (nb : Nat) : fk_Rel Gd (fk_th (fk_me1 bf nb n M8) 1) := by
  have h2' := h2
  obtain ⟨a1, a2, a3, a4, a5, a6, a7, a8, a9⟩ := h2
  have hx0 := fk_X83 a1 (i := 0) (by decide)
  have hx2 := fk_X83 a1 (i := 2) (by decide)
  have hf : ∀ j, j < 12 → fk_th (fk_me1 bf nb n M8) 1 (3 + 6 * j) = M (3 + 6 * j) := fun j hj => by
    have hx4 := fk_X4 a1 hj
    rw [fk_th_ne (by omega), fk_me1_k (by omega), e _ (fun q => hx4.2.2.2.2 q.symm) (fun q => hx4.2.2.1 q.symm)]
  refine fk_Rel.ag hG h1 h2' h3 h4 h5 (M' := fk_th (fk_me1 bf nb n M8) 1) ⟨fun k b1 b2 b3 b4 b5 b6 b7 b8 b9 => ?_, fun j hj t ht => by rw [hf j hj], fun t b1 b2 b3 b4 => ?_⟩ (fk_hosts h3 (fun f hf9 => by rw [hf f hf9]) ?_) (dl' := 0) (db' := fun _ => 0) ⟨?_, ?_, by omega, fun i hi => by omega⟩
  · rw [fk_th_ne b4, fk_me1_k ⟨b4, b7, b8⟩, e k b1 b3]
  · rw [fk_th_s b1, fk_me1_t ⟨b2, b3, b4⟩, e 89 (by omega) (by omega)]
  · rw [fk_th_ne (by decide), fk_me1_k (by decide), e 93 (by omega) (by omega)]
  · rw [fk_th_ne (by omega), fk_me1_k (by omega)]
    exact ex
  · rw [fk_th_s (by decide)]
    exact fk_me1_19
theorem fk_if1 {α : Sort _} {c : Prop} [Decidable c] {a b : α} (h : c) : (if c then a else b) = a := if_pos h
set_option maxHeartbeats 1000000 in
/-- a draft that becomes flow j's equation -/
theorem fk_eq_good {n : Nat} {ck P sz Np : Nat → Nat} {bb sp sl : Nat → Nat → Nat} {x dl : Nat} {db : Nat → Nat} {M : fk_M} (h1 : fk_R1 n ck P sz Np bb sp sl M) (h2 : fk_R2 P x dl db M) (h3 : fk_R3 n ck sz M) (h4 : fk_R4 n ck M) {j : Nat} (hj : j < n) (hin : M (3 + 6 * j) 2 = 0) (hwf : fk_pe db dl n 11 0 = some dl) {MA : fk_M} (hMA : MA = fk_eqm db dl n M j x (P j)) :
    fk_Sh n ck (va_up P j x) (va_up sz j dl) (va_up bb j db) MA ∧ fk_Rel Gd (fk_me2 db dl n (fk_rs (va_up P j x) (fk_fg MA) n) j) := by
  obtain ⟨hs, hr, hp⟩ := h1
  have hn := hs.2.1
  have hj12 : j < 12 := by omega
  obtain ⟨a1, a2, a3, a4, a5, a6, a7, a8, a9⟩ := h2
  have hP0 : ∀ f, f < 12 → fk_X (P f) := fun f hf => (hs.2.2 f hf).1
  obtain ⟨y, hy⟩ : ∃ y, y = P j := ⟨_, rfl⟩
  have hY : fk_X y := by rw [hy]; exact hP0 j hj12
  have hyx : y ≠ x := by rw [hy]; exact a3 j hj12
  rw [← hy] at hMA
  have xb : ∀ i, i < 5 → 4 ≤ x + i ∧ (x + i < 75 ∨ (84 ≤ x + i ∧ x + i < 89)) := fun i hi => fk_X83 a1 hi
  have yb : ∀ i, i < 5 → 4 ≤ y + i ∧ (y + i < 75 ∨ (84 ≤ y + i ∧ y + i < 89)) := fun i hi => fk_X83 hY hi
  have hx2 := xb 2 (by decide)
  have hx0 := xb 0 (by decide)
  have hy0 := yb 0 (by decide)
  have hxf : x + 2 ≠ 3 + 6 * j := (fk_X4 a1 hj12).2.2.1
  have hyf : y ≠ 3 + 6 * j := (fk_X4 hY hj12).2.2.2.2
  have hxy2 : x + 2 ≠ y := fun q => hyx (fk_XX hY a1 (i := 0) (j := 2) (by decide) (by decide) q.symm)
  have eA : ∀ k, k ≠ x + 2 → k ≠ 3 + 6 * j → k ≠ 0 → k ≠ y → MA k = M k := fun k b1 b2 b3 b4 => by
    rw [hMA]
    unfold fk_eqm fk_q3 fk_q2 fk_q1
    rw [va_up_ne _ _ b4, va_up_ne _ _ b3, va_up_ne _ _ b2, va_up_ne _ _ b1]
  have eW : MA (x + 2) = fk_we db dl n 11 0 (fk_fl (M (x + 2)) 40 0) := by
    rw [hMA]
    unfold fk_eqm fk_q3 fk_q2 fk_q1
    rw [va_up_ne _ _ hxy2, va_up_ne _ _ (by omega), va_up_ne _ _ hxf, va_up_self]
  have eF : MA (3 + 6 * j) = upd (M (3 + 6 * j)) 0 (nI x) := by
    rw [hMA]
    unfold fk_eqm fk_q3 fk_q2 fk_q1
    rw [va_up_ne _ _ (Ne.symm hyf), va_up_ne _ _ (by omega), va_up_self, va_up_ne _ _ (Ne.symm hxf)]
  have e0 : MA 0 4 = nI y := by
    rw [hMA]
    unfold fk_eqm fk_q3 fk_q2
    rw [va_up_ne _ _ (by omega), va_up_self, pk_us]
  have eY : MA y 4 = nI 0 := by
    rw [hMA]
    unfold fk_eqm fk_q3
    rw [va_up_self, pk_us]
  have ef : ∀ f, f < 12 → f ≠ j → MA (3 + 6 * f) = M (3 + 6 * f) := fun f hf q => by
    have q1 := fk_X4 a1 hf
    have q2 := fk_X4 hY hf
    exact eA _ (fun e => q1.2.2.1 e.symm) (by omega) (by omega) (fun e => q2.2.2.2.2 e.symm)
  have et : ∀ f t, f < 12 → t ≠ 0 → MA (3 + 6 * f) t = M (3 + 6 * f) t := fun f t hf ht => by
    by_cases q : f = j
    · subst q; rw [eF, pk_un ht]
    · rw [ef f hf q]
  -- cells of expressions
  have eX : ∀ z i, fk_X z → i < 5 → (z = x → i ≠ 2) → (z = y → i ≠ 0) → MA (z + i) = M (z + i) := fun z i hz hi b1 b2 => by
    have q1 := fk_X83 hz (i := i) hi
    have q2 := fk_X4 hz hj12
    refine eA _ (fun q => ?_) (fun q => ?_) (by omega) (fun q => ?_)
    · have q3 := fk_XX hz a1 hi (j := 2) (by decide) q
      exact b1 q3 (by omega)
    · rcases (by omega : i = 0 ∨ i = 1 ∨ i = 2 ∨ i = 3 ∨ i = 4) with rfl | rfl | rfl | rfl | rfl
      · exact q2.2.2.2.2 q
      · exact q2.2.2.2.1 q
      · exact q2.2.2.1 q
      · exact q2.2.1 q
      · exact q2.1 q
    · have q3 := fk_XX hz hY hi (j := 0) (by decide) q
      exact b2 q3 (by omega)
  have hPj : va_up P j x j = x := va_up_self ..
  have hSh : fk_Sh n ck (va_up P j x) (va_up sz j dl) (va_up bb j db) MA := by
    refine ⟨?_, hn, fun f hf => ?_⟩
    · rw [eA 1 (by omega) (by omega) (by decide) (by omega)]
      exact hs.1
    · obtain ⟨b1, b2, b3, b4, b5, b6, b7, b8, b9, b10, b11, b12⟩ := hs.2.2 f hf
      rw [et f 3 hf (by decide), et f 1 hf (by decide), et f 2 hf (by decide)]
      by_cases q : f = j
      · subst q
        rw [va_up_self, va_up_self, va_up_self, eF, pk_us, eW, eX x 1 a1 (by decide) (by omega) (by omega), eX x 3 a1 (by decide) (by omega) (by omega)]
        have q0 := eX x 0 a1 (by decide) (by omega) (fun e => absurd e.symm hyx)
        rw [Nat.add_zero] at q0
        rw [q0]
        exact ⟨a1, rfl, b3, b4, a5, a7, fun i hi => ⟨(a8 i hi).1, (a8 i hi).2.2⟩, a9, fun _ => fk_we_tree a7 _ hwf, b10, b11, fun r => absurd hin r⟩
      · have hPfx : P f ≠ x := a3 f hf
        have hPfy : P f ≠ y := by rw [hy]; exact fun r => q (a4 f j hf hj12 r)
        have q0 := eX (P f) 0 b1 (by decide) (fun r => absurd r hPfx) (fun r => absurd r hPfy)
        rw [Nat.add_zero] at q0
        rw [va_up_ne _ _ q, va_up_ne _ _ q, va_up_ne _ _ q, ef f hf q, q0, eX (P f) 1 b1 (by decide) (fun r => absurd r hPfx) (fun r => absurd r hPfy), eX (P f) 2 b1 (by decide) (fun r => absurd r hPfx) (fun r => absurd r hPfy), eX (P f) 3 b1 (by decide) (fun r => absurd r hPfx) (fun r => absurd r hPfy)]
        exact ⟨b1, b2, b3, b4, b5, b6, b7, b8, b9, b10, b11, b12⟩
  refine ⟨hSh, ?_⟩
  have hP : ∀ f, f < 12 → fk_X (va_up P j x f) := fun f hf => (hSh.2.2 f hf).1
  obtain ⟨M8, hM8⟩ : ∃ z : fk_M, z = fk_rs (va_up P j x) (fk_fg MA) n := ⟨_, rfl⟩
  rw [← hM8]
  have k8 : ∀ k, (k = 1 ∨ k = 2 ∨ k = 75 ∨ k = 77 ∨ 89 ≤ k) → M8 k = M k := fun k hk => by
    rw [hM8, fk_rs_hi hP hn (by omega), fk_fg_k (by omega), eA k (by omega) (by omega) (by omega) (by omega)]
  have x8 : ∀ z i, fk_X z → i < 4 → M8 (z + i) = MA (z + i) := fun z i hz hi9 => by
    have q1 := fk_X83 hz (i := i) (by omega)
    rw [hM8, fk_rs_x hP hz hi9 hn, fk_fg_k (by omega)]
  have f8 : ∀ f t, f < 12 → t ≠ 5 → M8 (3 + 6 * f) t = MA (3 + 6 * f) t := fun f t hf ht => by
    rw [hM8, fk_rs_ft hP hf hn ht, fk_fg_k (by omega)]
  -- the reference
  obtain ⟨N, S', St', i1, i2, i3, i4, i5⟩ := (fk_iw_draft (b := db) (n := dl) (cnt := n) a7 (M8 109) (M8 107)).1 hwf
  obtain ⟨M9, hM9⟩ : ∃ z : fk_M, z = fk_me2 db dl n M8 j := ⟨_, rfl⟩
  rw [← hM9]
  have hm2 : M9 = fk_ma (va_up (va_up (va_up (va_up (fk_th (fk_me1 db dl n M8) 0) 98 (upd (M8 98) j (nI dl))) 99 (upd (M8 99) j (nI N))) 100 (fk_cy (M8 100) (40 * j) (M8 106) dl)) 101 (fk_cy (M8 101) (40 * j) St' N)) := by
    rw [hM9]
    unfold fk_me2
    rw [i1]
  have c9 : ∀ k, k < 89 → M9 k = M8 k := fun k hk => by
    rw [hm2, fk_ma_k (by omega), va_up_ne _ _ (by omega), va_up_ne _ _ (by omega), va_up_ne _ _ (by omega), va_up_ne _ _ (by omega), fk_th_ne (by omega), fk_me1_k (by omega)]
  have d9 : ∀ k, (k = 90 ∨ k = 91 ∨ k = 92 ∨ k = 93 ∨ k = 97 ∨ k = 102 ∨ k = 106 ∨ k = 108) → M9 k = M k := fun k b0 => by
    rw [hm2, fk_ma_k (by omega), va_up_ne _ _ (by omega), va_up_ne _ _ (by omega), va_up_ne _ _ (by omega), va_up_ne _ _ (by omega), fk_th_ne (by omega), fk_me1_k (by omega), k8 k (by omega)]
  have e98 : M9 98 = upd (M 98) j (nI dl) := by rw [hm2, fk_ma_k (by decide), va_up_ne _ _ (by decide), va_up_ne _ _ (by decide), va_up_ne _ _ (by decide), va_up_self, k8 98 (by decide)]
  have e99 : M9 99 = upd (M 99) j (nI N) := by rw [hm2, fk_ma_k (by decide), va_up_ne _ _ (by decide), va_up_ne _ _ (by decide), va_up_self, k8 99 (by decide)]
  have e100 : M9 100 = fk_cy (M 100) (40 * j) (M 106) dl := by rw [hm2, fk_ma_k (by decide), va_up_ne _ _ (by decide), va_up_self, k8 100 (by decide), k8 106 (by decide)]
  have e101 : M9 101 = fk_cy (M 101) (40 * j) St' N := by rw [hm2, fk_ma_k (by decide), va_up_self, k8 101 (by decide)]
  have t89 : ∀ t, t ≠ 0 → t ≠ 19 → t ≠ 21 → t ≠ 29 → t ≠ 22 → t ≠ 23 → t ≠ 24 → t ≠ 25 → M9 89 t = M 89 t := fun t b0 b1 b2 b3 b4 b5 b6 b7 => by
    rw [hm2, fk_ma_89t ⟨b4, b5, b6, b7⟩, va_up_ne _ _ (by decide), va_up_ne _ _ (by decide), va_up_ne _ _ (by decide), va_up_ne _ _ (by decide), fk_th_s b0, fk_me1_t ⟨b1, b2, b3⟩, k8 89 (by decide)]
  have e19 : M9 89 19 = nI 0 := by
    rw [hm2, fk_ma_89t (by decide), va_up_ne _ _ (by decide), va_up_ne _ _ (by decide), va_up_ne _ _ (by decide), va_up_ne _ _ (by decide), fk_th_s (by decide), fk_me1_19]
  have hf9 : ∀ f t, f < 12 → t ≠ 5 → M9 (3 + 6 * f) t = MA (3 + 6 * f) t := fun f t hf ht => by rw [c9 _ (by omega), f8 f t hf ht]
  obtain ⟨o, ho, h27, -⟩ := h4.2.2.2.2.2
  have hSh9 : fk_Sh n ck (va_up P j x) (va_up sz j dl) (va_up bb j db) M9 := by
    refine hSh.to ⟨?_, fun f hf t ht => hf9 f t hf (by omega), fun z hz => ?_⟩
    · rw [c9 1 (by decide), hM8, fk_rs_hi hP hn (by decide), fk_fg_k (by decide)]
    · have q0 := fk_X83 hz (i := 0) (by decide)
      have q1 := fk_X83 hz (i := 1) (by decide)
      have q2 := fk_X83 hz (i := 2) (by decide)
      have q3 := fk_X83 hz (i := 3) (by decide)
      have r0 : M9 z = MA z := by have r := x8 z 0 hz (by decide); rw [Nat.add_zero] at r; rw [c9 z (by omega), r]
      exact ⟨r0, by rw [c9 _ (by omega), x8 z 1 hz (by decide)], by rw [c9 _ (by omega), x8 z 2 hz (by decide)], by rw [c9 _ (by omega), x8 z 3 hz (by decide)]⟩
  refine ⟨n, ck, va_up P j x, va_up sz j dl, va_up Np j N, va_up bb j db, va_up sp j (fk_np9 db 0), va_up sl j (fk_nl9 db 0 1), y, 0, fun _ => 0, ⟨hSh9, ⟨hn, ?_, fun f hf => ?_⟩, fun f hf h0 => ?_⟩, ⟨hY, ?_, fun f hf => ?_, fun f f' hf hf' r => ?_, ?_, e19, by omega, fun i hi9 => by omega, fun i hi9 => ?_⟩, ⟨fun f hf => ?_, fun f hf => ?_, fun f hf hb9 => ?_⟩, ?_, fun q => absurd ?_ q⟩
  · rw [t89 1 (by decide) (by decide) (by decide) (by decide) (by decide) (by decide) (by decide) (by decide)]
    exact hr.2.1
  · obtain ⟨b1, b2, b3⟩ := hr.2.2 f hf
    obtain ⟨c1, c2, c3, c4, c5, c6, c7, c8⟩ := b3
    rw [d9 92 (by decide)]
    refine ⟨b1, b2, ?_⟩
    by_cases q : f = j
    · subst q
      rw [va_up_self, va_up_self, va_up_self, va_up_self, va_up_self]
      refine ⟨a7, by omega, rfl, fun p hp9 => ?_, ?_, fun p hp9 => ?_, fun i hi9 => ?_, fun _ => i4⟩
      · obtain ⟨-, g2, g3, g4⟩ := i5 p hp9
        refine ⟨g2, g3, g4, ?_⟩
        show fk_nl9 db 0 1 p - 1 + fk_ar (db (fk_np9 db 0 p)) + 1 = _
        omega
      · rw [e99, pk_us]
      · rw [e101]
        unfold fk_cy
        rw [if_pos (by omega), show 40 * f + p - 40 * f = p by omega]
        exact (i5 p hp9).1
      · rw [e100]
        unfold fk_cy
        rw [if_pos (by omega), show 40 * f + i - 40 * f = i by omega]
        exact (a8 i hi9).2.1
    · rw [va_up_ne _ _ q, va_up_ne _ _ q, va_up_ne _ _ q, va_up_ne _ _ q, va_up_ne _ _ q]
      refine ⟨c1, c2, c3, c4, ?_, fun p hp9 => ?_, fun i hi9 => ?_, ?_⟩
      · rw [e99, pk_un q]; exact c5
      · rw [e101]
        unfold fk_cy
        rw [if_neg (by omega)]
        exact c6 p hp9
      · rw [e100]
        unfold fk_cy
        rw [if_neg (by omega)]
        exact c7 i hi9
      · rw [e98, pk_un q]; exact c8
  · by_cases q : f = j
    · subst q
      rw [va_up_self, va_up_self, va_up_self, va_up_self]
      exact ⟨rfl, fun p hp9 => rfl, i3⟩
    · rw [va_up_ne _ _ q] at h0
      rw [va_up_ne _ _ q, va_up_ne _ _ q, va_up_ne _ _ q, va_up_ne _ _ q]
      exact hp f hf h0
  · rw [c9 0 (by decide), hM8, fk_rs_hi hP hn (by decide), fk_fg_k (by decide)]; exact e0
  · by_cases q : f = j
    · subst q; rw [va_up_self]; exact Ne.symm hyx
    · rw [va_up_ne _ _ q, hy]; exact fun r => q (a4 f j hf hj12 r)
  · by_cases q : f = j
    · by_cases q' : f' = j
      · rw [q, q']
      · rw [q, va_up_self, va_up_ne _ _ q'] at r
        exact absurd r.symm (a3 f' hf')
    · by_cases q' : f' = j
      · rw [q', va_up_self, va_up_ne _ _ q] at r
        exact absurd r (a3 f hf)
      · rw [va_up_ne _ _ q, va_up_ne _ _ q'] at r
        exact a4 f f' hf hf' r
  · have r := x8 y 0 hY (by decide)
    rw [Nat.add_zero] at r
    rw [c9 y (by omega), r]; exact eY
  · have q3 := fk_X83 hY (i := 3) (by decide)
    rw [c9 _ (by omega), x8 y 3 hY (by decide), eX y 3 hY (by decide) (by omega) (by omega), hy]
    exact (hs.2.2 j hj12).2.2.2.2.2.2.2.1 i hi9
  · obtain ⟨b1, b2, b3, b4, b5⟩ := h3.1 f hf
    rw [hf9 f 1 hf (by decide), hf9 f 2 hf (by decide), hf9 f 4 hf (by decide), et f 1 hf (by decide), et f 2 hf (by decide), et f 4 hf (by decide), d9 90 (by decide), d9 91 (by decide), d9 93 (by decide), e98, e99]
    by_cases q : f = j
    · subst q
      rw [va_up_self, pk_us]
      exact ⟨b1, b2, b3, rfl, fun r => absurd r (by omega)⟩
    · rw [va_up_ne _ _ q, pk_un q, pk_un q]
      exact ⟨b1, b2, b3, b4, b5⟩
  · rcases h3.2.1 f hf with q | ⟨q1, q2⟩
    · exact Or.inl q
    · exact Or.inr ⟨q1, by rw [hf9 _ 1 (by omega) (by decide), et _ 1 (by omega) (by decide)]; exact q2⟩
  · rw [hf9 f 4 (by omega) (by decide), et f 4 (by omega) (by decide)]
    rw [hf9 f 1 (by omega) (by decide), et f 1 (by omega) (by decide)] at hb9
    exact h3.2.2 f hf hb9
  · have g79 : ∀ t, M9 79 t = fk_fg MA 79 t := fun t => by rw [c9 79 (by decide), hM8, fk_rs_hi hP hn (by decide)]
    refine fk_R4_new (o := o) hn (fun f hf => ?_) (by rw [g79, fk_fg_4]) (by rw [g79, fk_fg_5]) (by rw [g79, fk_fg_6]) (fun i hi9 => ?_) ?_ ?_ ?_ ?_ (fun f hf => ?_) (fun f hf => ?_) (fun f hf => ?_) ho ?_
    · exact (hSh9.2.2 f (by omega)).2.2.2.1
    · rw [c9 83 (by decide), hM8, fk_rs_83 hP n hn]
      exact fk_fl_lt hi9
    · rw [hm2]; exact fk_ma_22
    · rw [hm2]; exact fk_ma_23
    · rw [hm2]; exact fk_ma_24
    · rw [hm2]; exact fk_ma_25
    · rw [hm2]; exact fk_ma_95 hf
    · rw [hm2]; exact fk_ma_96 hf
    · rw [c9 _ (by omega), hM8]; exact fk_rs_f5 hP hf hn
    · rw [t89 27 (by decide) (by decide) (by decide) (by decide) (by decide) (by decide) (by decide) (by decide)]; exact h27
  · rw [c9 79 (by decide), hM8, fk_rs_hi hP hn (by decide)]; exact fk_fg_4
end
