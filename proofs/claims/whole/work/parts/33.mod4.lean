/-! The reference: isWhole, equation. Written by wip/gen/s_mod4.py. -/
/-- k copies of v pushed on a stack of t -/
def fk_sp (v : Int32) : Nat → Nat → (Nat → Int32) → Nat → Int32
  | 0, _, S => S
  | k + 1, t, S => fk_sp v k (t + 1) (upd S t v)
theorem fk_sp_at (v : Int32) : ∀ k t S j, fk_sp v k t S j = if t ≤ j ∧ j < t + k then v else S j := by
  intro k
  induction k with
  | zero => intro t S j; rw [if_neg (by omega)]; rfl
  | succ k ih =>
    intro t S j
    show fk_sp v k (t + 1) (upd S t v) j = _
    rw [ih]
    by_cases h : t = j
    · subst h
      rw [if_neg (by omega), if_pos (by omega), pk_us]
    · by_cases h2 : t ≤ j ∧ j < t + (k + 1)
      · rw [if_pos h2, if_pos (by omega)]
      · rw [if_neg h2, if_neg (by omega), pk_un (by omega)]
/-- the reference's reading of a draft: the stack S of t depths, the starts St of f -/
def fk_iw (b : Nat → Nat) (n cnt : Nat) : Nat → (Nat → Int32) → Nat → (Nat → Int32) → Nat → Nat → Bool × (Nat → Int32) × Nat × (Nat → Int32) × Nat
  | 0, S, t, St, f, _ => (false, S, t, St, f)
  | d + 1, S, t, St, f, i => if t = 0 then (decide (i = n), S, t, St, f)
    else if 10 < (S (t - 1)).toNatClampNeg ∨ n ≤ i ∨ 18 < b i then (false, S, t - 1, St, f)
    else if (fk_hd (b i) = 2 ∧ n ≤ i + 1) ∨ ((b i = 3 ∨ 15 < b i) ∧ cnt ≤ b (i + 1)) then (false, S, t - 1, upd St f (nI i), f + 1)
    else fk_iw b n cnt d (fk_sp (nI ((S (t - 1)).toNatClampNeg + 1)) (fk_ar (b i)) (t - 1) S) (t - 1 + fk_ar (b i)) (upd St f (nI i)) (f + 1) (i + fk_hd (b i))
theorem fk_iw_S (b : Nat → Nat) (n cnt d : Nat) (S : Nat → Int32) (t : Nat) (St : Nat → Int32) (f i : Nat) : fk_iw b n cnt (d + 1) S t St f i = if t = 0 then (decide (i = n), S, t, St, f)
    else if 10 < (S (t - 1)).toNatClampNeg ∨ n ≤ i ∨ 18 < b i then (false, S, t - 1, St, f)
    else if (fk_hd (b i) = 2 ∧ n ≤ i + 1) ∨ ((b i = 3 ∨ 15 < b i) ∧ cnt ≤ b (i + 1)) then (false, S, t - 1, upd St f (nI i), f + 1)
    else fk_iw b n cnt d (fk_sp (nI ((S (t - 1)).toNatClampNeg + 1)) (fk_ar (b i)) (t - 1) S) (t - 1 + fk_ar (b i)) (upd St f (nI i)) (f + 1) (i + fk_hd (b i)) := rfl
/-- a stack of depths that stays short -/
def fk_IL (S : Nat → Int32) (t : Nat) : Prop := ∃ L : List Nat, L.length = t ∧ fk_Dp L ∧ (∀ q ∈ L, q ≤ 11) ∧ ∀ j, j < t → S j = nI (11 - L.getD (t - 1 - j) 0)
theorem fk_IL_top {S : Nat → Int32} {u : Nat} (h : fk_IL S (u + 1)) : ∃ r, r ≤ 11 ∧ S u = nI (11 - r) ∧ u + 2 * r ≤ 22 ∧ (∀ k, k ≤ 3 → 1 ≤ r → fk_IL (fk_sp (nI (11 - r + 1)) k u S) (u + k)) := by
  obtain ⟨L, h1, h2, h3, h4⟩ := h
  cases L with
  | nil => simp at h1
  | cons r L =>
    simp only [List.length_cons] at h1
    have hu : L.length = u := by omega
    refine ⟨r, h3 r List.mem_cons_self, ?_, by have := h2.1; omega, fun k hk hr => ?_⟩
    · have := h4 u (by omega)
      rw [show u + 1 - 1 - u = 0 by omega] at this
      exact this
    · obtain ⟨r', rfl⟩ : ∃ r', r = r' + 1 := ⟨r - 1, by omega⟩
      have hr11 := h3 _ List.mem_cons_self
      refine ⟨List.replicate k r' ++ L, by rw [List.length_append, List.length_replicate]; omega, fk_Dp_step hk h2, fun q hq => ?_, fun j hj => ?_⟩
      · rcases List.mem_append.mp hq with hq | hq
        · rw [List.eq_of_mem_replicate hq]
          omega
        · exact h3 q (List.mem_cons_of_mem _ hq)
      · rw [fk_sp_at]
        by_cases hju : u ≤ j
        · rw [if_pos ⟨hju, hj⟩, List.getD_eq_getElem?_getD, List.getElem?_append_left (by rw [List.length_replicate]; omega), List.getElem?_replicate, if_pos (by omega)]
          show nI (11 - (r' + 1) + 1) = nI (11 - r')
          congr 1
          omega
        · rw [if_neg (by omega), List.getD_eq_getElem?_getD, List.getElem?_append_right (by rw [List.length_replicate]; omega), List.length_replicate]
          have h9 := h4 j (by omega)
          rw [List.getD_eq_getElem?_getD, show u + 1 - 1 - j = (u + k - 1 - j - k) + 1 by omega] at h9
          exact h9
def fk_wm (M : fk_M) (S : Nat → Int32) (t : Nat) (St : Nat → Int32) (f : Nat) : fk_M := va_up (va_up (va_up M 109 S) 107 St) 89 (upd (upd (M 89) 29 (nI t)) 21 (nI f))
def fk_CC (M Mc : fk_M) (S : Nat → Int32) (t : Nat) (St : Nat → Int32) (f : Nat) : Prop := Mc 109 = S ∧ Mc 107 = St ∧ Mc 89 29 = nI t ∧ Mc 89 21 = nI f ∧ (∀ j, j ≠ 29 → j ≠ 21 → Mc 89 j = M 89 j) ∧ ∀ k, k ≠ 89 → k ≠ 107 → k ≠ 109 → Mc k = M k
theorem fk_CC.eq {M Mc : fk_M} {S : Nat → Int32} {t : Nat} {St : Nat → Int32} {f : Nat} (h : fk_CC M Mc S t St f) : Mc = fk_wm M S t St f := by
  obtain ⟨h1, h2, h3, h4, h5, h6⟩ := h
  funext k
  unfold fk_wm
  by_cases k1 : k = 89
  · subst k1
    rw [va_up_self]
    funext j
    by_cases j1 : j = 21
    · subst j1
      rw [pk_us, h4]
    · rw [pk_un j1]
      by_cases j2 : j = 29
      · subst j2
        rw [pk_us, h3]
      · rw [pk_un j2, h5 j j2 j1]
  · rw [va_up_ne _ _ k1]
    by_cases k2 : k = 107
    · subst k2
      rw [va_up_self, h2]
    · rw [va_up_ne _ _ k2]
      by_cases k3 : k = 109
      · subst k3
        rw [va_up_self, h1]
      · rw [va_up_ne _ _ k3, h6 k k1 k2 k3]
theorem fk_CC.push {M Mc : fk_M} {S : Nat → Int32} {t : Nat} {St : Nat → Int32} {f : Nat} (h : fk_CC M Mc S t St f) (v : Int32) : fk_CC M (fk_pu Mc t v) (upd S t v) (t + 1) St f := by
  obtain ⟨h1, h2, h3, h4, h5, h6⟩ := h
  unfold fk_pu
  refine ⟨by rw [va_up_ne _ _ (by decide), va_up_self, h1], by rw [va_up_ne _ _ (by decide), va_up_ne _ _ (by decide), h2], by rw [va_up_self, pk_us], by rw [va_up_self, pk_un (by decide), h4], fun j j1 j2 => by rw [va_up_self, pk_un j1, h5 j j1 j2], fun k k1 k2 k3 => by rw [va_up_ne _ _ k1, va_up_ne _ _ k3, h6 k k1 k2 k3]⟩
theorem fk_CC.pop {M Mc : fk_M} {S : Nat → Int32} {t : Nat} {St : Nat → Int32} {f : Nat} (h : fk_CC M Mc S (t + 1) St f) : fk_CC M (fk_po Mc t) S t St f := by
  obtain ⟨h1, h2, h3, h4, h5, h6⟩ := h
  unfold fk_po
  refine ⟨by rw [va_up_ne _ _ (by decide), h1], by rw [va_up_ne _ _ (by decide), h2], by rw [va_up_self, pk_us], by rw [va_up_self, pk_un (by decide), h4], fun j j1 j2 => by rw [va_up_self, pk_un j1, h5 j j1 j2], fun k k1 k2 k3 => by rw [va_up_ne _ _ k1, h6 k k1 k2 k3]⟩
theorem fk_CC.start {M Mc : fk_M} {S : Nat → Int32} {t : Nat} {St : Nat → Int32} {f : Nat} (h : fk_CC M Mc S t St f) (w : Int32) : fk_CC M (va_up Mc 107 (upd (Mc 107) f w)) S t (upd St f w) f := by
  obtain ⟨h1, h2, h3, h4, h5, h6⟩ := h
  refine ⟨by rw [va_up_ne _ _ (by decide), h1], by rw [va_up_self, h2], by rw [va_up_ne _ _ (by decide), h3], by rw [va_up_ne _ _ (by decide), h4], fun j j1 j2 => by rw [va_up_ne _ _ (by decide), h5 j j1 j2], fun k k1 k2 k3 => by rw [va_up_ne _ _ k2, h6 k k1 k2 k3]⟩
theorem fk_CC.found {M Mc : fk_M} {S : Nat → Int32} {t : Nat} {St : Nat → Int32} {f : Nat} (h : fk_CC M Mc S t St f) (f' : Nat) : fk_CC M (va_up Mc 89 (upd (Mc 89) 21 (nI f'))) S t St f' := by
  obtain ⟨h1, h2, h3, h4, h5, h6⟩ := h
  refine ⟨by rw [va_up_ne _ _ (by decide), h1], by rw [va_up_ne _ _ (by decide), h2], by rw [va_up_self, pk_un (by decide), h3], by rw [va_up_self, pk_us], fun j j1 j2 => by rw [va_up_self, pk_un j2, h5 j j1 j2], fun k k1 k2 k3 => by rw [va_up_ne _ _ k1, h6 k k1 k2 k3]⟩
theorem d_M_isWhole_0 : decode b_M_isWhole 0 = .ok (.aload_n 0, 1) := by decide +kernel
theorem d_M_isWhole_1 : decode b_M_isWhole 1 = .ok (.iconst 0, 1) := by decide +kernel
theorem d_M_isWhole_2 : decode b_M_isWhole 2 = .ok (.putfield 109, 3) := by decide +kernel
theorem d_M_isWhole_5 : decode b_M_isWhole 5 = .ok (.aload_n 0, 1) := by decide +kernel
theorem d_M_isWhole_6 : decode b_M_isWhole 6 = .ok (.iconst 0, 1) := by decide +kernel
theorem d_M_isWhole_7 : decode b_M_isWhole 7 = .ok (.putfield 81, 3) := by decide +kernel
theorem d_M_isWhole_10 : decode b_M_isWhole 10 = .ok (.aload_n 0, 1) := by decide +kernel
theorem d_M_isWhole_11 : decode b_M_isWhole 11 = .ok (.iconst 0, 1) := by decide +kernel
theorem d_M_isWhole_12 : decode b_M_isWhole 12 = .ok (.invokevirtual 112, 3) := by decide +kernel
theorem d_M_isWhole_15 : decode b_M_isWhole 15 = .ok (.iconst 0, 1) := by decide +kernel
theorem d_M_isWhole_16 : decode b_M_isWhole 16 = .ok (.istore_n 1, 1) := by decide +kernel
theorem d_M_isWhole_17 : decode b_M_isWhole 17 = .ok (.aload_n 0, 1) := by decide +kernel
theorem d_M_isWhole_18 : decode b_M_isWhole 18 = .ok (.getfield 81, 3) := by decide +kernel
theorem d_M_isWhole_21 : decode b_M_isWhole 21 = .ok (.ifCond .le 168, 3) := by decide +kernel
theorem d_M_isWhole_24 : decode b_M_isWhole 24 = .ok (.aload_n 0, 1) := by decide +kernel
theorem d_M_isWhole_25 : decode b_M_isWhole 25 = .ok (.invokevirtual 116, 3) := by decide +kernel
theorem d_M_isWhole_28 : decode b_M_isWhole 28 = .ok (.istore_n 2, 1) := by decide +kernel
theorem d_M_isWhole_29 : decode b_M_isWhole 29 = .ok (.iload_n 2, 1) := by decide +kernel
theorem d_M_isWhole_30 : decode b_M_isWhole 30 = .ok (.bipush 10, 2) := by decide +kernel
theorem d_M_isWhole_32 : decode b_M_isWhole 32 = .ok (.if_icmp .gt 22, 3) := by decide +kernel
theorem d_M_isWhole_35 : decode b_M_isWhole 35 = .ok (.iload_n 1, 1) := by decide +kernel
theorem d_M_isWhole_36 : decode b_M_isWhole 36 = .ok (.aload_n 0, 1) := by decide +kernel
theorem d_M_isWhole_37 : decode b_M_isWhole 37 = .ok (.getfield 104, 3) := by decide +kernel
theorem d_M_isWhole_40 : decode b_M_isWhole 40 = .ok (.if_icmp .ge 14, 3) := by decide +kernel
theorem d_M_isWhole_43 : decode b_M_isWhole 43 = .ok (.aload_n 0, 1) := by decide +kernel
theorem d_M_isWhole_44 : decode b_M_isWhole 44 = .ok (.getfield 59, 3) := by decide +kernel
theorem d_M_isWhole_47 : decode b_M_isWhole 47 = .ok (.iload_n 1, 1) := by decide +kernel
theorem d_M_isWhole_48 : decode b_M_isWhole 48 = .ok (.iaload, 1) := by decide +kernel
theorem d_M_isWhole_49 : decode b_M_isWhole 49 = .ok (.bipush 18, 2) := by decide +kernel
theorem d_M_isWhole_51 : decode b_M_isWhole 51 = .ok (.if_icmp .le 5, 3) := by decide +kernel
theorem d_M_isWhole_54 : decode b_M_isWhole 54 = .ok (.iconst 0, 1) := by decide +kernel
theorem d_M_isWhole_55 : decode b_M_isWhole 55 = .ok (.ireturn, 1) := by decide +kernel
theorem d_M_isWhole_56 : decode b_M_isWhole 56 = .ok (.aload_n 0, 1) := by decide +kernel
theorem d_M_isWhole_57 : decode b_M_isWhole 57 = .ok (.getfield 59, 3) := by decide +kernel
theorem d_M_isWhole_60 : decode b_M_isWhole 60 = .ok (.iload_n 1, 1) := by decide +kernel
theorem d_M_isWhole_61 : decode b_M_isWhole 61 = .ok (.iaload, 1) := by decide +kernel
theorem d_M_isWhole_62 : decode b_M_isWhole 62 = .ok (.istore_n 3, 1) := by decide +kernel
theorem d_M_isWhole_63 : decode b_M_isWhole 63 = .ok (.aload_n 0, 1) := by decide +kernel
theorem d_M_isWhole_64 : decode b_M_isWhole 64 = .ok (.getfield 62, 3) := by decide +kernel
theorem d_M_isWhole_67 : decode b_M_isWhole 67 = .ok (.aload_n 0, 1) := by decide +kernel
theorem d_M_isWhole_68 : decode b_M_isWhole 68 = .ok (.getfield 109, 3) := by decide +kernel
theorem d_M_isWhole_71 : decode b_M_isWhole 71 = .ok (.iload_n 1, 1) := by decide +kernel
theorem d_M_isWhole_72 : decode b_M_isWhole 72 = .ok (.iastore, 1) := by decide +kernel
theorem d_M_isWhole_73 : decode b_M_isWhole 73 = .ok (.aload_n 0, 1) := by decide +kernel
theorem d_M_isWhole_74 : decode b_M_isWhole 74 = .ok (.dup, 1) := by decide +kernel
theorem d_M_isWhole_75 : decode b_M_isWhole 75 = .ok (.getfield 109, 3) := by decide +kernel
theorem d_M_isWhole_78 : decode b_M_isWhole 78 = .ok (.iconst 1, 1) := by decide +kernel
theorem d_M_isWhole_79 : decode b_M_isWhole 79 = .ok (.iadd, 1) := by decide +kernel
theorem d_M_isWhole_80 : decode b_M_isWhole 80 = .ok (.putfield 109, 3) := by decide +kernel
theorem d_M_isWhole_83 : decode b_M_isWhole 83 = .ok (.iload_n 3, 1) := by decide +kernel
theorem d_M_isWhole_84 : decode b_M_isWhole 84 = .ok (.ifCond .eq 14, 3) := by decide +kernel
theorem d_M_isWhole_87 : decode b_M_isWhole 87 = .ok (.iload_n 3, 1) := by decide +kernel
theorem d_M_isWhole_88 : decode b_M_isWhole 88 = .ok (.iconst 3, 1) := by decide +kernel
theorem d_M_isWhole_89 : decode b_M_isWhole 89 = .ok (.if_icmp .eq 9, 3) := by decide +kernel
theorem d_M_isWhole_92 : decode b_M_isWhole 92 = .ok (.iload_n 3, 1) := by decide +kernel
theorem d_M_isWhole_93 : decode b_M_isWhole 93 = .ok (.bipush 15, 2) := by decide +kernel
theorem d_M_isWhole_95 : decode b_M_isWhole 95 = .ok (.if_icmp .le 7, 3) := by decide +kernel
theorem d_M_isWhole_98 : decode b_M_isWhole 98 = .ok (.iconst 1, 1) := by decide +kernel
theorem d_M_isWhole_99 : decode b_M_isWhole 99 = .ok (.goto 4, 3) := by decide +kernel
theorem d_M_isWhole_102 : decode b_M_isWhole 102 = .ok (.iconst 0, 1) := by decide +kernel
theorem d_M_isWhole_103 : decode b_M_isWhole 103 = .ok (.istore 4, 2) := by decide +kernel
theorem d_M_isWhole_105 : decode b_M_isWhole 105 = .ok (.iload 4, 2) := by decide +kernel
theorem d_M_isWhole_107 : decode b_M_isWhole 107 = .ok (.ifCond .eq 13, 3) := by decide +kernel
theorem d_M_isWhole_110 : decode b_M_isWhole 110 = .ok (.iload_n 1, 1) := by decide +kernel
theorem d_M_isWhole_111 : decode b_M_isWhole 111 = .ok (.iconst 1, 1) := by decide +kernel
theorem d_M_isWhole_112 : decode b_M_isWhole 112 = .ok (.iadd, 1) := by decide +kernel
theorem d_M_isWhole_113 : decode b_M_isWhole 113 = .ok (.aload_n 0, 1) := by decide +kernel
theorem d_M_isWhole_114 : decode b_M_isWhole 114 = .ok (.getfield 104, 3) := by decide +kernel
theorem d_M_isWhole_117 : decode b_M_isWhole 117 = .ok (.if_icmp .ge 27, 3) := by decide +kernel
theorem d_M_isWhole_120 : decode b_M_isWhole 120 = .ok (.iload_n 3, 1) := by decide +kernel
theorem d_M_isWhole_121 : decode b_M_isWhole 121 = .ok (.ifCond .eq 25, 3) := by decide +kernel
theorem d_M_isWhole_124 : decode b_M_isWhole 124 = .ok (.iload 4, 2) := by decide +kernel
theorem d_M_isWhole_126 : decode b_M_isWhole 126 = .ok (.ifCond .eq 20, 3) := by decide +kernel
theorem d_M_isWhole_129 : decode b_M_isWhole 129 = .ok (.aload_n 0, 1) := by decide +kernel
theorem d_M_isWhole_130 : decode b_M_isWhole 130 = .ok (.getfield 59, 3) := by decide +kernel
theorem d_M_isWhole_133 : decode b_M_isWhole 133 = .ok (.iload_n 1, 1) := by decide +kernel
theorem d_M_isWhole_134 : decode b_M_isWhole 134 = .ok (.iconst 1, 1) := by decide +kernel
theorem d_M_isWhole_135 : decode b_M_isWhole 135 = .ok (.iadd, 1) := by decide +kernel
theorem d_M_isWhole_136 : decode b_M_isWhole 136 = .ok (.iaload, 1) := by decide +kernel
theorem d_M_isWhole_137 : decode b_M_isWhole 137 = .ok (.aload_n 0, 1) := by decide +kernel
theorem d_M_isWhole_138 : decode b_M_isWhole 138 = .ok (.getfield 94, 3) := by decide +kernel
theorem d_M_isWhole_141 : decode b_M_isWhole 141 = .ok (.if_icmp .lt 5, 3) := by decide +kernel
theorem d_M_isWhole_144 : decode b_M_isWhole 144 = .ok (.iconst 0, 1) := by decide +kernel
theorem d_M_isWhole_145 : decode b_M_isWhole 145 = .ok (.ireturn, 1) := by decide +kernel
theorem d_M_isWhole_146 : decode b_M_isWhole 146 = .ok (.iload 4, 2) := by decide +kernel
theorem d_M_isWhole_148 : decode b_M_isWhole 148 = .ok (.ifCond .eq 9, 3) := by decide +kernel
theorem d_M_isWhole_151 : decode b_M_isWhole 151 = .ok (.iload_n 1, 1) := by decide +kernel
theorem d_M_isWhole_152 : decode b_M_isWhole 152 = .ok (.iconst 2, 1) := by decide +kernel
theorem d_M_isWhole_153 : decode b_M_isWhole 153 = .ok (.iadd, 1) := by decide +kernel
theorem d_M_isWhole_154 : decode b_M_isWhole 154 = .ok (.goto 6, 3) := by decide +kernel
theorem d_M_isWhole_157 : decode b_M_isWhole 157 = .ok (.iload_n 1, 1) := by decide +kernel
theorem d_M_isWhole_158 : decode b_M_isWhole 158 = .ok (.iconst 1, 1) := by decide +kernel
theorem d_M_isWhole_159 : decode b_M_isWhole 159 = .ok (.iadd, 1) := by decide +kernel
theorem d_M_isWhole_160 : decode b_M_isWhole 160 = .ok (.istore_n 1, 1) := by decide +kernel
theorem d_M_isWhole_161 : decode b_M_isWhole 161 = .ok (.iconst 0, 1) := by decide +kernel
theorem d_M_isWhole_162 : decode b_M_isWhole 162 = .ok (.istore 5, 2) := by decide +kernel
theorem d_M_isWhole_164 : decode b_M_isWhole 164 = .ok (.iload 5, 2) := by decide +kernel
theorem d_M_isWhole_166 : decode b_M_isWhole 166 = .ok (.iload_n 3, 1) := by decide +kernel
theorem d_M_isWhole_167 : decode b_M_isWhole 167 = .ok (.invokestatic 120, 3) := by decide +kernel
theorem d_M_isWhole_170 : decode b_M_isWhole 170 = .ok (.if_icmp .ge 16, 3) := by decide +kernel
theorem d_M_isWhole_173 : decode b_M_isWhole 173 = .ok (.aload_n 0, 1) := by decide +kernel
theorem d_M_isWhole_174 : decode b_M_isWhole 174 = .ok (.iload_n 2, 1) := by decide +kernel
theorem d_M_isWhole_175 : decode b_M_isWhole 175 = .ok (.iconst 1, 1) := by decide +kernel
theorem d_M_isWhole_176 : decode b_M_isWhole 176 = .ok (.iadd, 1) := by decide +kernel
theorem d_M_isWhole_177 : decode b_M_isWhole 177 = .ok (.invokevirtual 112, 3) := by decide +kernel
theorem d_M_isWhole_180 : decode b_M_isWhole 180 = .ok (.iinc 5 1, 3) := by decide +kernel
theorem d_M_isWhole_183 : decode b_M_isWhole 183 = .ok (.goto (-19), 3) := by decide +kernel
theorem d_M_isWhole_186 : decode b_M_isWhole 186 = .ok (.goto (-169), 3) := by decide +kernel
theorem d_M_isWhole_189 : decode b_M_isWhole 189 = .ok (.iload_n 1, 1) := by decide +kernel
theorem d_M_isWhole_190 : decode b_M_isWhole 190 = .ok (.aload_n 0, 1) := by decide +kernel
theorem d_M_isWhole_191 : decode b_M_isWhole 191 = .ok (.getfield 104, 3) := by decide +kernel
theorem d_M_isWhole_194 : decode b_M_isWhole 194 = .ok (.if_icmp .ne 7, 3) := by decide +kernel
theorem d_M_isWhole_197 : decode b_M_isWhole 197 = .ok (.iconst 1, 1) := by decide +kernel
theorem d_M_isWhole_198 : decode b_M_isWhole 198 = .ok (.goto 4, 3) := by decide +kernel
theorem d_M_isWhole_201 : decode b_M_isWhole 201 = .ok (.iconst 0, 1) := by decide +kernel
theorem d_M_isWhole_202 : decode b_M_isWhole 202 = .ok (.ireturn, 1) := by decide +kernel
theorem m_M_isWhole : fk_MI y_M_isWhole b_M_isWhole 6 (some .boolean) 0 := ⟨i_748, i_747, fk_mp (q := (y_M_isWhole, 31)) (by decide +kernel), i_8, by decide +kernel⟩
set_option maxHeartbeats 4000000 in
set_option maxRecDepth 100000 in
theorem c_M_isWhole (l : Launch) (g : fk_G) (ov : Int64) (M : fk_M) (bf : Nat → Nat) (n cnt : Nat) (hn40 : n ≤ 40) (h12 : cnt ≤ 12) (hn : M 89 19 = nI n) (hcnt : M 89 1 = nI cnt) (hb : ∀ j, j < n → M 106 j = nI (bf j)) (hb2 : ∀ j, j < n → bf j < 256) : fk_CI l y_M_isWhole b_M_isWhole 6 (some .boolean) (fk_rm 1) g ov M (fk_wm M (fk_iw bf n cnt 42 (upd (M 109) 0 (nI 0)) 1 (M 107) 0 0).2.1 (fk_iw bf n cnt 42 (upd (M 109) 0 (nI 0)) 1 (M 107) 0 0).2.2.1 (fk_iw bf n cnt 42 (upd (M 109) 0 (nI 0)) 1 (M 107) 0 0).2.2.2.1 (fk_iw bf n cnt 42 (upd (M 109) 0 (nI 0)) 1 (M 107) 0 0).2.2.2.2) [.ref (fk_a g 89)] (nI (fk_iw bf n cnt 42 (upd (M 109) 0 (nI 0)) 1 (M 107) 0 0).1.toNat) := by
  refine fk_ofI rfl (Nat.le_of_ble_eq_true rfl) ?_
  intro p e s m args below meth c ls S hr hlk E G hl
  have hl : lv_has ls 6 [(0, .ref (fk_a g 89))] := hl
  refine lv_aload_n S.1 S.2.1 d_M_isWhole_0 rfl (lv_at hl 0 rfl) ?_
  refine lv_iconst (v := nI 0) S.1 S.2.1 d_M_isWhole_1 (by decide +kernel) ?_
  refine fk_pf S E G 89 (by decide) (congrArg (fk_ce g ov 89 (M 89)) kd_89) rfl 21 (by decide) rfl i_643 (upd (M 89) 21 (nI 0)) (congrArg (fk_ce g ov 89 (upd (M 89) 21 (nI 0))) kd_89) rfl (ty := (.int)) (by decide +kernel) rfl rfl (Nat.le_of_ble_eq_true rfl) d_M_isWhole_2 (fun H locs G => ?_)
  obtain ⟨M1, hM1⟩ : ∃ z : fk_M, z = va_up M 89 (upd (M 89) 21 (nI 0)) := ⟨_, rfl⟩
  rw [← hM1] at G
  refine lv_aload_n S.1 S.2.1 d_M_isWhole_5 rfl (lv_at hl 0 rfl) ?_
  refine lv_iconst (v := nI 0) S.1 S.2.1 d_M_isWhole_6 (by decide +kernel) ?_
  refine fk_pf S E G 89 (by decide) (congrArg (fk_ce g ov 89 (M1 89)) kd_89) rfl 29 (by decide) rfl i_651 (upd (M1 89) 29 (nI 0)) (congrArg (fk_ce g ov 89 (upd (M1 89) 29 (nI 0))) kd_89) rfl (ty := (.int)) (by decide +kernel) rfl rfl (Nat.le_of_ble_eq_true rfl) d_M_isWhole_7 (fun H locs G => ?_)
  obtain ⟨M2, hM2⟩ : ∃ z : fk_M, z = va_up M1 89 (upd (M1 89) 29 (nI 0)) := ⟨_, rfl⟩
  rw [← hM2] at G
  refine lv_aload_n S.1 S.2.1 d_M_isWhole_10 rfl (lv_at hl 0 rfl) ?_
  refine lv_iconst (v := nI 0) S.1 S.2.1 d_M_isWhole_11 (by decide +kernel) ?_
  have t0 : M2 89 29 = nI 0 := by rw [hM2, va_up_self, pk_us]
  refine fk_cvv S E G 89 (by decide) (congrArg (fk_ce g ov 89 (M2 89)) kd_89) rfl (rest := []) (c_M_push l g ov M2 0 t0 (by decide) (nI 0)) m_M_push i_749 ⟨rfl, rfl⟩ ⟨by decide, by decide⟩ rfl rfl hl.1 (Nat.le_of_ble_eq_true rfl) d_M_isWhole_12 ⟨Nat.zero_le _, Nat.zero_le _⟩ (fun H locs G => ?_)
  refine lv_iconst (v := nI 0) S.1 S.2.1 d_M_isWhole_15 (by decide +kernel) ?_
  refine lv_istore_n (lv' := [(1, .int (nI 0)), (0, .ref (fk_a g 89))]) S.1 S.2.1 d_M_isWhole_16 rfl hl (by decide) rfl (fun ls hl => ?_)
  have hc0 : fk_CC M M2 (M 109) 0 (M 107) 0 := by
    rw [hM2, hM1]
    refine ⟨rfl, rfl, by rw [va_up_self, pk_us], by rw [va_up_self, pk_un (by decide), va_up_self, pk_us], fun j j1 j2 => by rw [va_up_self, pk_un j1, va_up_self, pk_un j2], fun k k1 k2 k3 => by rw [va_up_ne _ _ k1, va_up_ne _ _ k1]⟩
  have hc1 := hc0.push (nI 0)
  have hIL1 : fk_IL (upd (M 109) 0 (nI 0)) 1 := ⟨[11], rfl, ⟨by decide, trivial⟩, fun q hq => by rw [List.mem_singleton.mp hq]; omega, fun j hj => by
    have hj0 : j = 0 := by omega
    subst hj0
    rw [pk_us]
    rfl⟩
  have loop : ∀ (d : Nat) (S9 : Nat → Int32) (t : Nat) (St : Nat → Int32) (f i : Nat) (Mc : fk_M) (H : Heap) (locs : List Loc) (ls : Array Slot), 42 ≤ i + d → i ≤ n → f ≤ i → fk_IL S9 t → fk_CC M Mc S9 t St f → fk_iw bf n cnt d S9 t St f i = fk_iw bf n cnt 42 (upd (M 109) 0 (nI 0)) 1 (M 107) 0 0 → fk_H g ov (Mc) s H locs → lv_has ls 6 [(1, .int (nI i)), (0, .ref (fk_a g 89))] → W p l e (fk_rm (1)) s m args below meth c H locs 0 0 (MQ below (va_Qi (fun rr (_ : Unit) => rr = nI (fk_iw bf n cnt 42 (upd (M 109) 0 (nI 0)) 1 (M 107) 0 0).1.toNat) (fun _ t9 => fk_Wd g ov (fk_wm M (fk_iw bf n cnt 42 (upd (M 109) 0 (nI 0)) 1 (M 107) 0 0).2.1 (fk_iw bf n cnt 42 (upd (M 109) 0 (nI 0)) 1 (M 107) 0 0).2.2.1 (fk_iw bf n cnt 42 (upd (M 109) 0 (nI 0)) 1 (M 107) 0 0).2.2.2.1 (fk_iw bf n cnt 42 (upd (M 109) 0 (nI 0)) 1 (M 107) 0 0).2.2.2.2) t9) (fk_A g)) args s 0 0 (fk_A g)) (F0 m 17 ls []) := by
    intro d
    induction d with
    | zero =>
      intro S9 t St f i Mc H locs ls hv0 hv1 hv2 hv3 hv4 hv5 G hl
      exact absurd hv0 (by omega)
    | succ d ih =>
      intro S9 t St f i Mc H locs ls hv0 hv1 hv2 hv3 hv4 hv5 G hl
      obtain ⟨c1, c2, c3, c4, c5, c6⟩ := hv4
      have hv4 : fk_CC M Mc S9 t St f := ⟨c1, c2, c3, c4, c5, c6⟩
      rw [fk_iw_S] at hv5
      refine lv_aload_n S.1 S.2.1 d_M_isWhole_17 rfl (lv_at hl 1 rfl) ?_
      refine fk_gf S E G 89 (by decide) (v := .int (Mc 89 29)) (congrArg (fk_ce g ov 89 (Mc 89)) kd_89) rfl 29 (by decide) rfl i_651 rfl d_M_isWhole_18 ?_
      rw [c3]
      refine fk_zle (tgt := 189) S.1 S.2.1 (by obtain ⟨L, z1, z2, -⟩ := hv3; have := fk_Dp_len z2; omega) d_M_isWhole_21 rfl (fun hc3 => ?_) (fun hc3 => ?_)
      · rw [if_pos hc3] at hv5
        refine lv_iload_n S.1 S.2.1 d_M_isWhole_189 rfl (lv_at hl 0 rfl) ?_
        refine lv_aload_n S.1 S.2.1 d_M_isWhole_190 rfl (lv_at hl 1 rfl) ?_
        refine fk_gf S E G 89 (by decide) (v := .int (Mc 89 19)) (congrArg (fk_ce g ov 89 (Mc 89)) kd_89) rfl 19 (by decide) rfl i_641 rfl d_M_isWhole_191 ?_
        rw [c5 19 (by decide) (by decide), hn]
        refine fk_cne (tgt := 201) S.1 S.2.1 (by omega) (by omega) d_M_isWhole_194 rfl (fun hc4 => ?_) (fun hc4 => ?_)
        · refine lv_iconst (v := nI 0) S.1 S.2.1 d_M_isWhole_201 (by decide +kernel) ?_
          exact fk_zret S hr hlk E G (by rw [← hv5]; exact hv4.eq) (by rw [← hv5]; exact fk_b0 (decide_eq_false hc4)) (fk_bz _) d_M_isWhole_202
        · refine lv_iconst (v := nI 1) S.1 S.2.1 d_M_isWhole_197 (by decide +kernel) ?_
          refine lv_goto (tgt := 202) S.1 S.2.1 d_M_isWhole_198 rfl ?_
          exact fk_zret S hr hlk E G (by rw [← hv5]; exact hv4.eq) (by rw [← hv5]; exact fk_b1 (decide_eq_true hc4)) (fk_bz _) d_M_isWhole_202
      · obtain ⟨u, rfl⟩ : ∃ u, t = u + 1 := ⟨t - 1, by omega⟩
        rw [if_neg (by omega), Nat.add_sub_cancel] at hv5
        obtain ⟨r, hr11, hSu, hur, hIL⟩ := fk_IL_top hv3
        have hdp : (S9 u).toNatClampNeg = 11 - r := by rw [hSu, nI_clamp (by omega)]
        rw [hdp] at hv5
        refine lv_aload_n S.1 S.2.1 d_M_isWhole_24 rfl (lv_at hl 1 rfl) ?_
        refine fk_cvi S E G 89 (by decide) (congrArg (fk_ce g ov 89 (Mc 89)) kd_89) rfl (rest := []) (show fk_CI _ _ _ _ _ _ _ _ _ _ _ (nI (11 - r)) from by have h9 := c_M_pop l g ov Mc u c3 (by omega); rw [c1, hSu] at h9; exact h9) m_M_pop i_753 ⟨rfl, rfl⟩ ⟨by decide, by decide⟩ rfl rfl hl.1 (Nat.le_of_ble_eq_true rfl) d_M_isWhole_25 ⟨Nat.zero_le _, Nat.zero_le _⟩ (fun H locs G => ?_)
        obtain ⟨M2, hM2⟩ : ∃ z : fk_M, z = fk_po Mc u := ⟨_, rfl⟩
        rw [← hM2] at G
        have hc2 : fk_CC M M2 S9 u St f := by rw [hM2]; exact hv4.pop
        obtain ⟨p1, p2, p3, p4, p5, p6⟩ := hc2
        have hc2 : fk_CC M M2 S9 u St f := ⟨p1, p2, p3, p4, p5, p6⟩
        refine lv_istore_n (lv' := [(2, .int (nI (11 - r))), (1, .int (nI i)), (0, .ref (fk_a g 89))]) S.1 S.2.1 d_M_isWhole_28 rfl hl (by decide) rfl (fun ls hl => ?_)
        refine lv_iload_n S.1 S.2.1 d_M_isWhole_29 rfl (lv_at hl 0 rfl) ?_
        refine lv_bipush (v := nI 10) S.1 S.2.1 d_M_isWhole_30 (by decide +kernel) ?_
        refine fk_cgt (tgt := 54) S.1 S.2.1 (by omega) (by omega) d_M_isWhole_32 rfl (fun hc5 => ?_) (fun hc5 => ?_)
        · rw [if_pos (Or.inl hc5)] at hv5
          refine lv_iconst (v := nI 0) S.1 S.2.1 d_M_isWhole_54 (by decide +kernel) ?_
          exact fk_zret S hr hlk E G (by rw [← hv5]; exact hc2.eq) (by rw [← hv5]; rfl) (fk_bz _) d_M_isWhole_55
        · refine lv_iload_n S.1 S.2.1 d_M_isWhole_35 rfl (lv_at hl 1 rfl) ?_
          refine lv_aload_n S.1 S.2.1 d_M_isWhole_36 rfl (lv_at hl 2 rfl) ?_
          refine fk_gf S E G 89 (by decide) (v := .int (M2 89 19)) (congrArg (fk_ce g ov 89 (M2 89)) kd_89) rfl 19 (by decide) rfl i_641 rfl d_M_isWhole_37 ?_
          rw [p5 19 (by decide) (by decide), hn]
          refine fk_cge (tgt := 54) S.1 S.2.1 (by omega) (by omega) d_M_isWhole_40 rfl (fun hc6 => ?_) (fun hc6 => ?_)
          · rw [if_pos (Or.inr (Or.inl hc6))] at hv5
            refine lv_iconst (v := nI 0) S.1 S.2.1 d_M_isWhole_54 (by decide +kernel) ?_
            exact fk_zret S hr hlk E G (by rw [← hv5]; exact hc2.eq) (by rw [← hv5]; rfl) (fk_bz _) d_M_isWhole_55
          · have hbi := hb2 i (by omega)
            have hd106 : M2 106 = M 106 := p6 106 (by decide) (by decide) (by decide)
            refine lv_aload_n S.1 S.2.1 d_M_isWhole_43 rfl (lv_at hl 2 rfl) ?_
            refine fk_gf S E G 89 (by decide) (v := .ref (fk_a g 106)) (congrArg (fk_ce g ov 89 (M2 89)) kd_89) rfl 18 (by decide) rfl i_640 rfl d_M_isWhole_44 ?_
            refine lv_iload_n S.1 S.2.1 d_M_isWhole_47 rfl (lv_at hl 1 rfl) ?_
            refine fk_ia S E G 106 (by decide) (congrArg (fk_ce g ov 106 (M2 106)) kd_106) i rfl (by omega) (by decide) (v := nI (bf i)) (by rw [hd106]; exact hb i (by omega)) d_M_isWhole_48 ?_
            refine lv_bipush (v := nI 18) S.1 S.2.1 d_M_isWhole_49 (by decide +kernel) ?_
            refine fk_cle (tgt := 56) S.1 S.2.1 (by omega) (by omega) d_M_isWhole_51 rfl (fun hc7 => ?_) (fun hc7 => ?_)
            · rw [if_neg (show ¬ (10 < 11 - r ∨ n ≤ i ∨ 18 < bf i) by omega)] at hv5
              have hp2 := fk_hd_pos (bf i)
              refine lv_aload_n S.1 S.2.1 d_M_isWhole_56 rfl (lv_at hl 2 rfl) ?_
              refine fk_gf S E G 89 (by decide) (v := .ref (fk_a g 106)) (congrArg (fk_ce g ov 89 (M2 89)) kd_89) rfl 18 (by decide) rfl i_640 rfl d_M_isWhole_57 ?_
              refine lv_iload_n S.1 S.2.1 d_M_isWhole_60 rfl (lv_at hl 1 rfl) ?_
              refine fk_ia S E G 106 (by decide) (congrArg (fk_ce g ov 106 (M2 106)) kd_106) i rfl (by omega) (by decide) (v := nI (bf i)) (by rw [hd106]; exact hb i (by omega)) d_M_isWhole_61 ?_
              refine lv_istore_n (lv' := [(3, .int (nI (bf i))), (2, .int (nI (11 - r))), (1, .int (nI i)), (0, .ref (fk_a g 89))]) S.1 S.2.1 d_M_isWhole_62 rfl hl (by decide) rfl (fun ls hl => ?_)
              refine lv_aload_n S.1 S.2.1 d_M_isWhole_63 rfl (lv_at hl 3 rfl) ?_
              refine fk_gf S E G 89 (by decide) (v := .ref (fk_a g 107)) (congrArg (fk_ce g ov 89 (M2 89)) kd_89) rfl 20 (by decide) rfl i_642 rfl d_M_isWhole_64 ?_
              refine lv_aload_n S.1 S.2.1 d_M_isWhole_67 rfl (lv_at hl 3 rfl) ?_
              refine fk_gf S E G 89 (by decide) (v := .int (M2 89 21)) (congrArg (fk_ce g ov 89 (M2 89)) kd_89) rfl 21 (by decide) rfl i_643 rfl d_M_isWhole_68 ?_
              rw [p4]
              refine lv_iload_n S.1 S.2.1 d_M_isWhole_71 rfl (lv_at hl 2 rfl) ?_
              refine fk_is S E G 107 (by decide) (fun r => congrArg (fk_ce g ov 107 r) kd_107) f rfl (by omega) (by decide) d_M_isWhole_72 (fun H locs G => ?_)
              obtain ⟨M8, hM8⟩ : ∃ z : fk_M, z = va_up M2 107 (upd (M2 107) f (nI i)) := ⟨_, rfl⟩
              rw [← hM8] at G
              have hc3 := hc2.start (nI i)
              rw [← hM8] at hc3
              obtain ⟨q1, q2, q3, q4, q5, q6⟩ := hc3
              have hc3 : fk_CC M M8 S9 u (upd St f (nI i)) f := ⟨q1, q2, q3, q4, q5, q6⟩
              refine lv_aload_n S.1 S.2.1 d_M_isWhole_73 rfl (lv_at hl 3 rfl) ?_
              refine lv_dup S.1 S.2.1 d_M_isWhole_74 rfl ?_
              refine fk_gf S E G 89 (by decide) (v := .int (M8 89 21)) (congrArg (fk_ce g ov 89 (M8 89)) kd_89) rfl 21 (by decide) rfl i_643 rfl d_M_isWhole_75 ?_
              rw [q4]
              refine lv_iconst (v := nI 1) S.1 S.2.1 d_M_isWhole_78 (by decide +kernel) ?_
              refine fk_iadd S.1 S.2.1 d_M_isWhole_79 ?_
              refine fk_pf S E G 89 (by decide) (congrArg (fk_ce g ov 89 (M8 89)) kd_89) rfl 21 (by decide) rfl i_643 (upd (M8 89) 21 (nI (f + 1))) (congrArg (fk_ce g ov 89 (upd (M8 89) 21 (nI (f + 1)))) kd_89) rfl (ty := (.int)) (by decide +kernel) rfl rfl (Nat.le_of_ble_eq_true rfl) d_M_isWhole_80 (fun H locs G => ?_)
              obtain ⟨M9, hM9⟩ : ∃ z : fk_M, z = va_up M8 89 (upd (M8 89) 21 (nI (f + 1))) := ⟨_, rfl⟩
              rw [← hM9] at G
              have hc4 := hc3.found (f + 1)
              rw [← hM9] at hc4
              obtain ⟨w1, w2, w3, w4, w5, w6⟩ := hc4
              have hc4 : fk_CC M M9 S9 u (upd St f (nI i)) (f + 1) := ⟨w1, w2, w3, w4, w5, w6⟩
              have e106 : M9 106 = M 106 := w6 106 (by decide) (by decide) (by decide)
              have har := fk_ar_le (bf i)
              have good : 1 ≤ r → i + fk_hd (bf i) ≤ n → fk_iw bf n cnt d (fk_sp (nI (11 - r + 1)) (fk_ar (bf i)) u S9) (u + fk_ar (bf i)) (upd St f (nI i)) (f + 1) (i + fk_hd (bf i)) = fk_iw bf n cnt 42 (upd (M 109) 0 (nI 0)) 1 (M 107) 0 0 → ∀ (vm : Nat) (H : Heap) (locs : List Loc) (ls : Array Slot), vm + 1 = fk_hd (bf i) → fk_H g ov M9 s H locs → lv_has ls 6 [(4, .int (nI vm)), (3, .int (nI (bf i))), (2, .int (nI (11 - r))), (1, .int (nI i)), (0, .ref (fk_a g 89))] → W p l e (fk_rm (1)) s m args below meth c H locs 0 0 (MQ below (va_Qi (fun rr (_ : Unit) => rr = nI (fk_iw bf n cnt 42 (upd (M 109) 0 (nI 0)) 1 (M 107) 0 0).1.toNat) (fun _ t9 => fk_Wd g ov (fk_wm M (fk_iw bf n cnt 42 (upd (M 109) 0 (nI 0)) 1 (M 107) 0 0).2.1 (fk_iw bf n cnt 42 (upd (M 109) 0 (nI 0)) 1 (M 107) 0 0).2.2.1 (fk_iw bf n cnt 42 (upd (M 109) 0 (nI 0)) 1 (M 107) 0 0).2.2.2.1 (fk_iw bf n cnt 42 (upd (M 109) 0 (nI 0)) 1 (M 107) 0 0).2.2.2.2) t9) (fk_A g)) args s 0 0 (fk_A g)) (F0 m 146 ls []) := by
                intro hr1 hin hv6 vm H locs ls hvm G hl
                have hILn := hIL (fk_ar (bf i)) har hr1
                have inner : ∀ (d2 q : Nat) (S8 : Nat → Int32) (u8 : Nat) (Md : fk_M) (H : Heap) (locs : List Loc) (ls : Array Slot), q + d2 = fk_ar (bf i) → u8 + d2 ≤ 30 → fk_CC M Md S8 u8 (upd St f (nI i)) (f + 1) → fk_sp (nI (11 - r + 1)) d2 u8 S8 = fk_sp (nI (11 - r + 1)) (fk_ar (bf i)) u S9 → u8 + d2 = u + fk_ar (bf i) → fk_H g ov Md s H locs → lv_has ls 6 [(5, .int (nI q)), (1, .int (nI (i + fk_hd (bf i)))), (4, .int (nI vm)), (3, .int (nI (bf i))), (2, .int (nI (11 - r))), (0, .ref (fk_a g 89))] → W p l e (fk_rm (1)) s m args below meth c H locs 0 0 (MQ below (va_Qi (fun rr (_ : Unit) => rr = nI (fk_iw bf n cnt 42 (upd (M 109) 0 (nI 0)) 1 (M 107) 0 0).1.toNat) (fun _ t9 => fk_Wd g ov (fk_wm M (fk_iw bf n cnt 42 (upd (M 109) 0 (nI 0)) 1 (M 107) 0 0).2.1 (fk_iw bf n cnt 42 (upd (M 109) 0 (nI 0)) 1 (M 107) 0 0).2.2.1 (fk_iw bf n cnt 42 (upd (M 109) 0 (nI 0)) 1 (M 107) 0 0).2.2.2.1 (fk_iw bf n cnt 42 (upd (M 109) 0 (nI 0)) 1 (M 107) 0 0).2.2.2.2) t9) (fk_A g)) args s 0 0 (fk_A g)) (F0 m 164 ls []) := by
                  intro d2
                  induction d2 with
                  | zero =>
                    intro q S8 u8 Md H locs ls hy0 hy1 hy2 hy3 hy4 G hl
                    refine lv_iload S.1 S.2.1 d_M_isWhole_164 (lv_at hl 0 rfl) ?_
                    refine lv_iload_n S.1 S.2.1 d_M_isWhole_166 rfl (lv_at hl 3 rfl) ?_
                    refine fk_csi S E G (rest := [.int (nI q)]) (c_M_many l g ov Md (bf i) (by omega)) m_M_many i_757 ⟨rfl, rfl⟩ ⟨by decide, by decide⟩ rfl rfl hl.1 (Nat.le_of_ble_eq_true rfl) d_M_isWhole_167 ⟨Nat.zero_le _, Nat.zero_le _⟩ (fun H locs G => ?_)
                    refine fk_cge (tgt := 186) S.1 S.2.1 (by omega) (by omega) d_M_isWhole_170 rfl (fun hc10 => ?_) (fun hc10 => ?_)
                    · refine lv_goto (tgt := 17) S.1 S.2.1 d_M_isWhole_186 rfl ?_
                      have hS8 : S8 = fk_sp (nI (11 - r + 1)) (fk_ar (bf i)) u S9 := hy3
                      have hu8 : u8 = u + fk_ar (bf i) := hy4
                      exact ih S8 u8 (upd St f (nI i)) (f + 1) (i + fk_hd (bf i)) Md H locs ls (by omega) hin (by omega) (by rw [hS8, hu8]; exact hILn) hy2 (by rw [hS8, hu8]; exact hv6) G (lv_sub hl [1, 5] rfl)
                    · exact absurd hy0 (by omega)
                  | succ d2 ih2 =>
                    intro q S8 u8 Md H locs ls hy0 hy1 hy2 hy3 hy4 G hl
                    refine lv_iload S.1 S.2.1 d_M_isWhole_164 (lv_at hl 0 rfl) ?_
                    refine lv_iload_n S.1 S.2.1 d_M_isWhole_166 rfl (lv_at hl 3 rfl) ?_
                    refine fk_csi S E G (rest := [.int (nI q)]) (c_M_many l g ov Md (bf i) (by omega)) m_M_many i_757 ⟨rfl, rfl⟩ ⟨by decide, by decide⟩ rfl rfl hl.1 (Nat.le_of_ble_eq_true rfl) d_M_isWhole_167 ⟨Nat.zero_le _, Nat.zero_le _⟩ (fun H locs G => ?_)
                    refine fk_cge (tgt := 186) S.1 S.2.1 (by omega) (by omega) d_M_isWhole_170 rfl (fun hc11 => ?_) (fun hc11 => ?_)
                    · exact absurd hy0 (by omega)
                    · refine lv_aload_n S.1 S.2.1 d_M_isWhole_173 rfl (lv_at hl 5 rfl) ?_
                      refine lv_iload_n S.1 S.2.1 d_M_isWhole_174 rfl (lv_at hl 4 rfl) ?_
                      refine lv_iconst (v := nI 1) S.1 S.2.1 d_M_isWhole_175 (by decide +kernel) ?_
                      refine fk_iadd S.1 S.2.1 d_M_isWhole_176 ?_
                      refine fk_cvv S E G 89 (by decide) (congrArg (fk_ce g ov 89 (Md 89)) kd_89) rfl (rest := []) (c_M_push l g ov Md u8 hy2.2.2.1 (by omega) (nI (11 - r + 1))) m_M_push i_749 ⟨rfl, rfl⟩ ⟨by decide, by decide⟩ rfl rfl hl.1 (Nat.le_of_ble_eq_true rfl) d_M_isWhole_177 ⟨Nat.zero_le _, Nat.zero_le _⟩ (fun H locs G => ?_)
                      refine lv_iinc (k := 0) (v := nI (q + 1)) (lv' := [(5, .int (nI (q + 1))), (1, .int (nI (i + fk_hd (bf i)))), (4, .int (nI vm)), (3, .int (nI (bf i))), (2, .int (nI (11 - r))), (0, .ref (fk_a g 89))]) S.1 S.2.1 d_M_isWhole_180 hl rfl (nI_1 q) (by decide) rfl (fun ls hl => ?_)
                      refine lv_goto (tgt := 164) S.1 S.2.1 d_M_isWhole_183 rfl ?_
                      exact ih2 (q + 1) _ (u8 + 1) _ H locs ls (by omega) (by omega) (hy2.push _) hy3 (by omega) G (lv_sub hl [0, 1, 2, 3, 4, 5] rfl)
                refine lv_iload S.1 S.2.1 d_M_isWhole_146 (lv_at hl 0 rfl) ?_
                refine fk_zeq (tgt := 157) S.1 S.2.1 (by omega) d_M_isWhole_148 rfl (fun hc12 => ?_) (fun hc12 => ?_)
                · refine lv_iload_n S.1 S.2.1 d_M_isWhole_157 rfl (lv_at hl 3 rfl) ?_
                  refine lv_iconst (v := nI 1) S.1 S.2.1 d_M_isWhole_158 (by decide +kernel) ?_
                  refine fk_iadd S.1 S.2.1 d_M_isWhole_159 ?_
                  refine lv_istore_n (lv' := [(1, .int (nI (i + 1))), (4, .int (nI vm)), (3, .int (nI (bf i))), (2, .int (nI (11 - r))), (0, .ref (fk_a g 89))]) S.1 S.2.1 d_M_isWhole_160 rfl hl (by decide) rfl (fun ls hl => ?_)
                  refine lv_iconst (v := nI 0) S.1 S.2.1 d_M_isWhole_161 (by decide +kernel) ?_
                  refine lv_istore (lv' := [(5, .int (nI 0)), (1, .int (nI (i + 1))), (4, .int (nI vm)), (3, .int (nI (bf i))), (2, .int (nI (11 - r))), (0, .ref (fk_a g 89))]) S.1 S.2.1 d_M_isWhole_162 hl (by decide) rfl (fun ls hl => ?_)
                  rw [show i + 1 = i + fk_hd (bf i) by omega] at hl
                  exact inner (fk_ar (bf i)) 0 S9 u M9 H locs ls (by omega) (by omega) hc4 rfl rfl G (lv_sub hl [0, 1, 2, 3, 4, 5] rfl)
                · refine lv_iload_n S.1 S.2.1 d_M_isWhole_151 rfl (lv_at hl 3 rfl) ?_
                  refine lv_iconst (v := nI 2) S.1 S.2.1 d_M_isWhole_152 (by decide +kernel) ?_
                  refine fk_iadd S.1 S.2.1 d_M_isWhole_153 ?_
                  refine lv_goto (tgt := 160) S.1 S.2.1 d_M_isWhole_154 rfl ?_
                  refine lv_istore_n (lv' := [(1, .int (nI (i + 2))), (4, .int (nI vm)), (3, .int (nI (bf i))), (2, .int (nI (11 - r))), (0, .ref (fk_a g 89))]) S.1 S.2.1 d_M_isWhole_160 rfl hl (by decide) rfl (fun ls hl => ?_)
                  refine lv_iconst (v := nI 0) S.1 S.2.1 d_M_isWhole_161 (by decide +kernel) ?_
                  refine lv_istore (lv' := [(5, .int (nI 0)), (1, .int (nI (i + 2))), (4, .int (nI vm)), (3, .int (nI (bf i))), (2, .int (nI (11 - r))), (0, .ref (fk_a g 89))]) S.1 S.2.1 d_M_isWhole_162 hl (by decide) rfl (fun ls hl => ?_)
                  rw [show i + 2 = i + fk_hd (bf i) by omega] at hl
                  exact inner (fk_ar (bf i)) 0 S9 u M9 H locs ls (by omega) (by omega) hc4 rfl rfl G (lv_sub hl [0, 1, 2, 3, 4, 5] rfl)
              refine lv_iload_n S.1 S.2.1 d_M_isWhole_83 rfl (lv_at hl 0 rfl) ?_
              refine fk_zeq (tgt := 98) S.1 S.2.1 (by omega) d_M_isWhole_84 rfl (fun hc13 => ?_) (fun hc13 => ?_)
              · refine lv_iconst (v := nI 1) S.1 S.2.1 d_M_isWhole_98 (by decide +kernel) ?_
                refine lv_goto (tgt := 103) S.1 S.2.1 d_M_isWhole_99 rfl ?_
                refine lv_istore (lv' := [(4, .int (nI 1)), (3, .int (nI (bf i))), (2, .int (nI (11 - r))), (1, .int (nI i)), (0, .ref (fk_a g 89))]) S.1 S.2.1 d_M_isWhole_103 hl (by decide) rfl (fun ls hl => ?_)
                have hd2 : fk_hd (bf i) = 2 := by unfold fk_hd; rw [if_pos (Or.inl hc13)]
                refine lv_iload S.1 S.2.1 d_M_isWhole_105 (lv_at hl 0 rfl) ?_
                refine fk_zeq (tgt := 120) S.1 S.2.1 (by omega) d_M_isWhole_107 rfl (fun hc14 => ?_) (fun hc14 => ?_)
                · exact absurd hc14 (by decide)
                · refine lv_iload_n S.1 S.2.1 d_M_isWhole_110 rfl (lv_at hl 3 rfl) ?_
                  refine lv_iconst (v := nI 1) S.1 S.2.1 d_M_isWhole_111 (by decide +kernel) ?_
                  refine fk_iadd S.1 S.2.1 d_M_isWhole_112 ?_
                  refine lv_aload_n S.1 S.2.1 d_M_isWhole_113 rfl (lv_at hl 4 rfl) ?_
                  refine fk_gf S E G 89 (by decide) (v := .int (M9 89 19)) (congrArg (fk_ce g ov 89 (M9 89)) kd_89) rfl 19 (by decide) rfl i_641 rfl d_M_isWhole_114 ?_
                  rw [w5 19 (by decide) (by decide), hn]
                  refine fk_cge (tgt := 144) S.1 S.2.1 (by omega) (by omega) d_M_isWhole_117 rfl (fun hc15 => ?_) (fun hc15 => ?_)
                  · rw [if_pos (Or.inl ⟨hd2, hc15⟩)] at hv5
                    refine lv_iconst (v := nI 0) S.1 S.2.1 d_M_isWhole_144 (by decide +kernel) ?_
                    exact fk_zret S hr hlk E G (by rw [← hv5]; exact hc4.eq) (by rw [← hv5]; rfl) (fk_bz _) d_M_isWhole_145
                  · refine lv_iload_n S.1 S.2.1 d_M_isWhole_120 rfl (lv_at hl 1 rfl) ?_
                    refine fk_zeq (tgt := 146) S.1 S.2.1 (by omega) d_M_isWhole_121 rfl (fun hc16 => ?_) (fun hc16 => ?_)
                    · rw [if_neg (fun q => q.elim (fun q => by omega) (fun q => by omega))] at hv5
                      exact good (by omega) (by omega) hv5 1 _ _ ls (by omega) G (lv_sub hl [0, 1, 2, 3, 4] rfl)
                    · exact absurd hc16 (by omega)
              · refine lv_iload_n S.1 S.2.1 d_M_isWhole_87 rfl (lv_at hl 0 rfl) ?_
                refine lv_iconst (v := nI 3) S.1 S.2.1 d_M_isWhole_88 (by decide +kernel) ?_
                refine fk_ceq (tgt := 98) S.1 S.2.1 (by omega) (by omega) d_M_isWhole_89 rfl (fun hc17 => ?_) (fun hc17 => ?_)
                · refine lv_iconst (v := nI 1) S.1 S.2.1 d_M_isWhole_98 (by decide +kernel) ?_
                  refine lv_goto (tgt := 103) S.1 S.2.1 d_M_isWhole_99 rfl ?_
                  refine lv_istore (lv' := [(4, .int (nI 1)), (3, .int (nI (bf i))), (2, .int (nI (11 - r))), (1, .int (nI i)), (0, .ref (fk_a g 89))]) S.1 S.2.1 d_M_isWhole_103 hl (by decide) rfl (fun ls hl => ?_)
                  have hd2 : fk_hd (bf i) = 2 := by unfold fk_hd; rw [if_pos (Or.inr (Or.inl hc17))]
                  refine lv_iload S.1 S.2.1 d_M_isWhole_105 (lv_at hl 0 rfl) ?_
                  refine fk_zeq (tgt := 120) S.1 S.2.1 (by omega) d_M_isWhole_107 rfl (fun hc18 => ?_) (fun hc18 => ?_)
                  · exact absurd hc18 (by decide)
                  · refine lv_iload_n S.1 S.2.1 d_M_isWhole_110 rfl (lv_at hl 3 rfl) ?_
                    refine lv_iconst (v := nI 1) S.1 S.2.1 d_M_isWhole_111 (by decide +kernel) ?_
                    refine fk_iadd S.1 S.2.1 d_M_isWhole_112 ?_
                    refine lv_aload_n S.1 S.2.1 d_M_isWhole_113 rfl (lv_at hl 4 rfl) ?_
                    refine fk_gf S E G 89 (by decide) (v := .int (M9 89 19)) (congrArg (fk_ce g ov 89 (M9 89)) kd_89) rfl 19 (by decide) rfl i_641 rfl d_M_isWhole_114 ?_
                    rw [w5 19 (by decide) (by decide), hn]
                    refine fk_cge (tgt := 144) S.1 S.2.1 (by omega) (by omega) d_M_isWhole_117 rfl (fun hc19 => ?_) (fun hc19 => ?_)
                    · rw [if_pos (Or.inl ⟨hd2, hc19⟩)] at hv5
                      refine lv_iconst (v := nI 0) S.1 S.2.1 d_M_isWhole_144 (by decide +kernel) ?_
                      exact fk_zret S hr hlk E G (by rw [← hv5]; exact hc4.eq) (by rw [← hv5]; rfl) (fk_bz _) d_M_isWhole_145
                    · refine lv_iload_n S.1 S.2.1 d_M_isWhole_120 rfl (lv_at hl 1 rfl) ?_
                      refine fk_zeq (tgt := 146) S.1 S.2.1 (by omega) d_M_isWhole_121 rfl (fun hc20 => ?_) (fun hc20 => ?_)
                      · exact absurd hc20 (by omega)
                      · refine lv_iload S.1 S.2.1 d_M_isWhole_124 (lv_at hl 0 rfl) ?_
                        refine fk_zeq (tgt := 146) S.1 S.2.1 (by omega) d_M_isWhole_126 rfl (fun hc21 => ?_) (fun hc21 => ?_)
                        · exact absurd hc21 (by decide)
                        · have hb3 := hb2 (i + 1) (by omega)
                          refine lv_aload_n S.1 S.2.1 d_M_isWhole_129 rfl (lv_at hl 4 rfl) ?_
                          refine fk_gf S E G 89 (by decide) (v := .ref (fk_a g 106)) (congrArg (fk_ce g ov 89 (M9 89)) kd_89) rfl 18 (by decide) rfl i_640 rfl d_M_isWhole_130 ?_
                          refine lv_iload_n S.1 S.2.1 d_M_isWhole_133 rfl (lv_at hl 3 rfl) ?_
                          refine lv_iconst (v := nI 1) S.1 S.2.1 d_M_isWhole_134 (by decide +kernel) ?_
                          refine fk_iadd S.1 S.2.1 d_M_isWhole_135 ?_
                          refine fk_ia S E G 106 (by decide) (congrArg (fk_ce g ov 106 (M9 106)) kd_106) (i + 1) rfl (by omega) (by decide) (v := nI (bf (i + 1))) (by rw [e106]; exact hb (i + 1) (by omega)) d_M_isWhole_136 ?_
                          refine lv_aload_n S.1 S.2.1 d_M_isWhole_137 rfl (lv_at hl 4 rfl) ?_
                          refine fk_gf S E G 89 (by decide) (v := .int (M9 89 1)) (congrArg (fk_ce g ov 89 (M9 89)) kd_89) rfl 1 (by decide) rfl i_623 rfl d_M_isWhole_138 ?_
                          rw [w5 1 (by decide) (by decide), hcnt]
                          refine fk_clt (tgt := 146) S.1 S.2.1 (by omega) (by omega) d_M_isWhole_141 rfl (fun hc22 => ?_) (fun hc22 => ?_)
                          · rw [if_neg (fun q => q.elim (fun q => by omega) (fun q => by omega))] at hv5
                            exact good (by omega) (by omega) hv5 1 _ _ ls (by omega) G (lv_sub hl [0, 1, 2, 3, 4] rfl)
                          · rw [if_pos (Or.inr ⟨by omega, hc22⟩)] at hv5
                            refine lv_iconst (v := nI 0) S.1 S.2.1 d_M_isWhole_144 (by decide +kernel) ?_
                            exact fk_zret S hr hlk E G (by rw [← hv5]; exact hc4.eq) (by rw [← hv5]; rfl) (fk_bz _) d_M_isWhole_145
                · refine lv_iload_n S.1 S.2.1 d_M_isWhole_92 rfl (lv_at hl 0 rfl) ?_
                  refine lv_bipush (v := nI 15) S.1 S.2.1 d_M_isWhole_93 (by decide +kernel) ?_
                  refine fk_cle (tgt := 102) S.1 S.2.1 (by omega) (by omega) d_M_isWhole_95 rfl (fun hc23 => ?_) (fun hc23 => ?_)
                  · have hd1 : fk_hd (bf i) = 1 := by unfold fk_hd; rw [if_neg (by omega)]
                    refine lv_iconst (v := nI 0) S.1 S.2.1 d_M_isWhole_102 (by decide +kernel) ?_
                    refine lv_istore (lv' := [(4, .int (nI 0)), (3, .int (nI (bf i))), (2, .int (nI (11 - r))), (1, .int (nI i)), (0, .ref (fk_a g 89))]) S.1 S.2.1 d_M_isWhole_103 hl (by decide) rfl (fun ls hl => ?_)
                    refine lv_iload S.1 S.2.1 d_M_isWhole_105 (lv_at hl 0 rfl) ?_
                    refine fk_zeq (tgt := 120) S.1 S.2.1 (by omega) d_M_isWhole_107 rfl (fun hc24 => ?_) (fun hc24 => ?_)
                    · refine lv_iload_n S.1 S.2.1 d_M_isWhole_120 rfl (lv_at hl 1 rfl) ?_
                      refine fk_zeq (tgt := 146) S.1 S.2.1 (by omega) d_M_isWhole_121 rfl (fun hc25 => ?_) (fun hc25 => ?_)
                      · exact absurd hc25 (by omega)
                      · refine lv_iload S.1 S.2.1 d_M_isWhole_124 (lv_at hl 0 rfl) ?_
                        refine fk_zeq (tgt := 146) S.1 S.2.1 (by omega) d_M_isWhole_126 rfl (fun hc26 => ?_) (fun hc26 => ?_)
                        · rw [if_neg (fun q => q.elim (fun q => by omega) (fun q => by omega))] at hv5
                          exact good (by omega) (by omega) hv5 0 _ _ ls (by omega) G (lv_sub hl [0, 1, 2, 3, 4] rfl)
                        · exact absurd hc26 (by decide)
                    · exact absurd hc24 (by decide)
                  · refine lv_iconst (v := nI 1) S.1 S.2.1 d_M_isWhole_98 (by decide +kernel) ?_
                    refine lv_goto (tgt := 103) S.1 S.2.1 d_M_isWhole_99 rfl ?_
                    refine lv_istore (lv' := [(4, .int (nI 1)), (3, .int (nI (bf i))), (2, .int (nI (11 - r))), (1, .int (nI i)), (0, .ref (fk_a g 89))]) S.1 S.2.1 d_M_isWhole_103 hl (by decide) rfl (fun ls hl => ?_)
                    have hd2 : fk_hd (bf i) = 2 := by unfold fk_hd; rw [if_pos (Or.inr (Or.inr (by omega)))]
                    refine lv_iload S.1 S.2.1 d_M_isWhole_105 (lv_at hl 0 rfl) ?_
                    refine fk_zeq (tgt := 120) S.1 S.2.1 (by omega) d_M_isWhole_107 rfl (fun hc27 => ?_) (fun hc27 => ?_)
                    · exact absurd hc27 (by decide)
                    · refine lv_iload_n S.1 S.2.1 d_M_isWhole_110 rfl (lv_at hl 3 rfl) ?_
                      refine lv_iconst (v := nI 1) S.1 S.2.1 d_M_isWhole_111 (by decide +kernel) ?_
                      refine fk_iadd S.1 S.2.1 d_M_isWhole_112 ?_
                      refine lv_aload_n S.1 S.2.1 d_M_isWhole_113 rfl (lv_at hl 4 rfl) ?_
                      refine fk_gf S E G 89 (by decide) (v := .int (M9 89 19)) (congrArg (fk_ce g ov 89 (M9 89)) kd_89) rfl 19 (by decide) rfl i_641 rfl d_M_isWhole_114 ?_
                      rw [w5 19 (by decide) (by decide), hn]
                      refine fk_cge (tgt := 144) S.1 S.2.1 (by omega) (by omega) d_M_isWhole_117 rfl (fun hc28 => ?_) (fun hc28 => ?_)
                      · rw [if_pos (Or.inl ⟨hd2, hc28⟩)] at hv5
                        refine lv_iconst (v := nI 0) S.1 S.2.1 d_M_isWhole_144 (by decide +kernel) ?_
                        exact fk_zret S hr hlk E G (by rw [← hv5]; exact hc4.eq) (by rw [← hv5]; rfl) (fk_bz _) d_M_isWhole_145
                      · refine lv_iload_n S.1 S.2.1 d_M_isWhole_120 rfl (lv_at hl 1 rfl) ?_
                        refine fk_zeq (tgt := 146) S.1 S.2.1 (by omega) d_M_isWhole_121 rfl (fun hc29 => ?_) (fun hc29 => ?_)
                        · exact absurd hc29 (by omega)
                        · refine lv_iload S.1 S.2.1 d_M_isWhole_124 (lv_at hl 0 rfl) ?_
                          refine fk_zeq (tgt := 146) S.1 S.2.1 (by omega) d_M_isWhole_126 rfl (fun hc30 => ?_) (fun hc30 => ?_)
                          · exact absurd hc30 (by decide)
                          · have hb3 := hb2 (i + 1) (by omega)
                            refine lv_aload_n S.1 S.2.1 d_M_isWhole_129 rfl (lv_at hl 4 rfl) ?_
                            refine fk_gf S E G 89 (by decide) (v := .ref (fk_a g 106)) (congrArg (fk_ce g ov 89 (M9 89)) kd_89) rfl 18 (by decide) rfl i_640 rfl d_M_isWhole_130 ?_
                            refine lv_iload_n S.1 S.2.1 d_M_isWhole_133 rfl (lv_at hl 3 rfl) ?_
                            refine lv_iconst (v := nI 1) S.1 S.2.1 d_M_isWhole_134 (by decide +kernel) ?_
                            refine fk_iadd S.1 S.2.1 d_M_isWhole_135 ?_
                            refine fk_ia S E G 106 (by decide) (congrArg (fk_ce g ov 106 (M9 106)) kd_106) (i + 1) rfl (by omega) (by decide) (v := nI (bf (i + 1))) (by rw [e106]; exact hb (i + 1) (by omega)) d_M_isWhole_136 ?_
                            refine lv_aload_n S.1 S.2.1 d_M_isWhole_137 rfl (lv_at hl 4 rfl) ?_
                            refine fk_gf S E G 89 (by decide) (v := .int (M9 89 1)) (congrArg (fk_ce g ov 89 (M9 89)) kd_89) rfl 1 (by decide) rfl i_623 rfl d_M_isWhole_138 ?_
                            rw [w5 1 (by decide) (by decide), hcnt]
                            refine fk_clt (tgt := 146) S.1 S.2.1 (by omega) (by omega) d_M_isWhole_141 rfl (fun hc31 => ?_) (fun hc31 => ?_)
                            · rw [if_neg (fun q => q.elim (fun q => by omega) (fun q => by omega))] at hv5
                              exact good (by omega) (by omega) hv5 1 _ _ ls (by omega) G (lv_sub hl [0, 1, 2, 3, 4] rfl)
                            · rw [if_pos (Or.inr ⟨by omega, hc31⟩)] at hv5
                              refine lv_iconst (v := nI 0) S.1 S.2.1 d_M_isWhole_144 (by decide +kernel) ?_
                              exact fk_zret S hr hlk E G (by rw [← hv5]; exact hc4.eq) (by rw [← hv5]; rfl) (fk_bz _) d_M_isWhole_145
            · rw [if_pos (Or.inr (Or.inr hc7))] at hv5
              refine lv_iconst (v := nI 0) S.1 S.2.1 d_M_isWhole_54 (by decide +kernel) ?_
              exact fk_zret S hr hlk E G (by rw [← hv5]; exact hc2.eq) (by rw [← hv5]; rfl) (fk_bz _) d_M_isWhole_55
  exact loop 42 _ 1 _ 0 0 _ H locs ls (by omega) (by omega) (by omega) hIL1 hc1 rfl G hl
