/-! The reference: types. Written by wip/gen/s_mod6.py. -/
/-- the parts of an equation as the reference keeps them: part p begins at sp p, and sl p wait on the stack before it -/
def fk_RF (b : Nat → Nat) (n cnt : Nat) (sp sl : Nat → Nat) (P : Nat) : Prop := ∀ p, p < P → fk_ok b n cnt (sp p) ∧ 1 ≤ sl p ∧ sl p ≤ 23 ∧ sl (p + 1) + 1 = sl p + fk_ar (b (sp p))
/-- the stack, the cell K and the place may differ -/
def fk_w3 (K : Nat) (M : fk_M) (S : Nat → Int32) (t : Nat) (pl : Int32) (X : Nat → Int32) : fk_M := va_up (va_up (va_up M 109 S) K X) 89 (upd (upd (M 89) 29 (nI t)) 30 pl)
def fk_C3 (K : Nat) (M Mc : fk_M) (S : Nat → Int32) (t : Nat) (pl : Int32) (X : Nat → Int32) : Prop := Mc 109 = S ∧ Mc K = X ∧ Mc 89 29 = nI t ∧ Mc 89 30 = pl ∧ (∀ j, j ≠ 29 → j ≠ 30 → Mc 89 j = M 89 j) ∧ ∀ k, k ≠ 89 → k ≠ K → k ≠ 109 → Mc k = M k
theorem fk_C3.eq {K : Nat} {M Mc : fk_M} {S : Nat → Int32} {t : Nat} {pl : Int32} {X : Nat → Int32} (h : fk_C3 K M Mc S t pl X) : Mc = fk_w3 K M S t pl X := by
  obtain ⟨h1, h2, h3, h4, h5, h6⟩ := h
  funext k
  unfold fk_w3
  by_cases k1 : k = 89
  · subst k1
    rw [va_up_self]
    funext j
    by_cases j1 : j = 30
    · subst j1
      rw [pk_us, h4]
    · rw [pk_un j1]
      by_cases j2 : j = 29
      · subst j2
        rw [pk_us, h3]
      · rw [pk_un j2, h5 j j2 j1]
  · rw [va_up_ne _ _ k1]
    by_cases k2 : k = K
    · subst k2
      rw [va_up_self, h2]
    · rw [va_up_ne _ _ k2]
      by_cases k3 : k = 109
      · subst k3
        rw [va_up_self, h1]
      · rw [va_up_ne _ _ k3, h6 k k1 k2 k3]
theorem fk_C3.push {K : Nat} {M Mc : fk_M} {S : Nat → Int32} {t : Nat} {pl : Int32} {X : Nat → Int32} (hK : K ≠ 89 ∧ K ≠ 109) (h : fk_C3 K M Mc S t pl X) (v : Int32) : fk_C3 K M (fk_pu Mc t v) (upd S t v) (t + 1) pl X := by
  obtain ⟨h1, h2, h3, h4, h5, h6⟩ := h
  unfold fk_pu
  refine ⟨by rw [va_up_ne _ _ (by decide), va_up_self, h1], by rw [va_up_ne _ _ hK.1, va_up_ne _ _ hK.2, h2], by rw [va_up_self, pk_us], by rw [va_up_self, pk_un (by decide), h4], fun j j1 j2 => by rw [va_up_self, pk_un j1, h5 j j1 j2], fun k k1 k2 k3 => by rw [va_up_ne _ _ k1, va_up_ne _ _ k3, h6 k k1 k2 k3]⟩
theorem fk_C3.pop {K : Nat} {M Mc : fk_M} {S : Nat → Int32} {t : Nat} {pl : Int32} {X : Nat → Int32} (hK : K ≠ 89 ∧ K ≠ 109) (h : fk_C3 K M Mc S (t + 1) pl X) : fk_C3 K M (fk_po Mc t) S t pl X := by
  obtain ⟨h1, h2, h3, h4, h5, h6⟩ := h
  unfold fk_po
  refine ⟨by rw [va_up_ne _ _ (by decide), h1], by rw [va_up_ne _ _ hK.1, h2], by rw [va_up_self, pk_us], by rw [va_up_self, pk_un (by decide), h4], fun j j1 j2 => by rw [va_up_self, pk_un j1, h5 j j1 j2], fun k k1 k2 k3 => by rw [va_up_ne _ _ k1, h6 k k1 k2 k3]⟩
theorem fk_C3.top {K : Nat} {M Mc : fk_M} {S : Nat → Int32} {t : Nat} {pl : Int32} {X : Nat → Int32} (hK : K ≠ 89 ∧ K ≠ 109) (h : fk_C3 K M Mc S t pl X) (u : Nat) : fk_C3 K M (va_up Mc 89 (upd (Mc 89) 29 (nI u))) S u pl X := by
  obtain ⟨h1, h2, h3, h4, h5, h6⟩ := h
  refine ⟨by rw [va_up_ne _ _ (by decide), h1], by rw [va_up_ne _ _ hK.1, h2], by rw [va_up_self, pk_us], by rw [va_up_self, pk_un (by decide), h4], fun j j1 j2 => by rw [va_up_self, pk_un j1, h5 j j1 j2], fun k k1 k2 k3 => by rw [va_up_ne _ _ k1, h6 k k1 k2 k3]⟩
theorem fk_C3.note {K : Nat} {M Mc : fk_M} {S : Nat → Int32} {t : Nat} {pl : Int32} {X : Nat → Int32} (hK : K ≠ 89 ∧ K ≠ 109) (h : fk_C3 K M Mc S t pl X) (i : Nat) : fk_C3 K M (fk_nm9 Mc i) S t (fk_nt pl i) X := by
  obtain ⟨h1, h2, h3, h4, h5, h6⟩ := h
  unfold fk_nm9
  refine ⟨by rw [va_up_ne _ _ (by decide), h1], by rw [va_up_ne _ _ hK.1, h2], by rw [va_up_self, pk_un (by decide), h3], by rw [va_up_self, pk_us, h4], fun j j1 j2 => by rw [va_up_self, pk_un j2, h5 j j1 j2], fun k k1 k2 k3 => by rw [va_up_ne _ _ k1, h6 k k1 k2 k3]⟩
theorem fk_C3.cell {K : Nat} {M Mc : fk_M} {S : Nat → Int32} {t : Nat} {pl : Int32} {X : Nat → Int32} (hK : K ≠ 89 ∧ K ≠ 109) (h : fk_C3 K M Mc S t pl X) (i : Nat) (v : Int32) : fk_C3 K M (va_up Mc K (upd (Mc K) i v)) S t pl (upd X i v) := by
  obtain ⟨h1, h2, h3, h4, h5, h6⟩ := h
  refine ⟨by rw [va_up_ne _ _ hK.2.symm, h1], by rw [va_up_self, h2], by rw [va_up_ne _ _ hK.1.symm, h3], by rw [va_up_ne _ _ hK.1.symm, h4], fun j j1 j2 => by rw [va_up_ne _ _ hK.1.symm, h5 j j1 j2], fun k k1 k2 k3 => by rw [va_up_ne _ _ k2, h6 k k1 k2 k3]⟩
theorem fk_C3.refl (K : Nat) (M : fk_M) {t : Nat} (ht : M 89 29 = nI t) : fk_C3 K M M (M 109) t (M 89 30) (M K) := ⟨rfl, rfl, ht, rfl, fun _ _ _ => rfl, fun _ _ _ _ => rfl⟩
/-- the stack after want -/
def fk_wj (va vb : Int32) : Nat → Nat → (Nat → Int32) → Nat → Int32
  | 0, _, S => S
  | k + 1, t, S => fk_wj va vb k (t + 1) (upd S t (if k = 0 then va else vb))
theorem fk_C3.want {K : Nat} {M : fk_M} {pl : Int32} {X : Nat → Int32} (hK : K ≠ 89 ∧ K ≠ 109) (va vb : Int32) : ∀ (k t : Nat) (S : Nat → Int32) (Mc : fk_M), fk_C3 K M Mc S t pl X → fk_C3 K M (fk_wn va vb k t Mc) (fk_wj va vb k t S) (t + k) pl X := by
  intro k
  induction k with
  | zero => intro t S Mc h; exact h
  | succ k ih =>
    intro t S Mc h
    have h2 := ih (t + 1) _ _ (h.push hK (if k = 0 then va else vb))
    rw [show t + 1 + k = t + (k + 1) by omega] at h2
    exact h2
def fk_gv (k : Nat) : Nat := if k = 1 ∨ k = 2 ∨ k = 4 ∨ (8 < k ∧ k < 13) then 1 else 0
def fk_ris (bl : Nat → Int32) (k w1 : Nat) (w : Int32) : Int32 := if k = 3 then nI (decide (¬ bl w1 = 0)).toNat else if 12 < k then w else nI (fk_gv k)
def fk_rtk (k : Nat) (w : Int32) : Int32 := if 12 < k then w else nI (if k = 4 ∨ k = 11 ∨ k = 12 then 1 else 0)
/-- the reference's types, from part p on -/
def fk_rty (b sp sl : Nat → Nat) (bl : Nat → Int32) : Nat → Nat → (Nat → Int32) → Int32 → (Nat → Int32) × Int32
  | 0, _, S, pl => (S, pl)
  | d + 1, p, S, pl => fk_rty b sp sl bl d (p + 1) (fk_wj (if b (sp p) = 13 then nI 1 else fk_rtk (b (sp p)) (S (sl p - 1))) (fk_rtk (b (sp p)) (S (sl p - 1))) (fk_ar (b (sp p))) (sl p - 1) S) (if ¬ fk_ris bl (b (sp p)) (b (sp p + 1)) (S (sl p - 1)) = S (sl p - 1) ∨ (15 < b (sp p) ∧ bl (b (sp p + 1)) = 0) then fk_nt pl (sp p) else pl)
theorem fk_rty_S (b sp sl : Nat → Nat) (bl : Nat → Int32) (d p : Nat) (S : Nat → Int32) (pl : Int32) : fk_rty b sp sl bl (d + 1) p S pl = fk_rty b sp sl bl d (p + 1) (fk_wj (if b (sp p) = 13 then nI 1 else fk_rtk (b (sp p)) (S (sl p - 1))) (fk_rtk (b (sp p)) (S (sl p - 1))) (fk_ar (b (sp p))) (sl p - 1) S) (if ¬ fk_ris bl (b (sp p)) (b (sp p + 1)) (S (sl p - 1)) = S (sl p - 1) ∨ (15 < b (sp p) ∧ bl (b (sp p + 1)) = 0) then fk_nt pl (sp p) else pl) := rfl
theorem d_M_types_0 : decode b_M_types 0 = .ok (.aload_n 0, 1) := by decide +kernel
theorem d_M_types_1 : decode b_M_types 1 = .ok (.iconst 0, 1) := by decide +kernel
theorem d_M_types_2 : decode b_M_types 2 = .ok (.putfield 81, 3) := by decide +kernel
theorem d_M_types_5 : decode b_M_types 5 = .ok (.aload_n 0, 1) := by decide +kernel
theorem d_M_types_6 : decode b_M_types 6 = .ok (.aload_n 0, 1) := by decide +kernel
theorem d_M_types_7 : decode b_M_types 7 = .ok (.getfield 7, 3) := by decide +kernel
theorem d_M_types_10 : decode b_M_types 10 = .ok (.iload_n 1, 1) := by decide +kernel
theorem d_M_types_11 : decode b_M_types 11 = .ok (.baload, 1) := by decide +kernel
theorem d_M_types_12 : decode b_M_types 12 = .ok (.ifCond .eq 7, 3) := by decide +kernel
theorem d_M_types_15 : decode b_M_types 15 = .ok (.iconst 1, 1) := by decide +kernel
theorem d_M_types_16 : decode b_M_types 16 = .ok (.goto 4, 3) := by decide +kernel
theorem d_M_types_19 : decode b_M_types 19 = .ok (.iconst 0, 1) := by decide +kernel
theorem d_M_types_20 : decode b_M_types 20 = .ok (.invokevirtual 112, 3) := by decide +kernel
theorem d_M_types_23 : decode b_M_types 23 = .ok (.iconst 0, 1) := by decide +kernel
theorem d_M_types_24 : decode b_M_types 24 = .ok (.istore_n 2, 1) := by decide +kernel
theorem d_M_types_25 : decode b_M_types 25 = .ok (.iload_n 2, 1) := by decide +kernel
theorem d_M_types_26 : decode b_M_types 26 = .ok (.aload_n 0, 1) := by decide +kernel
theorem d_M_types_27 : decode b_M_types 27 = .ok (.getfield 38, 3) := by decide +kernel
theorem d_M_types_30 : decode b_M_types 30 = .ok (.iload_n 1, 1) := by decide +kernel
theorem d_M_types_31 : decode b_M_types 31 = .ok (.iaload, 1) := by decide +kernel
theorem d_M_types_32 : decode b_M_types 32 = .ok (.if_icmp .ge 241, 3) := by decide +kernel
theorem d_M_types_35 : decode b_M_types 35 = .ok (.aload_n 0, 1) := by decide +kernel
theorem d_M_types_36 : decode b_M_types 36 = .ok (.getfield 44, 3) := by decide +kernel
theorem d_M_types_39 : decode b_M_types 39 = .ok (.bipush 40, 2) := by decide +kernel
theorem d_M_types_41 : decode b_M_types 41 = .ok (.iload_n 1, 1) := by decide +kernel
theorem d_M_types_42 : decode b_M_types 42 = .ok (.imul, 1) := by decide +kernel
theorem d_M_types_43 : decode b_M_types 43 = .ok (.iload_n 2, 1) := by decide +kernel
theorem d_M_types_44 : decode b_M_types 44 = .ok (.iadd, 1) := by decide +kernel
theorem d_M_types_45 : decode b_M_types 45 = .ok (.iaload, 1) := by decide +kernel
theorem d_M_types_46 : decode b_M_types 46 = .ok (.istore_n 3, 1) := by decide +kernel
theorem d_M_types_47 : decode b_M_types 47 = .ok (.aload_n 0, 1) := by decide +kernel
theorem d_M_types_48 : decode b_M_types 48 = .ok (.getfield 41, 3) := by decide +kernel
theorem d_M_types_51 : decode b_M_types 51 = .ok (.bipush 40, 2) := by decide +kernel
theorem d_M_types_53 : decode b_M_types 53 = .ok (.iload_n 1, 1) := by decide +kernel
theorem d_M_types_54 : decode b_M_types 54 = .ok (.imul, 1) := by decide +kernel
theorem d_M_types_55 : decode b_M_types 55 = .ok (.iload_n 3, 1) := by decide +kernel
theorem d_M_types_56 : decode b_M_types 56 = .ok (.iadd, 1) := by decide +kernel
theorem d_M_types_57 : decode b_M_types 57 = .ok (.iaload, 1) := by decide +kernel
theorem d_M_types_58 : decode b_M_types 58 = .ok (.istore 4, 2) := by decide +kernel
theorem d_M_types_60 : decode b_M_types 60 = .ok (.aload_n 0, 1) := by decide +kernel
theorem d_M_types_61 : decode b_M_types 61 = .ok (.invokevirtual 116, 3) := by decide +kernel
theorem d_M_types_64 : decode b_M_types 64 = .ok (.istore 5, 2) := by decide +kernel
theorem d_M_types_66 : decode b_M_types 66 = .ok (.iload 4, 2) := by decide +kernel
theorem d_M_types_68 : decode b_M_types 68 = .ok (.iconst 1, 1) := by decide +kernel
theorem d_M_types_69 : decode b_M_types 69 = .ok (.if_icmp .eq 29, 3) := by decide +kernel
theorem d_M_types_72 : decode b_M_types 72 = .ok (.iload 4, 2) := by decide +kernel
theorem d_M_types_74 : decode b_M_types 74 = .ok (.iconst 2, 1) := by decide +kernel
theorem d_M_types_75 : decode b_M_types 75 = .ok (.if_icmp .eq 23, 3) := by decide +kernel
theorem d_M_types_78 : decode b_M_types 78 = .ok (.iload 4, 2) := by decide +kernel
theorem d_M_types_80 : decode b_M_types 80 = .ok (.iconst 4, 1) := by decide +kernel
theorem d_M_types_81 : decode b_M_types 81 = .ok (.if_icmp .eq 17, 3) := by decide +kernel
theorem d_M_types_84 : decode b_M_types 84 = .ok (.iload 4, 2) := by decide +kernel
theorem d_M_types_86 : decode b_M_types 86 = .ok (.bipush 8, 2) := by decide +kernel
theorem d_M_types_88 : decode b_M_types 88 = .ok (.if_icmp .le 14, 3) := by decide +kernel
theorem d_M_types_91 : decode b_M_types 91 = .ok (.iload 4, 2) := by decide +kernel
theorem d_M_types_93 : decode b_M_types 93 = .ok (.bipush 13, 2) := by decide +kernel
theorem d_M_types_95 : decode b_M_types 95 = .ok (.if_icmp .ge 7, 3) := by decide +kernel
theorem d_M_types_98 : decode b_M_types 98 = .ok (.iconst 1, 1) := by decide +kernel
theorem d_M_types_99 : decode b_M_types 99 = .ok (.goto 4, 3) := by decide +kernel
theorem d_M_types_102 : decode b_M_types 102 = .ok (.iconst 0, 1) := by decide +kernel
theorem d_M_types_103 : decode b_M_types 103 = .ok (.istore 6, 2) := by decide +kernel
theorem d_M_types_105 : decode b_M_types 105 = .ok (.iload 4, 2) := by decide +kernel
theorem d_M_types_107 : decode b_M_types 107 = .ok (.iconst 3, 1) := by decide +kernel
theorem d_M_types_108 : decode b_M_types 108 = .ok (.if_icmp .ne 32, 3) := by decide +kernel
theorem d_M_types_111 : decode b_M_types 111 = .ok (.aload_n 0, 1) := by decide +kernel
theorem d_M_types_112 : decode b_M_types 112 = .ok (.getfield 7, 3) := by decide +kernel
theorem d_M_types_115 : decode b_M_types 115 = .ok (.aload_n 0, 1) := by decide +kernel
theorem d_M_types_116 : decode b_M_types 116 = .ok (.getfield 41, 3) := by decide +kernel
theorem d_M_types_119 : decode b_M_types 119 = .ok (.bipush 40, 2) := by decide +kernel
theorem d_M_types_121 : decode b_M_types 121 = .ok (.iload_n 1, 1) := by decide +kernel
theorem d_M_types_122 : decode b_M_types 122 = .ok (.imul, 1) := by decide +kernel
theorem d_M_types_123 : decode b_M_types 123 = .ok (.iload_n 3, 1) := by decide +kernel
theorem d_M_types_124 : decode b_M_types 124 = .ok (.iadd, 1) := by decide +kernel
theorem d_M_types_125 : decode b_M_types 125 = .ok (.iconst 1, 1) := by decide +kernel
theorem d_M_types_126 : decode b_M_types 126 = .ok (.iadd, 1) := by decide +kernel
theorem d_M_types_127 : decode b_M_types 127 = .ok (.iaload, 1) := by decide +kernel
theorem d_M_types_128 : decode b_M_types 128 = .ok (.baload, 1) := by decide +kernel
theorem d_M_types_129 : decode b_M_types 129 = .ok (.ifCond .eq 7, 3) := by decide +kernel
theorem d_M_types_132 : decode b_M_types 132 = .ok (.iconst 1, 1) := by decide +kernel
theorem d_M_types_133 : decode b_M_types 133 = .ok (.goto 29, 3) := by decide +kernel
theorem d_M_types_136 : decode b_M_types 136 = .ok (.iconst 0, 1) := by decide +kernel
theorem d_M_types_137 : decode b_M_types 137 = .ok (.goto 25, 3) := by decide +kernel
theorem d_M_types_140 : decode b_M_types 140 = .ok (.iload 4, 2) := by decide +kernel
theorem d_M_types_142 : decode b_M_types 142 = .ok (.bipush 12, 2) := by decide +kernel
theorem d_M_types_144 : decode b_M_types 144 = .ok (.if_icmp .le 8, 3) := by decide +kernel
theorem d_M_types_147 : decode b_M_types 147 = .ok (.iload 5, 2) := by decide +kernel
theorem d_M_types_149 : decode b_M_types 149 = .ok (.goto 13, 3) := by decide +kernel
theorem d_M_types_152 : decode b_M_types 152 = .ok (.iload 6, 2) := by decide +kernel
theorem d_M_types_154 : decode b_M_types 154 = .ok (.ifCond .eq 7, 3) := by decide +kernel
theorem d_M_types_157 : decode b_M_types 157 = .ok (.iconst 1, 1) := by decide +kernel
theorem d_M_types_158 : decode b_M_types 158 = .ok (.goto 4, 3) := by decide +kernel
theorem d_M_types_161 : decode b_M_types 161 = .ok (.iconst 0, 1) := by decide +kernel
theorem d_M_types_162 : decode b_M_types 162 = .ok (.istore 7, 2) := by decide +kernel
theorem d_M_types_164 : decode b_M_types 164 = .ok (.iload 7, 2) := by decide +kernel
theorem d_M_types_166 : decode b_M_types 166 = .ok (.iload 5, 2) := by decide +kernel
theorem d_M_types_168 : decode b_M_types 168 = .ok (.if_icmp .ne 31, 3) := by decide +kernel
theorem d_M_types_171 : decode b_M_types 171 = .ok (.iload 4, 2) := by decide +kernel
theorem d_M_types_173 : decode b_M_types 173 = .ok (.bipush 15, 2) := by decide +kernel
theorem d_M_types_175 : decode b_M_types 175 = .ok (.if_icmp .le 29, 3) := by decide +kernel
theorem d_M_types_178 : decode b_M_types 178 = .ok (.aload_n 0, 1) := by decide +kernel
theorem d_M_types_179 : decode b_M_types 179 = .ok (.getfield 7, 3) := by decide +kernel
theorem d_M_types_182 : decode b_M_types 182 = .ok (.aload_n 0, 1) := by decide +kernel
theorem d_M_types_183 : decode b_M_types 183 = .ok (.getfield 41, 3) := by decide +kernel
theorem d_M_types_186 : decode b_M_types 186 = .ok (.bipush 40, 2) := by decide +kernel
theorem d_M_types_188 : decode b_M_types 188 = .ok (.iload_n 1, 1) := by decide +kernel
theorem d_M_types_189 : decode b_M_types 189 = .ok (.imul, 1) := by decide +kernel
theorem d_M_types_190 : decode b_M_types 190 = .ok (.iload_n 3, 1) := by decide +kernel
theorem d_M_types_191 : decode b_M_types 191 = .ok (.iadd, 1) := by decide +kernel
theorem d_M_types_192 : decode b_M_types 192 = .ok (.iconst 1, 1) := by decide +kernel
theorem d_M_types_193 : decode b_M_types 193 = .ok (.iadd, 1) := by decide +kernel
theorem d_M_types_194 : decode b_M_types 194 = .ok (.iaload, 1) := by decide +kernel
theorem d_M_types_195 : decode b_M_types 195 = .ok (.baload, 1) := by decide +kernel
theorem d_M_types_196 : decode b_M_types 196 = .ok (.ifCond .ne 8, 3) := by decide +kernel
theorem d_M_types_199 : decode b_M_types 199 = .ok (.aload_n 0, 1) := by decide +kernel
theorem d_M_types_200 : decode b_M_types 200 = .ok (.iload_n 3, 1) := by decide +kernel
theorem d_M_types_201 : decode b_M_types 201 = .ok (.invokevirtual 135, 3) := by decide +kernel
theorem d_M_types_204 : decode b_M_types 204 = .ok (.iload 4, 2) := by decide +kernel
theorem d_M_types_206 : decode b_M_types 206 = .ok (.bipush 12, 2) := by decide +kernel
theorem d_M_types_208 : decode b_M_types 208 = .ok (.if_icmp .le 8, 3) := by decide +kernel
theorem d_M_types_211 : decode b_M_types 211 = .ok (.iload 5, 2) := by decide +kernel
theorem d_M_types_213 : decode b_M_types 213 = .ok (.goto 28, 3) := by decide +kernel
theorem d_M_types_216 : decode b_M_types 216 = .ok (.iload 4, 2) := by decide +kernel
theorem d_M_types_218 : decode b_M_types 218 = .ok (.iconst 4, 1) := by decide +kernel
theorem d_M_types_219 : decode b_M_types 219 = .ok (.if_icmp .eq 17, 3) := by decide +kernel
theorem d_M_types_222 : decode b_M_types 222 = .ok (.iload 4, 2) := by decide +kernel
theorem d_M_types_224 : decode b_M_types 224 = .ok (.bipush 11, 2) := by decide +kernel
theorem d_M_types_226 : decode b_M_types 226 = .ok (.if_icmp .eq 10, 3) := by decide +kernel
theorem d_M_types_229 : decode b_M_types 229 = .ok (.iload 4, 2) := by decide +kernel
theorem d_M_types_231 : decode b_M_types 231 = .ok (.bipush 12, 2) := by decide +kernel
theorem d_M_types_233 : decode b_M_types 233 = .ok (.if_icmp .ne 7, 3) := by decide +kernel
theorem d_M_types_236 : decode b_M_types 236 = .ok (.iconst 1, 1) := by decide +kernel
theorem d_M_types_237 : decode b_M_types 237 = .ok (.goto 4, 3) := by decide +kernel
theorem d_M_types_240 : decode b_M_types 240 = .ok (.iconst 0, 1) := by decide +kernel
theorem d_M_types_241 : decode b_M_types 241 = .ok (.istore 8, 2) := by decide +kernel
theorem d_M_types_243 : decode b_M_types 243 = .ok (.aload_n 0, 1) := by decide +kernel
theorem d_M_types_244 : decode b_M_types 244 = .ok (.iload 4, 2) := by decide +kernel
theorem d_M_types_246 : decode b_M_types 246 = .ok (.bipush 13, 2) := by decide +kernel
theorem d_M_types_248 : decode b_M_types 248 = .ok (.if_icmp .ne 7, 3) := by decide +kernel
theorem d_M_types_251 : decode b_M_types 251 = .ok (.iconst 1, 1) := by decide +kernel
theorem d_M_types_252 : decode b_M_types 252 = .ok (.goto 5, 3) := by decide +kernel
theorem d_M_types_255 : decode b_M_types 255 = .ok (.iload 8, 2) := by decide +kernel
theorem d_M_types_257 : decode b_M_types 257 = .ok (.iload 8, 2) := by decide +kernel
theorem d_M_types_259 : decode b_M_types 259 = .ok (.iload 4, 2) := by decide +kernel
theorem d_M_types_261 : decode b_M_types 261 = .ok (.invokestatic 120, 3) := by decide +kernel
theorem d_M_types_264 : decode b_M_types 264 = .ok (.invokevirtual 138, 3) := by decide +kernel
theorem d_M_types_267 : decode b_M_types 267 = .ok (.iinc 2 1, 3) := by decide +kernel
theorem d_M_types_270 : decode b_M_types 270 = .ok (.goto (-245), 3) := by decide +kernel
theorem d_M_types_273 : decode b_M_types 273 = .ok (.return_, 1) := by decide +kernel
theorem m_M_types : fk_MI y_M_types b_M_types 9 none 1 := ⟨i_786, i_785, fk_mp (q := (y_M_types, 31)) (by decide +kernel), i_8, by decide +kernel⟩
set_option maxHeartbeats 4000000 in
set_option maxRecDepth 100000 in
theorem c_M_types (l : Launch) (g : fk_G) (ov : Int64) (M : fk_M) (f : Nat) (hf : f < 12) (bf : Nat → Nat) (n cnt : Nat) (sp sl : Nat → Nat) (P : Nat) (hn40 : n ≤ 40) (h12 : cnt ≤ 12) (hP : P ≤ 40) (hsl0 : sl 0 = 1) (hRF : fk_RF bf n cnt sp sl P) (hpt : M 99 f = nI P) (hbg : ∀ q, q < P → M 101 (40 * f + q) = nI (sp q)) (hby : ∀ j, j < n → M 100 (40 * f + j) = nI (bf j)) : fk_CV l y_M_types b_M_types 9 (fk_rm 2) g ov M (fk_w3 102 M (fk_rty bf sp sl (M 90) P 0 (upd (M 109) 0 (nI (decide (¬ M 90 f = 0)).toNat)) (M 89 30)).1 (sl P) (fk_rty bf sp sl (M 90) P 0 (upd (M 109) 0 (nI (decide (¬ M 90 f = 0)).toNat)) (M 89 30)).2 (M 102)) [.ref (fk_a g 89), .int (nI f)] := by
  refine fk_ofV rfl (Nat.le_of_ble_eq_true rfl) ?_
  intro p e s m args below meth c ls S hr hlk E G hl
  have hl : lv_has ls 9 [(0, .ref (fk_a g 89)), (1, .int (nI f))] := hl
  refine lv_aload_n S.1 S.2.1 d_M_types_0 rfl (lv_at hl 0 rfl) ?_
  refine lv_iconst (v := nI 0) S.1 S.2.1 d_M_types_1 (by decide +kernel) ?_
  refine fk_pf S E G 89 (by decide) (congrArg (fk_ce g ov 89 (M 89)) kd_89) rfl 29 (by decide) rfl i_651 (upd (M 89) 29 (nI 0)) (congrArg (fk_ce g ov 89 (upd (M 89) 29 (nI 0))) kd_89) rfl (ty := (.int)) (by decide +kernel) rfl rfl (Nat.le_of_ble_eq_true rfl) d_M_types_2 (fun H locs G => ?_)
  obtain ⟨M1, hM1⟩ : ∃ z : fk_M, z = va_up M 89 (upd (M 89) 29 (nI 0)) := ⟨_, rfl⟩
  rw [← hM1] at G
  have hc0 : fk_C3 102 M M1 (M 109) 0 (M 89 30) (M 102) := by
    rw [hM1]
    refine ⟨rfl, rfl, by rw [va_up_self, pk_us], by rw [va_up_self, pk_un (by decide)], fun j j1 j2 => by rw [va_up_self, pk_un j1], fun k k1 k2 k3 => by rw [va_up_ne _ _ k1]⟩
  have loop : ∀ (d : Nat) (pp : Nat) (S9 : Nat → Int32) (pl : Int32) (Mc : fk_M) (H : Heap) (locs : List Loc) (ls : Array Slot), pp + d = P → fk_C3 102 M Mc S9 (sl pp) pl (M 102) → fk_rty bf sp sl (M 90) d pp S9 pl = fk_rty bf sp sl (M 90) P 0 (upd (M 109) 0 (nI (decide (¬ M 90 f = 0)).toNat)) (M 89 30) → fk_H g ov (Mc) s H locs → lv_has ls 9 [(2, .int (nI pp)), (0, .ref (fk_a g 89)), (1, .int (nI f))] → W p l e (fk_rm (2)) s m args below meth c H locs 0 0 (MQ below (va_Qv (fun (_ : Unit) => True) (fun _ t9 => fk_Wd g ov (fk_w3 102 M (fk_rty bf sp sl (M 90) P 0 (upd (M 109) 0 (nI (decide (¬ M 90 f = 0)).toNat)) (M 89 30)).1 (sl P) (fk_rty bf sp sl (M 90) P 0 (upd (M 109) 0 (nI (decide (¬ M 90 f = 0)).toNat)) (M 89 30)).2 (M 102)) t9) (fk_A g)) args s 0 0 (fk_A g)) (F0 m 25 ls []) := by
    intro d
    induction d with
    | zero =>
      intro pp S9 pl Mc H locs ls hv0 hv1 hv2 G hl
      obtain ⟨c1, c2, c3, c4, c5, c6⟩ := id hv1
      have cc90 : Mc 90 = M 90 := c6 90 (by decide) (by decide) (by decide)
      have cc91 : Mc 91 = M 91 := c6 91 (by decide) (by decide) (by decide)
      have cc92 : Mc 92 = M 92 := c6 92 (by decide) (by decide) (by decide)
      have cc94 : Mc 94 = M 94 := c6 94 (by decide) (by decide) (by decide)
      have cc99 : Mc 99 = M 99 := c6 99 (by decide) (by decide) (by decide)
      have cc100 : Mc 100 = M 100 := c6 100 (by decide) (by decide) (by decide)
      have cc101 : Mc 101 = M 101 := c6 101 (by decide) (by decide) (by decide)
      have cc103 : Mc 103 = M 103 := c6 103 (by decide) (by decide) (by decide)
      have cc105 : Mc 105 = M 105 := c6 105 (by decide) (by decide) (by decide)
      refine lv_iload_n S.1 S.2.1 d_M_types_25 rfl (lv_at hl 0 rfl) ?_
      refine lv_aload_n S.1 S.2.1 d_M_types_26 rfl (lv_at hl 1 rfl) ?_
      refine fk_gf S E G 89 (by decide) (v := .ref (fk_a g 99)) (congrArg (fk_ce g ov 89 (Mc 89)) kd_89) rfl 11 (by decide) rfl i_633 rfl d_M_types_27 ?_
      refine lv_iload_n S.1 S.2.1 d_M_types_30 rfl (lv_at hl 2 rfl) ?_
      refine fk_ia S E G 99 (by decide) (congrArg (fk_ce g ov 99 (Mc 99)) kd_99) f rfl (by omega) (by decide) (v := nI P) (by rw [cc99]; exact hpt) d_M_types_31 ?_
      refine fk_cge (tgt := 273) S.1 S.2.1 (by omega) (by omega) d_M_types_32 rfl (fun hc2 => ?_) (fun hc2 => ?_)
      · have hp : pp = P := by omega
        rw [hp] at hv1
        exact fk_vret S hr hlk E G (by rw [← hv2]; exact hv1.eq) d_M_types_273
      · exact absurd hv0 (by omega)
    | succ d ih =>
      intro pp S9 pl Mc H locs ls hv0 hv1 hv2 G hl
      obtain ⟨hok, hs1, hs2, hs3⟩ := hRF pp (by omega)
      obtain ⟨u, hu⟩ : ∃ u, sl pp = u + 1 := ⟨sl pp - 1, by omega⟩
      obtain ⟨i, hi⟩ : ∃ z, z = sp pp := ⟨_, rfl⟩
      rw [fk_rty_S, hu, Nat.add_sub_cancel, ← hi] at hv2
      rw [← hi] at hok hs3
      have hin := hok.1
      have hk18 := hok.2.1
      have hil := hok.2.2.1
      have har := fk_ar_le (bf i)
      have hhp := fk_hd_pos (bf i)
      rw [hu] at hv1
      obtain ⟨c1, c2, c3, c4, c5, c6⟩ := id hv1
      have cc90 : Mc 90 = M 90 := c6 90 (by decide) (by decide) (by decide)
      have cc91 : Mc 91 = M 91 := c6 91 (by decide) (by decide) (by decide)
      have cc92 : Mc 92 = M 92 := c6 92 (by decide) (by decide) (by decide)
      have cc94 : Mc 94 = M 94 := c6 94 (by decide) (by decide) (by decide)
      have cc99 : Mc 99 = M 99 := c6 99 (by decide) (by decide) (by decide)
      have cc100 : Mc 100 = M 100 := c6 100 (by decide) (by decide) (by decide)
      have cc101 : Mc 101 = M 101 := c6 101 (by decide) (by decide) (by decide)
      have cc103 : Mc 103 = M 103 := c6 103 (by decide) (by decide) (by decide)
      have cc105 : Mc 105 = M 105 := c6 105 (by decide) (by decide) (by decide)
      refine lv_iload_n S.1 S.2.1 d_M_types_25 rfl (lv_at hl 0 rfl) ?_
      refine lv_aload_n S.1 S.2.1 d_M_types_26 rfl (lv_at hl 1 rfl) ?_
      refine fk_gf S E G 89 (by decide) (v := .ref (fk_a g 99)) (congrArg (fk_ce g ov 89 (Mc 89)) kd_89) rfl 11 (by decide) rfl i_633 rfl d_M_types_27 ?_
      refine lv_iload_n S.1 S.2.1 d_M_types_30 rfl (lv_at hl 2 rfl) ?_
      refine fk_ia S E G 99 (by decide) (congrArg (fk_ce g ov 99 (Mc 99)) kd_99) f rfl (by omega) (by decide) (v := nI P) (by rw [cc99]; exact hpt) d_M_types_31 ?_
      refine fk_cge (tgt := 273) S.1 S.2.1 (by omega) (by omega) d_M_types_32 rfl (fun hc3 => ?_) (fun hc3 => ?_)
      · exact absurd hv0 (by omega)
      · refine lv_aload_n S.1 S.2.1 d_M_types_35 rfl (lv_at hl 1 rfl) ?_
        refine fk_gf S E G 89 (by decide) (v := .ref (fk_a g 101)) (congrArg (fk_ce g ov 89 (Mc 89)) kd_89) rfl 13 (by decide) rfl i_635 rfl d_M_types_36 ?_
        refine lv_bipush (v := nI 40) S.1 S.2.1 d_M_types_39 (by decide +kernel) ?_
        refine lv_iload_n S.1 S.2.1 d_M_types_41 rfl (lv_at hl 2 rfl) ?_
        refine fk_imul S.1 S.2.1 d_M_types_42 ?_
        refine lv_iload_n S.1 S.2.1 d_M_types_43 rfl (lv_at hl 0 rfl) ?_
        refine fk_iadd S.1 S.2.1 d_M_types_44 ?_
        refine fk_ia S E G 101 (by decide) (congrArg (fk_ce g ov 101 (Mc 101)) kd_101) ((40 * f) + pp) rfl (by omega) (by decide) (v := nI i) (by rw [cc101, hbg pp (by omega), hi]) d_M_types_45 ?_
        refine lv_istore_n (lv' := [(3, .int (nI i)), (2, .int (nI pp)), (0, .ref (fk_a g 89)), (1, .int (nI f))]) S.1 S.2.1 d_M_types_46 rfl hl (by decide) rfl (fun ls hl => ?_)
        refine lv_aload_n S.1 S.2.1 d_M_types_47 rfl (lv_at hl 2 rfl) ?_
        refine fk_gf S E G 89 (by decide) (v := .ref (fk_a g 100)) (congrArg (fk_ce g ov 89 (Mc 89)) kd_89) rfl 12 (by decide) rfl i_634 rfl d_M_types_48 ?_
        refine lv_bipush (v := nI 40) S.1 S.2.1 d_M_types_51 (by decide +kernel) ?_
        refine lv_iload_n S.1 S.2.1 d_M_types_53 rfl (lv_at hl 3 rfl) ?_
        refine fk_imul S.1 S.2.1 d_M_types_54 ?_
        refine lv_iload_n S.1 S.2.1 d_M_types_55 rfl (lv_at hl 0 rfl) ?_
        refine fk_iadd S.1 S.2.1 d_M_types_56 ?_
        refine fk_ia S E G 100 (by decide) (congrArg (fk_ce g ov 100 (Mc 100)) kd_100) ((40 * f) + i) rfl (by omega) (by decide) (v := nI (bf i)) (by rw [cc100]; exact hby i (by omega)) d_M_types_57 ?_
        refine lv_istore (lv' := [(4, .int (nI (bf i))), (3, .int (nI i)), (2, .int (nI pp)), (0, .ref (fk_a g 89)), (1, .int (nI f))]) S.1 S.2.1 d_M_types_58 hl (by decide) rfl (fun ls hl => ?_)
        refine lv_aload_n S.1 S.2.1 d_M_types_60 rfl (lv_at hl 3 rfl) ?_
        refine fk_cvi S E G 89 (by decide) (congrArg (fk_ce g ov 89 (Mc 89)) kd_89) rfl (rest := []) (show fk_CI _ _ _ _ _ _ _ _ _ _ _ (S9 u) from by have h9 := c_M_pop l g ov Mc u c3 (by omega); rw [c1] at h9; exact h9) m_M_pop i_753 ⟨rfl, rfl⟩ ⟨by decide, by decide⟩ rfl rfl hl.1 (Nat.le_of_ble_eq_true rfl) d_M_types_61 ⟨Nat.zero_le _, Nat.zero_le _⟩ (fun H locs G => ?_)
        obtain ⟨Mp, hMp⟩ : ∃ z : fk_M, z = fk_po Mc u := ⟨_, rfl⟩
        rw [← hMp] at G
        have hcp : fk_C3 102 M Mp S9 u pl (M 102) := by rw [hMp]; exact hv1.pop (show (102 : Nat) ≠ 89 ∧ (102 : Nat) ≠ 109 by decide)
        obtain ⟨q1, q2, q3, q4, q5, q6⟩ := id hcp
        have qc90 : Mp 90 = M 90 := q6 90 (by decide) (by decide) (by decide)
        have qc91 : Mp 91 = M 91 := q6 91 (by decide) (by decide) (by decide)
        have qc92 : Mp 92 = M 92 := q6 92 (by decide) (by decide) (by decide)
        have qc94 : Mp 94 = M 94 := q6 94 (by decide) (by decide) (by decide)
        have qc99 : Mp 99 = M 99 := q6 99 (by decide) (by decide) (by decide)
        have qc100 : Mp 100 = M 100 := q6 100 (by decide) (by decide) (by decide)
        have qc101 : Mp 101 = M 101 := q6 101 (by decide) (by decide) (by decide)
        have qc103 : Mp 103 = M 103 := q6 103 (by decide) (by decide) (by decide)
        have qc105 : Mp 105 = M 105 := q6 105 (by decide) (by decide) (by decide)
        refine lv_istore (lv' := [(5, .int (S9 u)), (4, .int (nI (bf i))), (3, .int (nI i)), (2, .int (nI pp)), (0, .ref (fk_a g 89)), (1, .int (nI f))]) S.1 S.2.1 d_M_types_64 hl (by decide) rfl (fun ls hl => ?_)
        obtain ⟨ww, hww⟩ : ∃ z, z = S9 u := ⟨_, rfl⟩
        rw [← hww] at hl hv2
        have j243 : ∀ (Md : fk_M) (H : Heap) (locs : List Loc) (ls : Array Slot), fk_C3 102 M Md S9 u (if ¬ fk_ris (M 90) (bf i) (bf (i + 1)) ww = ww ∨ (15 < bf i ∧ M 90 (bf (i + 1)) = 0) then fk_nt pl i else pl) (M 102) → fk_H g ov (Md) s H locs → lv_has ls 9 [(8, .int (fk_rtk (bf i) ww)), (5, .int ww), (4, .int (nI (bf i))), (3, .int (nI i)), (2, .int (nI pp)), (0, .ref (fk_a g 89)), (1, .int (nI f))] → W p l e (fk_rm (2)) s m args below meth c H locs 0 0 (MQ below (va_Qv (fun (_ : Unit) => True) (fun _ t9 => fk_Wd g ov (fk_w3 102 M (fk_rty bf sp sl (M 90) P 0 (upd (M 109) 0 (nI (decide (¬ M 90 f = 0)).toNat)) (M 89 30)).1 (sl P) (fk_rty bf sp sl (M 90) P 0 (upd (M 109) 0 (nI (decide (¬ M 90 f = 0)).toNat)) (M 89 30)).2 (M 102)) t9) (fk_A g)) args s 0 0 (fk_A g)) (F0 m 243 ls []) := by
          intro Md H locs ls hv0 G hl
          have hz0 := hv0
          refine lv_aload_n S.1 S.2.1 d_M_types_243 rfl (lv_at hl 5 rfl) ?_
          refine lv_iload S.1 S.2.1 d_M_types_244 (lv_at hl 2 rfl) ?_
          refine lv_bipush (v := nI 13) S.1 S.2.1 d_M_types_246 (by decide +kernel) ?_
          refine fk_cne (tgt := 255) S.1 S.2.1 (by omega) (by omega) d_M_types_248 rfl (fun hc4 => ?_) (fun hc4 => ?_)
          · refine lv_iload S.1 S.2.1 d_M_types_255 (lv_at hl 0 rfl) ?_
            refine lv_iload S.1 S.2.1 d_M_types_257 (lv_at hl 0 rfl) ?_
            refine lv_iload S.1 S.2.1 d_M_types_259 (lv_at hl 2 rfl) ?_
            refine fk_csi S E G (rest := [.int (fk_rtk (bf i) ww), .int (fk_rtk (bf i) ww), .ref (fk_a g 89)]) (c_M_many l g ov Md (bf i) (by omega)) m_M_many i_757 ⟨rfl, rfl⟩ ⟨by decide, by decide⟩ rfl rfl hl.1 (Nat.le_of_ble_eq_true rfl) d_M_types_261 ⟨Nat.zero_le _, Nat.zero_le _⟩ (fun H locs G => ?_)
            refine fk_cvv S E G 89 (by decide) (congrArg (fk_ce g ov 89 (Md 89)) kd_89) rfl (rest := []) (c_M_want l g ov Md u hz0.2.2.1 (fk_ar (bf i)) (by omega) (fk_rtk (bf i) ww) (fk_rtk (bf i) ww)) m_M_want i_775 ⟨rfl, rfl⟩ ⟨by decide, by decide⟩ rfl rfl hl.1 (Nat.le_of_ble_eq_true rfl) d_M_types_264 ⟨Nat.zero_le _, Nat.zero_le _⟩ (fun H locs G => ?_)
            refine lv_iinc (k := 4) (v := nI (pp + 1)) (lv' := [(2, .int (nI (pp + 1))), (8, .int (fk_rtk (bf i) ww)), (5, .int ww), (4, .int (nI (bf i))), (3, .int (nI i)), (0, .ref (fk_a g 89)), (1, .int (nI f))]) S.1 S.2.1 d_M_types_267 hl rfl (nI_1 pp) (by decide) rfl (fun ls hl => ?_)
            refine lv_goto (tgt := 25) S.1 S.2.1 d_M_types_270 rfl ?_
            rw [if_neg hc4] at hv2
            have hq := fk_C3.want (show (102 : Nat) ≠ 89 ∧ (102 : Nat) ≠ 109 by decide) (fk_rtk (bf i) ww) (fk_rtk (bf i) ww) (fk_ar (bf i)) u S9 Md hz0
            rw [show u + fk_ar (bf i) = sl (pp + 1) by omega] at hq
            exact ih (pp + 1) _ (if ¬ fk_ris (M 90) (bf i) (bf (i + 1)) ww = ww ∨ (15 < bf i ∧ M 90 (bf (i + 1)) = 0) then fk_nt pl i else pl) _ H locs ls (by omega) hq hv2 G (lv_sub hl [0, 5, 6] rfl)
          · refine lv_iconst (v := nI 1) S.1 S.2.1 d_M_types_251 (by decide +kernel) ?_
            refine lv_goto (tgt := 257) S.1 S.2.1 d_M_types_252 rfl ?_
            refine lv_iload S.1 S.2.1 d_M_types_257 (lv_at hl 0 rfl) ?_
            refine lv_iload S.1 S.2.1 d_M_types_259 (lv_at hl 2 rfl) ?_
            refine fk_csi S E G (rest := [.int (fk_rtk (bf i) ww), .int (nI 1), .ref (fk_a g 89)]) (c_M_many l g ov Md (bf i) (by omega)) m_M_many i_757 ⟨rfl, rfl⟩ ⟨by decide, by decide⟩ rfl rfl hl.1 (Nat.le_of_ble_eq_true rfl) d_M_types_261 ⟨Nat.zero_le _, Nat.zero_le _⟩ (fun H locs G => ?_)
            refine fk_cvv S E G 89 (by decide) (congrArg (fk_ce g ov 89 (Md 89)) kd_89) rfl (rest := []) (c_M_want l g ov Md u hz0.2.2.1 (fk_ar (bf i)) (by omega) (nI 1) (fk_rtk (bf i) ww)) m_M_want i_775 ⟨rfl, rfl⟩ ⟨by decide, by decide⟩ rfl rfl hl.1 (Nat.le_of_ble_eq_true rfl) d_M_types_264 ⟨Nat.zero_le _, Nat.zero_le _⟩ (fun H locs G => ?_)
            refine lv_iinc (k := 4) (v := nI (pp + 1)) (lv' := [(2, .int (nI (pp + 1))), (8, .int (fk_rtk (bf i) ww)), (5, .int ww), (4, .int (nI (bf i))), (3, .int (nI i)), (0, .ref (fk_a g 89)), (1, .int (nI f))]) S.1 S.2.1 d_M_types_267 hl rfl (nI_1 pp) (by decide) rfl (fun ls hl => ?_)
            refine lv_goto (tgt := 25) S.1 S.2.1 d_M_types_270 rfl ?_
            rw [if_pos hc4] at hv2
            have hq := fk_C3.want (show (102 : Nat) ≠ 89 ∧ (102 : Nat) ≠ 109 by decide) (nI 1) (fk_rtk (bf i) ww) (fk_ar (bf i)) u S9 Md hz0
            rw [show u + fk_ar (bf i) = sl (pp + 1) by omega] at hq
            exact ih (pp + 1) _ (if ¬ fk_ris (M 90) (bf i) (bf (i + 1)) ww = ww ∨ (15 < bf i ∧ M 90 (bf (i + 1)) = 0) then fk_nt pl i else pl) _ H locs ls (by omega) hq hv2 G (lv_sub hl [0, 5, 6] rfl)
        have j204 : ∀ (Md : fk_M) (H : Heap) (locs : List Loc) (ls : Array Slot), fk_C3 102 M Md S9 u (if ¬ fk_ris (M 90) (bf i) (bf (i + 1)) ww = ww ∨ (15 < bf i ∧ M 90 (bf (i + 1)) = 0) then fk_nt pl i else pl) (M 102) → fk_H g ov (Md) s H locs → lv_has ls 9 [(5, .int ww), (4, .int (nI (bf i))), (3, .int (nI i)), (2, .int (nI pp)), (0, .ref (fk_a g 89)), (1, .int (nI f))] → W p l e (fk_rm (2)) s m args below meth c H locs 0 0 (MQ below (va_Qv (fun (_ : Unit) => True) (fun _ t9 => fk_Wd g ov (fk_w3 102 M (fk_rty bf sp sl (M 90) P 0 (upd (M 109) 0 (nI (decide (¬ M 90 f = 0)).toNat)) (M 89 30)).1 (sl P) (fk_rty bf sp sl (M 90) P 0 (upd (M 109) 0 (nI (decide (¬ M 90 f = 0)).toNat)) (M 89 30)).2 (M 102)) t9) (fk_A g)) args s 0 0 (fk_A g)) (F0 m 204 ls []) := by
          intro Md H locs ls hv0 G hl
          have hz0 := hv0
          refine lv_iload S.1 S.2.1 d_M_types_204 (lv_at hl 1 rfl) ?_
          refine lv_bipush (v := nI 12) S.1 S.2.1 d_M_types_206 (by decide +kernel) ?_
          refine fk_cle (tgt := 216) S.1 S.2.1 (by omega) (by omega) d_M_types_208 rfl (fun hc5 => ?_) (fun hc5 => ?_)
          · refine lv_iload S.1 S.2.1 d_M_types_216 (lv_at hl 1 rfl) ?_
            refine lv_iconst (v := nI 4) S.1 S.2.1 d_M_types_218 (by decide +kernel) ?_
            refine fk_ceq (tgt := 236) S.1 S.2.1 (by omega) (by omega) d_M_types_219 rfl (fun hc6 => ?_) (fun hc6 => ?_)
            · refine lv_iconst (v := nI 1) S.1 S.2.1 d_M_types_236 (by decide +kernel) ?_
              refine lv_goto (tgt := 241) S.1 S.2.1 d_M_types_237 rfl ?_
              refine lv_istore (lv' := [(8, .int (nI 1)), (5, .int ww), (4, .int (nI (bf i))), (3, .int (nI i)), (2, .int (nI pp)), (0, .ref (fk_a g 89)), (1, .int (nI f))]) S.1 S.2.1 d_M_types_241 hl (by decide) rfl (fun ls hl => ?_)
              have hE : fk_rtk (bf i) ww = nI 1 := by unfold fk_rtk; rw [if_neg (by omega), if_pos (by omega)]
              exact j243 Md H locs ls hz0 G (lv_sub hl [0, 1, 2, 3, 4, 5, 6] (by rw [hE] <;> rfl))
            · refine lv_iload S.1 S.2.1 d_M_types_222 (lv_at hl 1 rfl) ?_
              refine lv_bipush (v := nI 11) S.1 S.2.1 d_M_types_224 (by decide +kernel) ?_
              refine fk_ceq (tgt := 236) S.1 S.2.1 (by omega) (by omega) d_M_types_226 rfl (fun hc7 => ?_) (fun hc7 => ?_)
              · refine lv_iconst (v := nI 1) S.1 S.2.1 d_M_types_236 (by decide +kernel) ?_
                refine lv_goto (tgt := 241) S.1 S.2.1 d_M_types_237 rfl ?_
                refine lv_istore (lv' := [(8, .int (nI 1)), (5, .int ww), (4, .int (nI (bf i))), (3, .int (nI i)), (2, .int (nI pp)), (0, .ref (fk_a g 89)), (1, .int (nI f))]) S.1 S.2.1 d_M_types_241 hl (by decide) rfl (fun ls hl => ?_)
                have hE : fk_rtk (bf i) ww = nI 1 := by unfold fk_rtk; rw [if_neg (by omega), if_pos (by omega)]
                exact j243 Md H locs ls hz0 G (lv_sub hl [0, 1, 2, 3, 4, 5, 6] (by rw [hE] <;> rfl))
              · refine lv_iload S.1 S.2.1 d_M_types_229 (lv_at hl 1 rfl) ?_
                refine lv_bipush (v := nI 12) S.1 S.2.1 d_M_types_231 (by decide +kernel) ?_
                refine fk_cne (tgt := 240) S.1 S.2.1 (by omega) (by omega) d_M_types_233 rfl (fun hc8 => ?_) (fun hc8 => ?_)
                · refine lv_iconst (v := nI 0) S.1 S.2.1 d_M_types_240 (by decide +kernel) ?_
                  refine lv_istore (lv' := [(8, .int (nI 0)), (5, .int ww), (4, .int (nI (bf i))), (3, .int (nI i)), (2, .int (nI pp)), (0, .ref (fk_a g 89)), (1, .int (nI f))]) S.1 S.2.1 d_M_types_241 hl (by decide) rfl (fun ls hl => ?_)
                  have hE : fk_rtk (bf i) ww = nI 0 := by unfold fk_rtk; rw [if_neg (by omega), if_neg (by omega)]
                  exact j243 Md H locs ls hz0 G (lv_sub hl [0, 1, 2, 3, 4, 5, 6] (by rw [hE] <;> rfl))
                · refine lv_iconst (v := nI 1) S.1 S.2.1 d_M_types_236 (by decide +kernel) ?_
                  refine lv_goto (tgt := 241) S.1 S.2.1 d_M_types_237 rfl ?_
                  refine lv_istore (lv' := [(8, .int (nI 1)), (5, .int ww), (4, .int (nI (bf i))), (3, .int (nI i)), (2, .int (nI pp)), (0, .ref (fk_a g 89)), (1, .int (nI f))]) S.1 S.2.1 d_M_types_241 hl (by decide) rfl (fun ls hl => ?_)
                  have hE : fk_rtk (bf i) ww = nI 1 := by unfold fk_rtk; rw [if_neg (by omega), if_pos (by omega)]
                  exact j243 Md H locs ls hz0 G (lv_sub hl [0, 1, 2, 3, 4, 5, 6] (by rw [hE] <;> rfl))
          · refine lv_iload S.1 S.2.1 d_M_types_211 (lv_at hl 0 rfl) ?_
            refine lv_goto (tgt := 241) S.1 S.2.1 d_M_types_213 rfl ?_
            refine lv_istore (lv' := [(8, .int ww), (5, .int ww), (4, .int (nI (bf i))), (3, .int (nI i)), (2, .int (nI pp)), (0, .ref (fk_a g 89)), (1, .int (nI f))]) S.1 S.2.1 d_M_types_241 hl (by decide) rfl (fun ls hl => ?_)
            have hE : fk_rtk (bf i) ww = ww := by unfold fk_rtk; rw [if_pos (by omega)]
            exact j243 Md H locs ls hz0 G (lv_sub hl [0, 1, 2, 3, 4, 5, 6] (by rw [hE] <;> rfl))
        have j164 : ∀  (H : Heap) (locs : List Loc) (ls : Array Slot), fk_H g ov (Mp) s H locs → lv_has ls 9 [(7, .int (fk_ris (M 90) (bf i) (bf (i + 1)) ww)), (5, .int ww), (4, .int (nI (bf i))), (3, .int (nI i)), (2, .int (nI pp)), (0, .ref (fk_a g 89)), (1, .int (nI f))] → W p l e (fk_rm (2)) s m args below meth c H locs 0 0 (MQ below (va_Qv (fun (_ : Unit) => True) (fun _ t9 => fk_Wd g ov (fk_w3 102 M (fk_rty bf sp sl (M 90) P 0 (upd (M 109) 0 (nI (decide (¬ M 90 f = 0)).toNat)) (M 89 30)).1 (sl P) (fk_rty bf sp sl (M 90) P 0 (upd (M 109) 0 (nI (decide (¬ M 90 f = 0)).toNat)) (M 89 30)).2 (M 102)) t9) (fk_A g)) args s 0 0 (fk_A g)) (F0 m 164 ls []) := by
          intro  H locs ls  G hl
          refine lv_iload S.1 S.2.1 d_M_types_164 (lv_at hl 0 rfl) ?_
          refine lv_iload S.1 S.2.1 d_M_types_166 (lv_at hl 1 rfl) ?_
          refine lv_icmp_ne (tgt := 199) S.1 S.2.1 d_M_types_168 rfl (fun hc9 => ?_) (fun hc9 => ?_)
          · refine lv_aload_n S.1 S.2.1 d_M_types_199 rfl (lv_at hl 5 rfl) ?_
            refine lv_iload_n S.1 S.2.1 d_M_types_200 rfl (lv_at hl 3 rfl) ?_
            refine fk_cvv S E G 89 (by decide) (congrArg (fk_ce g ov 89 (Mp 89)) kd_89) rfl (rest := []) (c_M_note l g ov Mp i) m_M_note i_787 ⟨rfl, rfl⟩ ⟨by decide, by decide⟩ rfl rfl hl.1 (Nat.le_of_ble_eq_true rfl) d_M_types_201 ⟨Nat.zero_le _, Nat.zero_le _⟩ (fun H locs G => ?_)
            have hcn := hcp.note (show (102 : Nat) ≠ 89 ∧ (102 : Nat) ≠ 109 by decide) i
            rw [show fk_nt pl i = (if ¬ fk_ris (M 90) (bf i) (bf (i + 1)) ww = ww ∨ (15 < bf i ∧ M 90 (bf (i + 1)) = 0) then fk_nt pl i else pl) from (if_pos (Or.inl hc9)).symm] at hcn
            exact j204 _ H locs ls hcn G (lv_sub hl [1, 2, 3, 4, 5, 6] rfl)
          · have hIs : fk_ris (M 90) (bf i) (bf (i + 1)) ww = ww := hc9
            refine lv_iload S.1 S.2.1 d_M_types_171 (lv_at hl 2 rfl) ?_
            refine lv_bipush (v := nI 15) S.1 S.2.1 d_M_types_173 (by decide +kernel) ?_
            refine fk_cle (tgt := 204) S.1 S.2.1 (by omega) (by omega) d_M_types_175 rfl (fun hc10 => ?_) (fun hc10 => ?_)
            · have hcn := hcp
              rw [show pl = (if ¬ fk_ris (M 90) (bf i) (bf (i + 1)) ww = ww ∨ (15 < bf i ∧ M 90 (bf (i + 1)) = 0) then fk_nt pl i else pl) from (if_neg (fun q => q.elim (fun q => q hIs) (fun q => by omega))).symm] at hcn
              exact j204 Mp H locs ls hcn G (lv_sub hl [1, 2, 3, 4, 5, 6] rfl)
            · have hw1 := hok.2.2.2 (by omega)
              have hd2 := fk_hd2 (k := bf i) (by omega)
              refine lv_aload_n S.1 S.2.1 d_M_types_178 rfl (lv_at hl 5 rfl) ?_
              refine fk_gf S E G 89 (by decide) (v := .ref (fk_a g 90)) (congrArg (fk_ce g ov 89 (Mp 89)) kd_89) rfl 2 (by decide) rfl i_624 rfl d_M_types_179 ?_
              refine lv_aload_n S.1 S.2.1 d_M_types_182 rfl (lv_at hl 5 rfl) ?_
              refine fk_gf S E G 89 (by decide) (v := .ref (fk_a g 100)) (congrArg (fk_ce g ov 89 (Mp 89)) kd_89) rfl 12 (by decide) rfl i_634 rfl d_M_types_183 ?_
              refine lv_bipush (v := nI 40) S.1 S.2.1 d_M_types_186 (by decide +kernel) ?_
              refine lv_iload_n S.1 S.2.1 d_M_types_188 rfl (lv_at hl 6 rfl) ?_
              refine fk_imul S.1 S.2.1 d_M_types_189 ?_
              refine lv_iload_n S.1 S.2.1 d_M_types_190 rfl (lv_at hl 3 rfl) ?_
              refine fk_iadd S.1 S.2.1 d_M_types_191 ?_
              refine lv_iconst (v := nI 1) S.1 S.2.1 d_M_types_192 (by decide +kernel) ?_
              refine fk_iadd S.1 S.2.1 d_M_types_193 ?_
              refine fk_ia S E G 100 (by decide) (congrArg (fk_ce g ov 100 (Mp 100)) kd_100) (40 * f + (i + 1)) rfl (by omega) (by decide) (v := nI (bf (i + 1))) (by rw [qc100]; exact hby (i + 1) (by omega)) d_M_types_194 ?_
              refine fk_za S E G 90 (by decide) (congrArg (fk_ce g ov 90 (Mp 90)) kd_90) (bf (i + 1)) rfl (by omega) (by decide) (v := M 90 (bf (i + 1))) (by rw [qc90]) d_M_types_195 ?_
              refine lv_if_ne (tgt := 204) S.1 S.2.1 d_M_types_196 rfl (fun hc11 => ?_) (fun hc11 => ?_)
              · have hcn := hcp
                rw [show pl = (if ¬ fk_ris (M 90) (bf i) (bf (i + 1)) ww = ww ∨ (15 < bf i ∧ M 90 (bf (i + 1)) = 0) then fk_nt pl i else pl) from (if_neg (fun q => q.elim (fun q => q hIs) (fun q => hc11 q.2))).symm] at hcn
                exact j204 Mp H locs ls hcn G (lv_sub hl [1, 2, 3, 4, 5, 6] rfl)
              · refine lv_aload_n S.1 S.2.1 d_M_types_199 rfl (lv_at hl 5 rfl) ?_
                refine lv_iload_n S.1 S.2.1 d_M_types_200 rfl (lv_at hl 3 rfl) ?_
                refine fk_cvv S E G 89 (by decide) (congrArg (fk_ce g ov 89 (Mp 89)) kd_89) rfl (rest := []) (c_M_note l g ov Mp i) m_M_note i_787 ⟨rfl, rfl⟩ ⟨by decide, by decide⟩ rfl rfl hl.1 (Nat.le_of_ble_eq_true rfl) d_M_types_201 ⟨Nat.zero_le _, Nat.zero_le _⟩ (fun H locs G => ?_)
                have hcn := hcp.note (show (102 : Nat) ≠ 89 ∧ (102 : Nat) ≠ 109 by decide) i
                rw [show fk_nt pl i = (if ¬ fk_ris (M 90) (bf i) (bf (i + 1)) ww = ww ∨ (15 < bf i ∧ M 90 (bf (i + 1)) = 0) then fk_nt pl i else pl) from (if_pos (Or.inr ⟨by omega, hc11⟩)).symm] at hcn
                exact j204 _ H locs ls hcn G (lv_sub hl [1, 2, 3, 4, 5, 6] rfl)
        have j105 : ∀  (H : Heap) (locs : List Loc) (ls : Array Slot), fk_H g ov (Mp) s H locs → lv_has ls 9 [(6, .int (nI (fk_gv (bf i)))), (5, .int ww), (4, .int (nI (bf i))), (3, .int (nI i)), (2, .int (nI pp)), (0, .ref (fk_a g 89)), (1, .int (nI f))] → W p l e (fk_rm (2)) s m args below meth c H locs 0 0 (MQ below (va_Qv (fun (_ : Unit) => True) (fun _ t9 => fk_Wd g ov (fk_w3 102 M (fk_rty bf sp sl (M 90) P 0 (upd (M 109) 0 (nI (decide (¬ M 90 f = 0)).toNat)) (M 89 30)).1 (sl P) (fk_rty bf sp sl (M 90) P 0 (upd (M 109) 0 (nI (decide (¬ M 90 f = 0)).toNat)) (M 89 30)).2 (M 102)) t9) (fk_A g)) args s 0 0 (fk_A g)) (F0 m 105 ls []) := by
          intro  H locs ls  G hl
          have hgv : fk_gv (bf i) < 2 := by
            unfold fk_gv
            split <;> omega
          refine lv_iload S.1 S.2.1 d_M_types_105 (lv_at hl 2 rfl) ?_
          refine lv_iconst (v := nI 3) S.1 S.2.1 d_M_types_107 (by decide +kernel) ?_
          refine fk_cne (tgt := 140) S.1 S.2.1 (by omega) (by omega) d_M_types_108 rfl (fun hc12 => ?_) (fun hc12 => ?_)
          · refine lv_iload S.1 S.2.1 d_M_types_140 (lv_at hl 2 rfl) ?_
            refine lv_bipush (v := nI 12) S.1 S.2.1 d_M_types_142 (by decide +kernel) ?_
            refine fk_cle (tgt := 152) S.1 S.2.1 (by omega) (by omega) d_M_types_144 rfl (fun hc13 => ?_) (fun hc13 => ?_)
            · refine lv_iload S.1 S.2.1 d_M_types_152 (lv_at hl 0 rfl) ?_
              refine fk_zeq (tgt := 161) S.1 S.2.1 (by omega) d_M_types_154 rfl (fun hc14 => ?_) (fun hc14 => ?_)
              · refine lv_iconst (v := nI 0) S.1 S.2.1 d_M_types_161 (by decide +kernel) ?_
                refine lv_istore (lv' := [(7, .int (nI 0)), (6, .int (nI (fk_gv (bf i)))), (5, .int ww), (4, .int (nI (bf i))), (3, .int (nI i)), (2, .int (nI pp)), (0, .ref (fk_a g 89)), (1, .int (nI f))]) S.1 S.2.1 d_M_types_162 hl (by decide) rfl (fun ls hl => ?_)
                have hE : fk_ris (M 90) (bf i) (bf (i + 1)) ww = nI 0 := by unfold fk_ris; rw [if_neg (by omega), if_neg (by omega), hc14]
                exact j164 H locs ls G (lv_sub hl [0, 2, 3, 4, 5, 6, 7] (by rw [hE] <;> rfl))
              · refine lv_iconst (v := nI 1) S.1 S.2.1 d_M_types_157 (by decide +kernel) ?_
                refine lv_goto (tgt := 162) S.1 S.2.1 d_M_types_158 rfl ?_
                refine lv_istore (lv' := [(7, .int (nI 1)), (6, .int (nI (fk_gv (bf i)))), (5, .int ww), (4, .int (nI (bf i))), (3, .int (nI i)), (2, .int (nI pp)), (0, .ref (fk_a g 89)), (1, .int (nI f))]) S.1 S.2.1 d_M_types_162 hl (by decide) rfl (fun ls hl => ?_)
                have hE : fk_ris (M 90) (bf i) (bf (i + 1)) ww = nI 1 := by unfold fk_ris; rw [if_neg (by omega), if_neg (by omega), show fk_gv (bf i) = 1 by omega]
                exact j164 H locs ls G (lv_sub hl [0, 2, 3, 4, 5, 6, 7] (by rw [hE] <;> rfl))
            · refine lv_iload S.1 S.2.1 d_M_types_147 (lv_at hl 1 rfl) ?_
              refine lv_goto (tgt := 162) S.1 S.2.1 d_M_types_149 rfl ?_
              refine lv_istore (lv' := [(7, .int ww), (6, .int (nI (fk_gv (bf i)))), (5, .int ww), (4, .int (nI (bf i))), (3, .int (nI i)), (2, .int (nI pp)), (0, .ref (fk_a g 89)), (1, .int (nI f))]) S.1 S.2.1 d_M_types_162 hl (by decide) rfl (fun ls hl => ?_)
              have hE : fk_ris (M 90) (bf i) (bf (i + 1)) ww = ww := by unfold fk_ris; rw [if_neg (by omega), if_pos (by omega)]
              exact j164 H locs ls G (lv_sub hl [0, 2, 3, 4, 5, 6, 7] (by rw [hE] <;> rfl))
          · have hw1 := hok.2.2.2 (by omega)
            have hd2 := fk_hd2 (k := bf i) (by omega)
            refine lv_aload_n S.1 S.2.1 d_M_types_111 rfl (lv_at hl 5 rfl) ?_
            refine fk_gf S E G 89 (by decide) (v := .ref (fk_a g 90)) (congrArg (fk_ce g ov 89 (Mp 89)) kd_89) rfl 2 (by decide) rfl i_624 rfl d_M_types_112 ?_
            refine lv_aload_n S.1 S.2.1 d_M_types_115 rfl (lv_at hl 5 rfl) ?_
            refine fk_gf S E G 89 (by decide) (v := .ref (fk_a g 100)) (congrArg (fk_ce g ov 89 (Mp 89)) kd_89) rfl 12 (by decide) rfl i_634 rfl d_M_types_116 ?_
            refine lv_bipush (v := nI 40) S.1 S.2.1 d_M_types_119 (by decide +kernel) ?_
            refine lv_iload_n S.1 S.2.1 d_M_types_121 rfl (lv_at hl 6 rfl) ?_
            refine fk_imul S.1 S.2.1 d_M_types_122 ?_
            refine lv_iload_n S.1 S.2.1 d_M_types_123 rfl (lv_at hl 3 rfl) ?_
            refine fk_iadd S.1 S.2.1 d_M_types_124 ?_
            refine lv_iconst (v := nI 1) S.1 S.2.1 d_M_types_125 (by decide +kernel) ?_
            refine fk_iadd S.1 S.2.1 d_M_types_126 ?_
            refine fk_ia S E G 100 (by decide) (congrArg (fk_ce g ov 100 (Mp 100)) kd_100) (40 * f + (i + 1)) rfl (by omega) (by decide) (v := nI (bf (i + 1))) (by rw [qc100]; exact hby (i + 1) (by omega)) d_M_types_127 ?_
            refine fk_za S E G 90 (by decide) (congrArg (fk_ce g ov 90 (Mp 90)) kd_90) (bf (i + 1)) rfl (by omega) (by decide) (v := M 90 (bf (i + 1))) (by rw [qc90]) d_M_types_128 ?_
            refine lv_if_eq (tgt := 136) S.1 S.2.1 d_M_types_129 rfl (fun hc15 => ?_) (fun hc15 => ?_)
            · refine lv_iconst (v := nI 0) S.1 S.2.1 d_M_types_136 (by decide +kernel) ?_
              refine lv_goto (tgt := 162) S.1 S.2.1 d_M_types_137 rfl ?_
              refine lv_istore (lv' := [(7, .int (nI 0)), (6, .int (nI (fk_gv (bf i)))), (5, .int ww), (4, .int (nI (bf i))), (3, .int (nI i)), (2, .int (nI pp)), (0, .ref (fk_a g 89)), (1, .int (nI f))]) S.1 S.2.1 d_M_types_162 hl (by decide) rfl (fun ls hl => ?_)
              have hE : fk_ris (M 90) (bf i) (bf (i + 1)) ww = nI 0 := by unfold fk_ris; rw [if_pos (by omega), decide_eq_false (fun q => q hc15)] <;> rfl
              exact j164 H locs ls G (lv_sub hl [0, 2, 3, 4, 5, 6, 7] (by rw [hE] <;> rfl))
            · refine lv_iconst (v := nI 1) S.1 S.2.1 d_M_types_132 (by decide +kernel) ?_
              refine lv_goto (tgt := 162) S.1 S.2.1 d_M_types_133 rfl ?_
              refine lv_istore (lv' := [(7, .int (nI 1)), (6, .int (nI (fk_gv (bf i)))), (5, .int ww), (4, .int (nI (bf i))), (3, .int (nI i)), (2, .int (nI pp)), (0, .ref (fk_a g 89)), (1, .int (nI f))]) S.1 S.2.1 d_M_types_162 hl (by decide) rfl (fun ls hl => ?_)
              have hE : fk_ris (M 90) (bf i) (bf (i + 1)) ww = nI 1 := by unfold fk_ris; rw [if_pos (by omega), decide_eq_true hc15] <;> rfl
              exact j164 H locs ls G (lv_sub hl [0, 2, 3, 4, 5, 6, 7] (by rw [hE] <;> rfl))
        refine lv_iload S.1 S.2.1 d_M_types_66 (lv_at hl 1 rfl) ?_
        refine lv_iconst (v := nI 1) S.1 S.2.1 d_M_types_68 (by decide +kernel) ?_
        refine fk_ceq (tgt := 98) S.1 S.2.1 (by omega) (by omega) d_M_types_69 rfl (fun hc16 => ?_) (fun hc16 => ?_)
        · refine lv_iconst (v := nI 1) S.1 S.2.1 d_M_types_98 (by decide +kernel) ?_
          refine lv_goto (tgt := 103) S.1 S.2.1 d_M_types_99 rfl ?_
          refine lv_istore (lv' := [(6, .int (nI 1)), (5, .int ww), (4, .int (nI (bf i))), (3, .int (nI i)), (2, .int (nI pp)), (0, .ref (fk_a g 89)), (1, .int (nI f))]) S.1 S.2.1 d_M_types_103 hl (by decide) rfl (fun ls hl => ?_)
          have hE : fk_gv (bf i) = 1 := by
            unfold fk_gv
            rw [if_pos (by omega)]
          exact j105 H locs ls G (lv_sub hl [0, 1, 2, 3, 4, 5, 6] (by rw [hE] <;> rfl))
        · refine lv_iload S.1 S.2.1 d_M_types_72 (lv_at hl 1 rfl) ?_
          refine lv_iconst (v := nI 2) S.1 S.2.1 d_M_types_74 (by decide +kernel) ?_
          refine fk_ceq (tgt := 98) S.1 S.2.1 (by omega) (by omega) d_M_types_75 rfl (fun hc17 => ?_) (fun hc17 => ?_)
          · refine lv_iconst (v := nI 1) S.1 S.2.1 d_M_types_98 (by decide +kernel) ?_
            refine lv_goto (tgt := 103) S.1 S.2.1 d_M_types_99 rfl ?_
            refine lv_istore (lv' := [(6, .int (nI 1)), (5, .int ww), (4, .int (nI (bf i))), (3, .int (nI i)), (2, .int (nI pp)), (0, .ref (fk_a g 89)), (1, .int (nI f))]) S.1 S.2.1 d_M_types_103 hl (by decide) rfl (fun ls hl => ?_)
            have hE : fk_gv (bf i) = 1 := by
              unfold fk_gv
              rw [if_pos (by omega)]
            exact j105 H locs ls G (lv_sub hl [0, 1, 2, 3, 4, 5, 6] (by rw [hE] <;> rfl))
          · refine lv_iload S.1 S.2.1 d_M_types_78 (lv_at hl 1 rfl) ?_
            refine lv_iconst (v := nI 4) S.1 S.2.1 d_M_types_80 (by decide +kernel) ?_
            refine fk_ceq (tgt := 98) S.1 S.2.1 (by omega) (by omega) d_M_types_81 rfl (fun hc18 => ?_) (fun hc18 => ?_)
            · refine lv_iconst (v := nI 1) S.1 S.2.1 d_M_types_98 (by decide +kernel) ?_
              refine lv_goto (tgt := 103) S.1 S.2.1 d_M_types_99 rfl ?_
              refine lv_istore (lv' := [(6, .int (nI 1)), (5, .int ww), (4, .int (nI (bf i))), (3, .int (nI i)), (2, .int (nI pp)), (0, .ref (fk_a g 89)), (1, .int (nI f))]) S.1 S.2.1 d_M_types_103 hl (by decide) rfl (fun ls hl => ?_)
              have hE : fk_gv (bf i) = 1 := by
                unfold fk_gv
                rw [if_pos (by omega)]
              exact j105 H locs ls G (lv_sub hl [0, 1, 2, 3, 4, 5, 6] (by rw [hE] <;> rfl))
            · refine lv_iload S.1 S.2.1 d_M_types_84 (lv_at hl 1 rfl) ?_
              refine lv_bipush (v := nI 8) S.1 S.2.1 d_M_types_86 (by decide +kernel) ?_
              refine fk_cle (tgt := 102) S.1 S.2.1 (by omega) (by omega) d_M_types_88 rfl (fun hc19 => ?_) (fun hc19 => ?_)
              · refine lv_iconst (v := nI 0) S.1 S.2.1 d_M_types_102 (by decide +kernel) ?_
                refine lv_istore (lv' := [(6, .int (nI 0)), (5, .int ww), (4, .int (nI (bf i))), (3, .int (nI i)), (2, .int (nI pp)), (0, .ref (fk_a g 89)), (1, .int (nI f))]) S.1 S.2.1 d_M_types_103 hl (by decide) rfl (fun ls hl => ?_)
                have hE : fk_gv (bf i) = 0 := by
                  unfold fk_gv
                  rw [if_neg (by omega)]
                exact j105 H locs ls G (lv_sub hl [0, 1, 2, 3, 4, 5, 6] (by rw [hE] <;> rfl))
              · refine lv_iload S.1 S.2.1 d_M_types_91 (lv_at hl 1 rfl) ?_
                refine lv_bipush (v := nI 13) S.1 S.2.1 d_M_types_93 (by decide +kernel) ?_
                refine fk_cge (tgt := 102) S.1 S.2.1 (by omega) (by omega) d_M_types_95 rfl (fun hc20 => ?_) (fun hc20 => ?_)
                · refine lv_iconst (v := nI 0) S.1 S.2.1 d_M_types_102 (by decide +kernel) ?_
                  refine lv_istore (lv' := [(6, .int (nI 0)), (5, .int ww), (4, .int (nI (bf i))), (3, .int (nI i)), (2, .int (nI pp)), (0, .ref (fk_a g 89)), (1, .int (nI f))]) S.1 S.2.1 d_M_types_103 hl (by decide) rfl (fun ls hl => ?_)
                  have hE : fk_gv (bf i) = 0 := by
                    unfold fk_gv
                    rw [if_neg (by omega)]
                  exact j105 H locs ls G (lv_sub hl [0, 1, 2, 3, 4, 5, 6] (by rw [hE] <;> rfl))
                · refine lv_iconst (v := nI 1) S.1 S.2.1 d_M_types_98 (by decide +kernel) ?_
                  refine lv_goto (tgt := 103) S.1 S.2.1 d_M_types_99 rfl ?_
                  refine lv_istore (lv' := [(6, .int (nI 1)), (5, .int ww), (4, .int (nI (bf i))), (3, .int (nI i)), (2, .int (nI pp)), (0, .ref (fk_a g 89)), (1, .int (nI f))]) S.1 S.2.1 d_M_types_103 hl (by decide) rfl (fun ls hl => ?_)
                  have hE : fk_gv (bf i) = 1 := by
                    unfold fk_gv
                    rw [if_pos (by omega)]
                  exact j105 H locs ls G (lv_sub hl [0, 1, 2, 3, 4, 5, 6] (by rw [hE] <;> rfl))
  refine lv_aload_n S.1 S.2.1 d_M_types_5 rfl (lv_at hl 0 rfl) ?_
  refine lv_aload_n S.1 S.2.1 d_M_types_6 rfl (lv_at hl 0 rfl) ?_
  refine fk_gf S E G 89 (by decide) (v := .ref (fk_a g 90)) (congrArg (fk_ce g ov 89 (M1 89)) kd_89) rfl 2 (by decide) rfl i_624 rfl d_M_types_7 ?_
  refine lv_iload_n S.1 S.2.1 d_M_types_10 rfl (lv_at hl 1 rfl) ?_
  refine fk_za S E G 90 (by decide) (congrArg (fk_ce g ov 90 (M1 90)) kd_90) f rfl (by omega) (by decide) (v := M 90 f) (by rw [hc0.2.2.2.2.2 90 (by decide) (by decide) (by decide)]) d_M_types_11 ?_
  refine lv_if_eq (tgt := 19) S.1 S.2.1 d_M_types_12 rfl (fun hc21 => ?_) (fun hc21 => ?_)
  · refine lv_iconst (v := nI 0) S.1 S.2.1 d_M_types_19 (by decide +kernel) ?_
    refine fk_cvv S E G 89 (by decide) (congrArg (fk_ce g ov 89 (M1 89)) kd_89) rfl (rest := []) (c_M_push l g ov M1 0 hc0.2.2.1 (by decide) (nI 0)) m_M_push i_749 ⟨rfl, rfl⟩ ⟨by decide, by decide⟩ rfl rfl hl.1 (Nat.le_of_ble_eq_true rfl) d_M_types_20 ⟨Nat.zero_le _, Nat.zero_le _⟩ (fun H locs G => ?_)
    refine lv_iconst (v := nI 0) S.1 S.2.1 d_M_types_23 (by decide +kernel) ?_
    refine lv_istore_n (lv' := [(2, .int (nI 0)), (0, .ref (fk_a g 89)), (1, .int (nI f))]) S.1 S.2.1 d_M_types_24 rfl hl (by decide) rfl (fun ls hl => ?_)
    exact loop P 0 (upd (M 109) 0 (nI 0)) (M 89 30) _ H locs ls (by omega) (by rw [hsl0]; exact hc0.push (show (102 : Nat) ≠ 89 ∧ (102 : Nat) ≠ 109 by decide) (nI 0)) (by rw [decide_eq_false (fun q => q hc21)] <;> rfl) G hl
  · refine lv_iconst (v := nI 1) S.1 S.2.1 d_M_types_15 (by decide +kernel) ?_
    refine lv_goto (tgt := 20) S.1 S.2.1 d_M_types_16 rfl ?_
    refine fk_cvv S E G 89 (by decide) (congrArg (fk_ce g ov 89 (M1 89)) kd_89) rfl (rest := []) (c_M_push l g ov M1 0 hc0.2.2.1 (by decide) (nI 1)) m_M_push i_749 ⟨rfl, rfl⟩ ⟨by decide, by decide⟩ rfl rfl hl.1 (Nat.le_of_ble_eq_true rfl) d_M_types_20 ⟨Nat.zero_le _, Nat.zero_le _⟩ (fun H locs G => ?_)
    refine lv_iconst (v := nI 0) S.1 S.2.1 d_M_types_23 (by decide +kernel) ?_
    refine lv_istore_n (lv' := [(2, .int (nI 0)), (0, .ref (fk_a g 89)), (1, .int (nI f))]) S.1 S.2.1 d_M_types_24 rfl hl (by decide) rfl (fun ls hl => ?_)
    exact loop P 0 (upd (M 109) 0 (nI 1)) (M 89 30) _ H locs ls (by omega) (by rw [hsl0]; exact hc0.push (show (102 : Nat) ≠ 89 ∧ (102 : Nat) ≠ 109 by decide) (nI 1)) (by rw [decide_eq_true hc21] <;> rfl) G hl
