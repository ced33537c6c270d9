/-! The reference: instant. Written by wip/gen/s_mod13.py. -/
def fk_rqm (P : Nat → Nat) (bb sp sl : Nat → Nat → Nat) (f : Nat) (M : fk_M) : fk_M := fk_w3 104 M (fk_ra (bb f) (sp f) (sl f) f (M 94) (M 103) (M 105) (P f) (M 109) (M 104)).1 0 (M 89 30) (fk_ra (bb f) (sp f) (sl f) f (M 94) (M 103) (M 105) (P f) (M 109) (M 104)).2
def fk_rqv (P : Nat → Nat) (bb sp sl : Nat → Nat → Nat) (f : Nat) (M : fk_M) : Int32 := (fk_ra (bb f) (sp f) (sl f) f (M 94) (M 103) (M 105) (P f) (M 109) (M 104)).1 0
def fk_pv (M : fk_M) (f : Nat) (v : Int32) : fk_M := va_up (va_up (va_up M 94 (upd (M 94) f v)) 96 (upd (M 96) f (nI 1))) 95 (upd (M 95) f (M 95 f + nI 1))
/-- flow f's turn in a round of an instant: which flows are known, the memory -/
def fk_ib (cl : Nat → Nat) (P : Nat → Nat) (bb sp sl : Nat → Nat → Nat) (f : Nat) (z : Int32 × fk_M) : Int32 × fk_M := if fk_wf z.1 f = true ∨ ¬ z.2 97 f &&& (z.1 ^^^ (-1)) = 0 then z else (z.1 ||| (nI 1 <<< (nI f &&& 31)), if fk_hm z.2 (cl f) = true then (if z.2 91 f = 0 then fk_pv (fk_rqm P bb sp sl f z.2) f (fk_rqv P bb sp sl f z.2) else fk_pv z.2 f (z.2 93 f)) else z.2)
def fk_ict (cl : Nat → Nat) (P : Nat → Nat) (bb sp sl : Nat → Nat → Nat) (z : Int32 × fk_M) : Nat → Int32 × fk_M
  | 0 => z
  | i + 1 => fk_ib cl P bb sp sl i (fk_ict cl P bb sp sl z i)
def fk_id (cnt : Nat) (cl : Nat → Nat) (P : Nat → Nat) (bb sp sl : Nat → Nat → Nat) (z : Int32 × fk_M) : Nat → Int32 × fk_M
  | 0 => z
  | r + 1 => fk_ict cl P bb sp sl (fk_id cnt cl P bb sp sl z r) cnt
def fk_ie (P : Nat → Nat) (bb sp sl : Nat → Nat → Nat) (M : fk_M) : Nat → fk_M
  | 0 => M
  | i + 1 => if fk_ie P bb sp sl M i 91 i = 0 then fk_rqm P bb sp sl i (fk_ie P bb sp sl M i) else fk_ie P bb sp sl M i
def fk_kpm (P : Nat → Nat) (bb sp sl on : Nat → Nat → Nat) (f : Nat) (M : fk_M) : fk_M := va_up (va_up M 103 (fk_kp M (bb f) (sp f) (on f) f (P f) 0 (M 103) (M 105)).1) 105 (fk_kp M (bb f) (sp f) (on f) f (P f) 0 (M 103) (M 105)).2
def fk_ig (P : Nat → Nat) (bb sp sl on : Nat → Nat → Nat) (M : fk_M) : Nat → fk_M
  | 0 => M
  | i + 1 => if fk_ig P bb sp sl on M i 91 i = 0 then fk_kpm P bb sp sl on i (fk_ig P bb sp sl on M i) else fk_ig P bb sp sl on M i
def fk_tk (M : fk_M) : fk_M := va_up M 89 (upd (M 89) 22 (M 89 22 + nI 1))
def fk_p0 (M : fk_M) (i : Nat) : fk_M := va_up M 96 (fk_fl (M 96) i 0)
/-- the memory after an instant -/
def fk_in (cnt : Nat) (cl : Nat → Nat) (P : Nat → Nat) (bb sp sl on : Nat → Nat → Nat) (M : fk_M) : fk_M := fk_tk (fk_ig P bb sp sl on (fk_ie P bb sp sl (fk_id cnt cl P bb sp sl (nI 0, fk_p0 M cnt) cnt).2 cnt) cnt)
def fk_Ri (M M' : fk_M) : Prop := fk_Rq M M' ∧ M' 93 = M 93 ∧ M' 97 = M 97 ∧ M' 102 = M 102
theorem fk_Ri.refl (M : fk_M) : fk_Ri M M := ⟨.refl M, rfl, rfl, rfl⟩
theorem fk_Ri.up {M M' : fk_M} (h : fk_Ri M M') {k : Nat} (hk : 94 ≤ k ∧ k ≠ 97 ∧ k ≠ 98 ∧ k ≠ 99 ∧ k ≠ 100 ∧ k ≠ 101 ∧ k ≠ 102) (w : Nat → Int32) : fk_Ri M (va_up M' k w) := by
  refine ⟨h.1.up (by omega) _, ?_, ?_, ?_⟩ <;> rw [va_up_ne _ _ (by omega)]
  · exact h.2.1
  · exact h.2.2.1
  · exact h.2.2.2
theorem fk_rqm_Ri {M M' : fk_M} (h : fk_Ri M M') (P : Nat → Nat) (bb sp sl : Nat → Nat → Nat) (f : Nat) : fk_Ri M (fk_rqm P bb sp sl f M') := by
  refine ⟨h.1.w3 (by decide) _ _ _ _, ?_, ?_, ?_⟩
  · exact h.2.1
  · exact h.2.2.1
  · exact h.2.2.2
theorem fk_pv_Ri {M M' : fk_M} (h : fk_Ri M M') (f : Nat) (v : Int32) : fk_Ri M (fk_pv M' f v) := ((h.up (k := 94) (by decide) _).up (k := 96) (by decide) _).up (k := 95) (by decide) _
theorem fk_ib_Ri {M : fk_M} {z : Int32 × fk_M} (h : fk_Ri M z.2) (cl : Nat → Nat) (P : Nat → Nat) (bb sp sl : Nat → Nat → Nat) (f : Nat) : fk_Ri M (fk_ib cl P bb sp sl f z).2 := by
  unfold fk_ib
  split
  · exact h
  · show fk_Ri M (if fk_hm z.2 (cl f) = true then (if z.2 91 f = 0 then fk_pv (fk_rqm P bb sp sl f z.2) f (fk_rqv P bb sp sl f z.2) else fk_pv z.2 f (z.2 93 f)) else z.2)
    split
    · split
      · exact fk_pv_Ri (fk_rqm_Ri h _ _ _ _ _) _ _
      · exact fk_pv_Ri h _ _
    · exact h
theorem fk_ict_Ri {M : fk_M} {z : Int32 × fk_M} (h : fk_Ri M z.2) (cl : Nat → Nat) (P : Nat → Nat) (bb sp sl : Nat → Nat → Nat) : ∀ i, fk_Ri M (fk_ict cl P bb sp sl z i).2 := by
  intro i
  induction i with
  | zero => exact h
  | succ i ih => exact fk_ib_Ri ih _ _ _ _ _ _
theorem fk_id_Ri {M : fk_M} {z : Int32 × fk_M} (h : fk_Ri M z.2) (cnt : Nat) (cl : Nat → Nat) (P : Nat → Nat) (bb sp sl : Nat → Nat → Nat) : ∀ i, fk_Ri M (fk_id cnt cl P bb sp sl z i).2 := by
  intro i
  induction i with
  | zero => exact h
  | succ i ih => exact fk_ict_Ri ih _ _ _ _ _ _
theorem fk_ie_Ri {M M' : fk_M} (h : fk_Ri M M') (P : Nat → Nat) (bb sp sl : Nat → Nat → Nat) : ∀ i, fk_Ri M (fk_ie P bb sp sl M' i) := by
  intro i
  induction i with
  | zero => exact h
  | succ i ih =>
    show fk_Ri M (if fk_ie P bb sp sl M' i 91 i = 0 then fk_rqm P bb sp sl i (fk_ie P bb sp sl M' i) else fk_ie P bb sp sl M' i)
    split
    · exact fk_rqm_Ri ih _ _ _ _ _
    · exact ih
theorem fk_ig_Ri {M M' : fk_M} (h : fk_Ri M M') (P : Nat → Nat) (bb sp sl on : Nat → Nat → Nat) : ∀ i, fk_Ri M (fk_ig P bb sp sl on M' i) := by
  intro i
  induction i with
  | zero => exact h
  | succ i ih =>
    show fk_Ri M (if fk_ig P bb sp sl on M' i 91 i = 0 then fk_kpm P bb sp sl on i (fk_ig P bb sp sl on M' i) else fk_ig P bb sp sl on M' i)
    split
    · exact (ih.up (k := 103) (by decide) _).up (k := 105) (by decide) _
    · exact ih
theorem fk_p0_Ri (M : fk_M) (i : Nat) : fk_Ri M (fk_p0 M i) := (fk_Ri.refl M).up (by decide) _
theorem d_M_instant_0 : decode b_M_instant 0 = .ok (.iconst 0, 1) := by decide +kernel
theorem d_M_instant_1 : decode b_M_instant 1 = .ok (.istore_n 1, 1) := by decide +kernel
theorem d_M_instant_2 : decode b_M_instant 2 = .ok (.iload_n 1, 1) := by decide +kernel
theorem d_M_instant_3 : decode b_M_instant 3 = .ok (.aload_n 0, 1) := by decide +kernel
theorem d_M_instant_4 : decode b_M_instant 4 = .ok (.getfield 94, 3) := by decide +kernel
theorem d_M_instant_7 : decode b_M_instant 7 = .ok (.if_icmp .ge 16, 3) := by decide +kernel
theorem d_M_instant_10 : decode b_M_instant 10 = .ok (.aload_n 0, 1) := by decide +kernel
theorem d_M_instant_11 : decode b_M_instant 11 = .ok (.getfield 29, 3) := by decide +kernel
theorem d_M_instant_14 : decode b_M_instant 14 = .ok (.iload_n 1, 1) := by decide +kernel
theorem d_M_instant_15 : decode b_M_instant 15 = .ok (.iconst 0, 1) := by decide +kernel
theorem d_M_instant_16 : decode b_M_instant 16 = .ok (.bastore, 1) := by decide +kernel
theorem d_M_instant_17 : decode b_M_instant 17 = .ok (.iinc 1 1, 3) := by decide +kernel
theorem d_M_instant_20 : decode b_M_instant 20 = .ok (.goto (-18), 3) := by decide +kernel
theorem d_M_instant_23 : decode b_M_instant 23 = .ok (.iconst 0, 1) := by decide +kernel
theorem d_M_instant_24 : decode b_M_instant 24 = .ok (.istore_n 1, 1) := by decide +kernel
theorem d_M_instant_25 : decode b_M_instant 25 = .ok (.iconst 0, 1) := by decide +kernel
theorem d_M_instant_26 : decode b_M_instant 26 = .ok (.istore_n 2, 1) := by decide +kernel
theorem d_M_instant_27 : decode b_M_instant 27 = .ok (.iload_n 2, 1) := by decide +kernel
theorem d_M_instant_28 : decode b_M_instant 28 = .ok (.aload_n 0, 1) := by decide +kernel
theorem d_M_instant_29 : decode b_M_instant 29 = .ok (.getfield 94, 3) := by decide +kernel
theorem d_M_instant_32 : decode b_M_instant 32 = .ok (.if_icmp .ge 118, 3) := by decide +kernel
theorem d_M_instant_35 : decode b_M_instant 35 = .ok (.iconst 0, 1) := by decide +kernel
theorem d_M_instant_36 : decode b_M_instant 36 = .ok (.istore_n 3, 1) := by decide +kernel
theorem d_M_instant_37 : decode b_M_instant 37 = .ok (.iload_n 3, 1) := by decide +kernel
theorem d_M_instant_38 : decode b_M_instant 38 = .ok (.aload_n 0, 1) := by decide +kernel
theorem d_M_instant_39 : decode b_M_instant 39 = .ok (.getfield 94, 3) := by decide +kernel
theorem d_M_instant_42 : decode b_M_instant 42 = .ok (.if_icmp .ge 102, 3) := by decide +kernel
theorem d_M_instant_45 : decode b_M_instant 45 = .ok (.iload_n 1, 1) := by decide +kernel
theorem d_M_instant_46 : decode b_M_instant 46 = .ok (.iload_n 3, 1) := by decide +kernel
theorem d_M_instant_47 : decode b_M_instant 47 = .ok (.ishr, 1) := by decide +kernel
theorem d_M_instant_48 : decode b_M_instant 48 = .ok (.iconst 1, 1) := by decide +kernel
theorem d_M_instant_49 : decode b_M_instant 49 = .ok (.iand, 1) := by decide +kernel
theorem d_M_instant_50 : decode b_M_instant 50 = .ok (.iconst 1, 1) := by decide +kernel
theorem d_M_instant_51 : decode b_M_instant 51 = .ok (.if_icmp .eq 87, 3) := by decide +kernel
theorem d_M_instant_54 : decode b_M_instant 54 = .ok (.aload_n 0, 1) := by decide +kernel
theorem d_M_instant_55 : decode b_M_instant 55 = .ok (.getfield 32, 3) := by decide +kernel
theorem d_M_instant_58 : decode b_M_instant 58 = .ok (.iload_n 3, 1) := by decide +kernel
theorem d_M_instant_59 : decode b_M_instant 59 = .ok (.iaload, 1) := by decide +kernel
theorem d_M_instant_60 : decode b_M_instant 60 = .ok (.iload_n 1, 1) := by decide +kernel
theorem d_M_instant_61 : decode b_M_instant 61 = .ok (.iconst (-1), 1) := by decide +kernel
theorem d_M_instant_62 : decode b_M_instant 62 = .ok (.ixor, 1) := by decide +kernel
theorem d_M_instant_63 : decode b_M_instant 63 = .ok (.iand, 1) := by decide +kernel
theorem d_M_instant_64 : decode b_M_instant 64 = .ok (.ifCond .eq 6, 3) := by decide +kernel
theorem d_M_instant_67 : decode b_M_instant 67 = .ok (.goto 71, 3) := by decide +kernel
theorem d_M_instant_70 : decode b_M_instant 70 = .ok (.iload_n 1, 1) := by decide +kernel
theorem d_M_instant_71 : decode b_M_instant 71 = .ok (.iconst 1, 1) := by decide +kernel
theorem d_M_instant_72 : decode b_M_instant 72 = .ok (.iload_n 3, 1) := by decide +kernel
theorem d_M_instant_73 : decode b_M_instant 73 = .ok (.ishl, 1) := by decide +kernel
theorem d_M_instant_74 : decode b_M_instant 74 = .ok (.ior, 1) := by decide +kernel
theorem d_M_instant_75 : decode b_M_instant 75 = .ok (.istore_n 1, 1) := by decide +kernel
theorem d_M_instant_76 : decode b_M_instant 76 = .ok (.aload_n 0, 1) := by decide +kernel
theorem d_M_instant_77 : decode b_M_instant 77 = .ok (.aload_n 0, 1) := by decide +kernel
theorem d_M_instant_78 : decode b_M_instant 78 = .ok (.getfield 16, 3) := by decide +kernel
theorem d_M_instant_81 : decode b_M_instant 81 = .ok (.iload_n 3, 1) := by decide +kernel
theorem d_M_instant_82 : decode b_M_instant 82 = .ok (.iaload, 1) := by decide +kernel
theorem d_M_instant_83 : decode b_M_instant 83 = .ok (.invokevirtual 170, 3) := by decide +kernel
theorem d_M_instant_86 : decode b_M_instant 86 = .ok (.ifCond .ne 6, 3) := by decide +kernel
theorem d_M_instant_89 : decode b_M_instant 89 = .ok (.goto 49, 3) := by decide +kernel
theorem d_M_instant_92 : decode b_M_instant 92 = .ok (.aload_n 0, 1) := by decide +kernel
theorem d_M_instant_93 : decode b_M_instant 93 = .ok (.getfield 23, 3) := by decide +kernel
theorem d_M_instant_96 : decode b_M_instant 96 = .ok (.iload_n 3, 1) := by decide +kernel
theorem d_M_instant_97 : decode b_M_instant 97 = .ok (.aload_n 0, 1) := by decide +kernel
theorem d_M_instant_98 : decode b_M_instant 98 = .ok (.getfield 13, 3) := by decide +kernel
theorem d_M_instant_101 : decode b_M_instant 101 = .ok (.iload_n 3, 1) := by decide +kernel
theorem d_M_instant_102 : decode b_M_instant 102 = .ok (.baload, 1) := by decide +kernel
theorem d_M_instant_103 : decode b_M_instant 103 = .ok (.ifCond .eq 12, 3) := by decide +kernel
theorem d_M_instant_106 : decode b_M_instant 106 = .ok (.aload_n 0, 1) := by decide +kernel
theorem d_M_instant_107 : decode b_M_instant 107 = .ok (.getfield 20, 3) := by decide +kernel
theorem d_M_instant_110 : decode b_M_instant 110 = .ok (.iload_n 3, 1) := by decide +kernel
theorem d_M_instant_111 : decode b_M_instant 111 = .ok (.iaload, 1) := by decide +kernel
theorem d_M_instant_112 : decode b_M_instant 112 = .ok (.goto 8, 3) := by decide +kernel
theorem d_M_instant_115 : decode b_M_instant 115 = .ok (.aload_n 0, 1) := by decide +kernel
theorem d_M_instant_116 : decode b_M_instant 116 = .ok (.iload_n 3, 1) := by decide +kernel
theorem d_M_instant_117 : decode b_M_instant 117 = .ok (.invokevirtual 174, 3) := by decide +kernel
theorem d_M_instant_120 : decode b_M_instant 120 = .ok (.iastore, 1) := by decide +kernel
theorem d_M_instant_121 : decode b_M_instant 121 = .ok (.aload_n 0, 1) := by decide +kernel
theorem d_M_instant_122 : decode b_M_instant 122 = .ok (.getfield 29, 3) := by decide +kernel
theorem d_M_instant_125 : decode b_M_instant 125 = .ok (.iload_n 3, 1) := by decide +kernel
theorem d_M_instant_126 : decode b_M_instant 126 = .ok (.iconst 1, 1) := by decide +kernel
theorem d_M_instant_127 : decode b_M_instant 127 = .ok (.bastore, 1) := by decide +kernel
theorem d_M_instant_128 : decode b_M_instant 128 = .ok (.aload_n 0, 1) := by decide +kernel
theorem d_M_instant_129 : decode b_M_instant 129 = .ok (.getfield 26, 3) := by decide +kernel
theorem d_M_instant_132 : decode b_M_instant 132 = .ok (.iload_n 3, 1) := by decide +kernel
theorem d_M_instant_133 : decode b_M_instant 133 = .ok (.dup2, 1) := by decide +kernel
theorem d_M_instant_134 : decode b_M_instant 134 = .ok (.iaload, 1) := by decide +kernel
theorem d_M_instant_135 : decode b_M_instant 135 = .ok (.iconst 1, 1) := by decide +kernel
theorem d_M_instant_136 : decode b_M_instant 136 = .ok (.iadd, 1) := by decide +kernel
theorem d_M_instant_137 : decode b_M_instant 137 = .ok (.iastore, 1) := by decide +kernel
theorem d_M_instant_138 : decode b_M_instant 138 = .ok (.iinc 3 1, 3) := by decide +kernel
theorem d_M_instant_141 : decode b_M_instant 141 = .ok (.goto (-104), 3) := by decide +kernel
theorem d_M_instant_144 : decode b_M_instant 144 = .ok (.iinc 2 1, 3) := by decide +kernel
theorem d_M_instant_147 : decode b_M_instant 147 = .ok (.goto (-120), 3) := by decide +kernel
theorem d_M_instant_150 : decode b_M_instant 150 = .ok (.iconst 0, 1) := by decide +kernel
theorem d_M_instant_151 : decode b_M_instant 151 = .ok (.istore_n 2, 1) := by decide +kernel
theorem d_M_instant_152 : decode b_M_instant 152 = .ok (.iload_n 2, 1) := by decide +kernel
theorem d_M_instant_153 : decode b_M_instant 153 = .ok (.aload_n 0, 1) := by decide +kernel
theorem d_M_instant_154 : decode b_M_instant 154 = .ok (.getfield 94, 3) := by decide +kernel
theorem d_M_instant_157 : decode b_M_instant 157 = .ok (.if_icmp .ge 24, 3) := by decide +kernel
theorem d_M_instant_160 : decode b_M_instant 160 = .ok (.aload_n 0, 1) := by decide +kernel
theorem d_M_instant_161 : decode b_M_instant 161 = .ok (.getfield 13, 3) := by decide +kernel
theorem d_M_instant_164 : decode b_M_instant 164 = .ok (.iload_n 2, 1) := by decide +kernel
theorem d_M_instant_165 : decode b_M_instant 165 = .ok (.baload, 1) := by decide +kernel
theorem d_M_instant_166 : decode b_M_instant 166 = .ok (.ifCond .ne 9, 3) := by decide +kernel
theorem d_M_instant_169 : decode b_M_instant 169 = .ok (.aload_n 0, 1) := by decide +kernel
theorem d_M_instant_170 : decode b_M_instant 170 = .ok (.iload_n 2, 1) := by decide +kernel
theorem d_M_instant_171 : decode b_M_instant 171 = .ok (.invokevirtual 174, 3) := by decide +kernel
theorem d_M_instant_174 : decode b_M_instant 174 = .ok (.pop, 1) := by decide +kernel
theorem d_M_instant_175 : decode b_M_instant 175 = .ok (.iinc 2 1, 3) := by decide +kernel
theorem d_M_instant_178 : decode b_M_instant 178 = .ok (.goto (-26), 3) := by decide +kernel
theorem d_M_instant_181 : decode b_M_instant 181 = .ok (.iconst 0, 1) := by decide +kernel
theorem d_M_instant_182 : decode b_M_instant 182 = .ok (.istore_n 2, 1) := by decide +kernel
theorem d_M_instant_183 : decode b_M_instant 183 = .ok (.iload_n 2, 1) := by decide +kernel
theorem d_M_instant_184 : decode b_M_instant 184 = .ok (.aload_n 0, 1) := by decide +kernel
theorem d_M_instant_185 : decode b_M_instant 185 = .ok (.getfield 94, 3) := by decide +kernel
theorem d_M_instant_188 : decode b_M_instant 188 = .ok (.if_icmp .ge 23, 3) := by decide +kernel
theorem d_M_instant_191 : decode b_M_instant 191 = .ok (.aload_n 0, 1) := by decide +kernel
theorem d_M_instant_192 : decode b_M_instant 192 = .ok (.getfield 13, 3) := by decide +kernel
theorem d_M_instant_195 : decode b_M_instant 195 = .ok (.iload_n 2, 1) := by decide +kernel
theorem d_M_instant_196 : decode b_M_instant 196 = .ok (.baload, 1) := by decide +kernel
theorem d_M_instant_197 : decode b_M_instant 197 = .ok (.ifCond .ne 8, 3) := by decide +kernel
theorem d_M_instant_200 : decode b_M_instant 200 = .ok (.aload_n 0, 1) := by decide +kernel
theorem d_M_instant_201 : decode b_M_instant 201 = .ok (.iload_n 2, 1) := by decide +kernel
theorem d_M_instant_202 : decode b_M_instant 202 = .ok (.invokevirtual 177, 3) := by decide +kernel
theorem d_M_instant_205 : decode b_M_instant 205 = .ok (.iinc 2 1, 3) := by decide +kernel
theorem d_M_instant_208 : decode b_M_instant 208 = .ok (.goto (-25), 3) := by decide +kernel
theorem d_M_instant_211 : decode b_M_instant 211 = .ok (.aload_n 0, 1) := by decide +kernel
theorem d_M_instant_212 : decode b_M_instant 212 = .ok (.dup, 1) := by decide +kernel
theorem d_M_instant_213 : decode b_M_instant 213 = .ok (.getfield 84, 3) := by decide +kernel
theorem d_M_instant_216 : decode b_M_instant 216 = .ok (.iconst 1, 1) := by decide +kernel
theorem d_M_instant_217 : decode b_M_instant 217 = .ok (.iadd, 1) := by decide +kernel
theorem d_M_instant_218 : decode b_M_instant 218 = .ok (.putfield 84, 3) := by decide +kernel
theorem d_M_instant_221 : decode b_M_instant 221 = .ok (.return_, 1) := by decide +kernel
theorem m_M_instant : fk_MI y_M_instant b_M_instant 4 none 0 := ⟨i_822, i_821, fk_mp (q := (y_M_instant, 31)) (by decide +kernel), i_8, by decide +kernel⟩
set_option maxHeartbeats 4000000 in
set_option maxRecDepth 100000 in
theorem c_M_instant (l : Launch) (g : fk_G) (ov : Int64) (M : fk_M) (cnt : Nat) (cl N P : Nat → Nat) (bb sp sl : Nat → Nat → Nat) (hRS : fk_RS M cnt cl N P bb sp sl) (on : Nat → Nat → Nat) (hgd : ∀ f, f < cnt → M 91 f = 0 → ¬ M 98 f = 0) (hon : ∀ f, f < cnt → M 91 f = 0 → ∀ q, q < P f → M 102 (40 * f + sp f q) = nI (on f q) ∧ on f q < 25) : fk_CV l y_M_instant b_M_instant 4 (fk_rm 3) g ov M (fk_in cnt cl P bb sp sl on M) [.ref (fk_a g 89)] := by
  refine fk_ofV rfl (Nat.le_of_ble_eq_true rfl) ?_
  intro p e s m args below meth c ls S hr hlk E G hl
  have hl : lv_has ls 4 [(0, .ref (fk_a g 89))] := hl
  have hcnt := hRS.1
  have hn0 := hRS.2.1
  have hrd : fk_Ri M (fk_id cnt cl P bb sp sl (nI 0, fk_p0 M cnt) cnt).2 := fk_id_Ri (z := (nI 0, fk_p0 M cnt)) (fk_p0_Ri M cnt) cnt cl P bb sp sl cnt
  have loopd : ∀ (d : Nat) (i : Nat) (H : Heap) (locs : List Loc) (ls : Array Slot), i + d = cnt → fk_H g ov (fk_ig P bb sp sl on (fk_ie P bb sp sl (fk_id cnt cl P bb sp sl (nI 0, fk_p0 M cnt) cnt).2 cnt) i) s H locs → lv_has ls 4 [(2, .int (nI i)), (0, .ref (fk_a g 89))] → W p l e (fk_rm (3)) s m args below meth c H locs 0 0 (MQ below (va_Qv (fun (_ : Unit) => True) (fun _ t9 => fk_Wd g ov (fk_in cnt cl P bb sp sl on M) t9) (fk_A g)) args s 0 0 (fk_A g)) (F0 m 183 ls []) := by
    intro d
    induction d with
    | zero =>
      intro i H locs ls hv0 G hl
      obtain ⟨Mi, hMi⟩ : ∃ z : fk_M, z = fk_ig P bb sp sl on (fk_ie P bb sp sl (fk_id cnt cl P bb sp sl (nI 0, fk_p0 M cnt) cnt).2 cnt) i := ⟨_, rfl⟩
      rw [← hMi] at G
      have hri := (show fk_Ri M Mi by rw [hMi]; exact fk_ig_Ri (fk_ie_Ri hrd P bb sp sl cnt) P bb sp sl on i)
      have hin : Mi 89 1 = nI cnt := hri.1.1.trans hn0
      have e91 : Mi 91 = M 91 := hri.1.2.2.1
      refine lv_iload_n S.1 S.2.1 d_M_instant_183 rfl (lv_at hl 0 rfl) ?_
      refine lv_aload_n S.1 S.2.1 d_M_instant_184 rfl (lv_at hl 1 rfl) ?_
      refine fk_gf S E G 89 (by decide) (v := .int (Mi 89 1)) (congrArg (fk_ce g ov 89 (Mi 89)) kd_89) rfl 1 (by decide) rfl i_623 rfl d_M_instant_185 ?_
      rw [hin]
      refine fk_cge (tgt := 211) S.1 S.2.1 (by omega) (by omega) d_M_instant_188 rfl (fun hc1 => ?_) (fun hc1 => ?_)
      · have hi9 : i = cnt := by omega
        refine lv_aload_n S.1 S.2.1 d_M_instant_211 rfl (lv_at hl 1 rfl) ?_
        refine lv_dup S.1 S.2.1 d_M_instant_212 rfl ?_
        refine fk_gf S E G 89 (by decide) (v := .int (Mi 89 22)) (congrArg (fk_ce g ov 89 (Mi 89)) kd_89) rfl 22 (by decide) rfl i_644 rfl d_M_instant_213 ?_
        refine lv_iconst (v := nI 1) S.1 S.2.1 d_M_instant_216 (by decide +kernel) ?_
        refine lv_iadd S.1 S.2.1 d_M_instant_217 ?_
        refine fk_pf S E G 89 (by decide) (congrArg (fk_ce g ov 89 (Mi 89)) kd_89) rfl 22 (by decide) rfl i_644 (upd (Mi 89) 22 ((Mi 89 22) + (nI 1))) (congrArg (fk_ce g ov 89 (upd (Mi 89) 22 ((Mi 89 22) + (nI 1)))) kd_89) rfl (ty := (.int)) (by decide +kernel) rfl rfl (Nat.le_of_ble_eq_true rfl) d_M_instant_218 (fun H locs G => ?_)
        obtain ⟨M2, hM2⟩ : ∃ z : fk_M, z = va_up Mi 89 (upd (Mi 89) 22 ((Mi 89 22) + (nI 1))) := ⟨_, rfl⟩
        rw [← hM2] at G
        exact fk_vret S hr hlk E G (by unfold fk_in fk_tk; rw [hM2, hMi, hi9]) d_M_instant_221
      · exact absurd hv0 (by omega)
    | succ d ih =>
      intro i H locs ls hv0 G hl
      obtain ⟨Mi, hMi⟩ : ∃ z : fk_M, z = fk_ig P bb sp sl on (fk_ie P bb sp sl (fk_id cnt cl P bb sp sl (nI 0, fk_p0 M cnt) cnt).2 cnt) i := ⟨_, rfl⟩
      rw [← hMi] at G
      have hri := (show fk_Ri M Mi by rw [hMi]; exact fk_ig_Ri (fk_ie_Ri hrd P bb sp sl cnt) P bb sp sl on i)
      have hin : Mi 89 1 = nI cnt := hri.1.1.trans hn0
      have e91 : Mi 91 = M 91 := hri.1.2.2.1
      refine lv_iload_n S.1 S.2.1 d_M_instant_183 rfl (lv_at hl 0 rfl) ?_
      refine lv_aload_n S.1 S.2.1 d_M_instant_184 rfl (lv_at hl 1 rfl) ?_
      refine fk_gf S E G 89 (by decide) (v := .int (Mi 89 1)) (congrArg (fk_ce g ov 89 (Mi 89)) kd_89) rfl 1 (by decide) rfl i_623 rfl d_M_instant_185 ?_
      rw [hin]
      refine fk_cge (tgt := 211) S.1 S.2.1 (by omega) (by omega) d_M_instant_188 rfl (fun hc3 => ?_) (fun hc3 => ?_)
      · exact absurd hv0 (by omega)
      · refine lv_aload_n S.1 S.2.1 d_M_instant_191 rfl (lv_at hl 1 rfl) ?_
        refine fk_gf S E G 89 (by decide) (v := .ref (fk_a g 91)) (congrArg (fk_ce g ov 89 (Mi 89)) kd_89) rfl 3 (by decide) rfl i_625 rfl d_M_instant_192 ?_
        refine lv_iload_n S.1 S.2.1 d_M_instant_195 rfl (lv_at hl 0 rfl) ?_
        refine fk_za S E G 91 (by decide) (congrArg (fk_ce g ov 91 (Mi 91)) kd_91) i rfl (by omega) (by decide) (v := M 91 i) (by rw [e91]) d_M_instant_196 ?_
        refine lv_if_ne (tgt := 205) S.1 S.2.1 d_M_instant_197 rfl (fun hc4 => ?_) (fun hc4 => ?_)
        · refine lv_iinc (k := 0) (v := nI (i + 1)) (lv' := [(2, .int (nI (i + 1))), (0, .ref (fk_a g 89))]) S.1 S.2.1 d_M_instant_205 hl rfl (nI_1 i) (by decide) rfl (fun ls hl => ?_)
          refine lv_goto (tgt := 183) S.1 S.2.1 d_M_instant_208 rfl ?_
          have hst : fk_ig P bb sp sl on (fk_ie P bb sp sl (fk_id cnt cl P bb sp sl (nI 0, fk_p0 M cnt) cnt).2 cnt) (i + 1) = if fk_ig P bb sp sl on (fk_ie P bb sp sl (fk_id cnt cl P bb sp sl (nI 0, fk_p0 M cnt) cnt).2 cnt) i 91 i = 0 then fk_kpm P bb sp sl on i (fk_ig P bb sp sl on (fk_ie P bb sp sl (fk_id cnt cl P bb sp sl (nI 0, fk_p0 M cnt) cnt).2 cnt) i) else fk_ig P bb sp sl on (fk_ie P bb sp sl (fk_id cnt cl P bb sp sl (nI 0, fk_p0 M cnt) cnt).2 cnt) i := rfl
          rw [← hMi, e91, if_neg hc4] at hst
          rw [← hst] at G
          exact ih (i + 1) H locs ls (by omega) G (lv_sub hl [0, 1] rfl)
        · obtain ⟨-, -, hRi⟩ := hRS.of hri.1
          obtain ⟨a1, a2, b1, b2, b3, b4, b5, b6, b7, b8⟩ := hRi i (by omega)
          refine lv_aload_n S.1 S.2.1 d_M_instant_200 rfl (lv_at hl 1 rfl) ?_
          refine lv_iload_n S.1 S.2.1 d_M_instant_201 rfl (lv_at hl 0 rfl) ?_
          refine fk_cvv S E G 89 (by decide) (congrArg (fk_ce g ov 89 (Mi 89)) kd_89) rfl (rest := []) (show fk_CV _ _ _ _ _ _ _ _ (fk_kpm P bb sp sl on i Mi) _ from c_M_keep l g ov Mi i (by omega) (bb i) (N i) cnt (sp i) (sl i) (P i) b1 hcnt b2 b3 b4 b5 b6 b7 (on i) (fun q hq => by rw [hri.2.2.2]; exact (hon i (by omega) hc4 q hq).1) (fun q hq => (hon i (by omega) hc4 q hq).2)) m_M_keep i_834 ⟨rfl, rfl⟩ ⟨by decide, by decide⟩ rfl rfl hl.1 (Nat.le_of_ble_eq_true rfl) d_M_instant_202 ⟨Nat.zero_le _, Nat.zero_le _⟩ (fun H locs G => ?_)
          refine lv_iinc (k := 0) (v := nI (i + 1)) (lv' := [(2, .int (nI (i + 1))), (0, .ref (fk_a g 89))]) S.1 S.2.1 d_M_instant_205 hl rfl (nI_1 i) (by decide) rfl (fun ls hl => ?_)
          refine lv_goto (tgt := 183) S.1 S.2.1 d_M_instant_208 rfl ?_
          have hst : fk_ig P bb sp sl on (fk_ie P bb sp sl (fk_id cnt cl P bb sp sl (nI 0, fk_p0 M cnt) cnt).2 cnt) (i + 1) = if fk_ig P bb sp sl on (fk_ie P bb sp sl (fk_id cnt cl P bb sp sl (nI 0, fk_p0 M cnt) cnt).2 cnt) i 91 i = 0 then fk_kpm P bb sp sl on i (fk_ig P bb sp sl on (fk_ie P bb sp sl (fk_id cnt cl P bb sp sl (nI 0, fk_p0 M cnt) cnt).2 cnt) i) else fk_ig P bb sp sl on (fk_ie P bb sp sl (fk_id cnt cl P bb sp sl (nI 0, fk_p0 M cnt) cnt).2 cnt) i := rfl
          rw [← hMi, e91, if_pos hc4] at hst
          rw [← hst] at G
          exact ih (i + 1) H locs ls (by omega) G (lv_sub hl [0, 1] rfl)
  have loopc : ∀ (d : Nat) (i : Nat) (H : Heap) (locs : List Loc) (ls : Array Slot), i + d = cnt → fk_H g ov (fk_ie P bb sp sl (fk_id cnt cl P bb sp sl (nI 0, fk_p0 M cnt) cnt).2 i) s H locs → lv_has ls 4 [(2, .int (nI i)), (0, .ref (fk_a g 89))] → W p l e (fk_rm (3)) s m args below meth c H locs 0 0 (MQ below (va_Qv (fun (_ : Unit) => True) (fun _ t9 => fk_Wd g ov (fk_in cnt cl P bb sp sl on M) t9) (fk_A g)) args s 0 0 (fk_A g)) (F0 m 152 ls []) := by
    intro d
    induction d with
    | zero =>
      intro i H locs ls hv0 G hl
      obtain ⟨Mi, hMi⟩ : ∃ z : fk_M, z = fk_ie P bb sp sl (fk_id cnt cl P bb sp sl (nI 0, fk_p0 M cnt) cnt).2 i := ⟨_, rfl⟩
      rw [← hMi] at G
      have hri := (show fk_Ri M Mi by rw [hMi]; exact fk_ie_Ri hrd P bb sp sl i)
      have hin : Mi 89 1 = nI cnt := hri.1.1.trans hn0
      have e91 : Mi 91 = M 91 := hri.1.2.2.1
      refine lv_iload_n S.1 S.2.1 d_M_instant_152 rfl (lv_at hl 0 rfl) ?_
      refine lv_aload_n S.1 S.2.1 d_M_instant_153 rfl (lv_at hl 1 rfl) ?_
      refine fk_gf S E G 89 (by decide) (v := .int (Mi 89 1)) (congrArg (fk_ce g ov 89 (Mi 89)) kd_89) rfl 1 (by decide) rfl i_623 rfl d_M_instant_154 ?_
      rw [hin]
      refine fk_cge (tgt := 181) S.1 S.2.1 (by omega) (by omega) d_M_instant_157 rfl (fun hc5 => ?_) (fun hc5 => ?_)
      · have hi9 : i = cnt := by omega
        refine lv_iconst (v := nI 0) S.1 S.2.1 d_M_instant_181 (by decide +kernel) ?_
        refine lv_istore_n (lv' := [(2, .int (nI 0)), (0, .ref (fk_a g 89))]) S.1 S.2.1 d_M_instant_182 rfl hl (by decide) rfl (fun ls hl => ?_)
        rw [hMi, hi9] at G
        exact loopd cnt 0 H locs ls (by omega) G (lv_sub hl [0, 1] rfl)
      · exact absurd hv0 (by omega)
    | succ d ih =>
      intro i H locs ls hv0 G hl
      obtain ⟨Mi, hMi⟩ : ∃ z : fk_M, z = fk_ie P bb sp sl (fk_id cnt cl P bb sp sl (nI 0, fk_p0 M cnt) cnt).2 i := ⟨_, rfl⟩
      rw [← hMi] at G
      have hri := (show fk_Ri M Mi by rw [hMi]; exact fk_ie_Ri hrd P bb sp sl i)
      have hin : Mi 89 1 = nI cnt := hri.1.1.trans hn0
      have e91 : Mi 91 = M 91 := hri.1.2.2.1
      refine lv_iload_n S.1 S.2.1 d_M_instant_152 rfl (lv_at hl 0 rfl) ?_
      refine lv_aload_n S.1 S.2.1 d_M_instant_153 rfl (lv_at hl 1 rfl) ?_
      refine fk_gf S E G 89 (by decide) (v := .int (Mi 89 1)) (congrArg (fk_ce g ov 89 (Mi 89)) kd_89) rfl 1 (by decide) rfl i_623 rfl d_M_instant_154 ?_
      rw [hin]
      refine fk_cge (tgt := 181) S.1 S.2.1 (by omega) (by omega) d_M_instant_157 rfl (fun hc6 => ?_) (fun hc6 => ?_)
      · exact absurd hv0 (by omega)
      · refine lv_aload_n S.1 S.2.1 d_M_instant_160 rfl (lv_at hl 1 rfl) ?_
        refine fk_gf S E G 89 (by decide) (v := .ref (fk_a g 91)) (congrArg (fk_ce g ov 89 (Mi 89)) kd_89) rfl 3 (by decide) rfl i_625 rfl d_M_instant_161 ?_
        refine lv_iload_n S.1 S.2.1 d_M_instant_164 rfl (lv_at hl 0 rfl) ?_
        refine fk_za S E G 91 (by decide) (congrArg (fk_ce g ov 91 (Mi 91)) kd_91) i rfl (by omega) (by decide) (v := M 91 i) (by rw [e91]) d_M_instant_165 ?_
        refine lv_if_ne (tgt := 175) S.1 S.2.1 d_M_instant_166 rfl (fun hc7 => ?_) (fun hc7 => ?_)
        · refine lv_iinc (k := 0) (v := nI (i + 1)) (lv' := [(2, .int (nI (i + 1))), (0, .ref (fk_a g 89))]) S.1 S.2.1 d_M_instant_175 hl rfl (nI_1 i) (by decide) rfl (fun ls hl => ?_)
          refine lv_goto (tgt := 152) S.1 S.2.1 d_M_instant_178 rfl ?_
          have hst : fk_ie P bb sp sl (fk_id cnt cl P bb sp sl (nI 0, fk_p0 M cnt) cnt).2 (i + 1) = if fk_ie P bb sp sl (fk_id cnt cl P bb sp sl (nI 0, fk_p0 M cnt) cnt).2 i 91 i = 0 then fk_rqm P bb sp sl i (fk_ie P bb sp sl (fk_id cnt cl P bb sp sl (nI 0, fk_p0 M cnt) cnt).2 i) else fk_ie P bb sp sl (fk_id cnt cl P bb sp sl (nI 0, fk_p0 M cnt) cnt).2 i := rfl
          rw [← hMi, e91, if_neg hc7] at hst
          rw [← hst] at G
          exact ih (i + 1) H locs ls (by omega) G (lv_sub hl [0, 1] rfl)
        · obtain ⟨-, -, hRi⟩ := hRS.of hri.1
          obtain ⟨a1, a2, b1, b2, b3, b4, b5, b6, b7, b8⟩ := hRi i (by omega)
          refine lv_aload_n S.1 S.2.1 d_M_instant_169 rfl (lv_at hl 1 rfl) ?_
          refine lv_iload_n S.1 S.2.1 d_M_instant_170 rfl (lv_at hl 0 rfl) ?_
          refine fk_cvi S E G 89 (by decide) (congrArg (fk_ce g ov 89 (Mi 89)) kd_89) rfl (rest := []) (show fk_CI _ _ _ _ _ _ _ _ _ (fk_rqm P bb sp sl i Mi) _ (fk_rqv P bb sp sl i Mi) from c_M_reckonAll l g ov Mi i (by omega) (bb i) (N i) cnt (sp i) (sl i) (P i) b1 hcnt b2 b3 b4 b5 b6 b7 (b8 (by rw [hri.1.2.2.2.2.1]; exact hgd i (by omega) hc7))) m_M_reckonAll i_827 ⟨rfl, rfl⟩ ⟨by decide, by decide⟩ rfl rfl hl.1 (Nat.le_of_ble_eq_true rfl) d_M_instant_171 ⟨Nat.zero_le _, Nat.zero_le _⟩ (fun H locs G => ?_)
          refine lv_pop S.1 S.2.1 d_M_instant_174 rfl ?_
          refine lv_iinc (k := 0) (v := nI (i + 1)) (lv' := [(2, .int (nI (i + 1))), (0, .ref (fk_a g 89))]) S.1 S.2.1 d_M_instant_175 hl rfl (nI_1 i) (by decide) rfl (fun ls hl => ?_)
          refine lv_goto (tgt := 152) S.1 S.2.1 d_M_instant_178 rfl ?_
          have hst : fk_ie P bb sp sl (fk_id cnt cl P bb sp sl (nI 0, fk_p0 M cnt) cnt).2 (i + 1) = if fk_ie P bb sp sl (fk_id cnt cl P bb sp sl (nI 0, fk_p0 M cnt) cnt).2 i 91 i = 0 then fk_rqm P bb sp sl i (fk_ie P bb sp sl (fk_id cnt cl P bb sp sl (nI 0, fk_p0 M cnt) cnt).2 i) else fk_ie P bb sp sl (fk_id cnt cl P bb sp sl (nI 0, fk_p0 M cnt) cnt).2 i := rfl
          rw [← hMi, e91, if_pos hc7] at hst
          rw [← hst] at G
          exact ih (i + 1) H locs ls (by omega) G (lv_sub hl [0, 1] rfl)
  have loopr : ∀ (d : Nat) (r : Nat) (H : Heap) (locs : List Loc) (ls : Array Slot), r + d = cnt → fk_H g ov ((fk_id cnt cl P bb sp sl (nI 0, fk_p0 M cnt) r).2) s H locs → lv_has ls 4 [(2, .int (nI r)), (1, .int ((fk_id cnt cl P bb sp sl (nI 0, fk_p0 M cnt) r).1)), (0, .ref (fk_a g 89))] → W p l e (fk_rm (3)) s m args below meth c H locs 0 0 (MQ below (va_Qv (fun (_ : Unit) => True) (fun _ t9 => fk_Wd g ov (fk_in cnt cl P bb sp sl on M) t9) (fk_A g)) args s 0 0 (fk_A g)) (F0 m 27 ls []) := by
    intro d
    induction d with
    | zero =>
      intro r H locs ls hv0 G hl
      obtain ⟨Mi, hMi⟩ : ∃ z : fk_M, z = (fk_id cnt cl P bb sp sl (nI 0, fk_p0 M cnt) r).2 := ⟨_, rfl⟩
      rw [← hMi] at G
      have hri := (show fk_Ri M Mi by rw [hMi]; exact fk_id_Ri (z := (nI 0, fk_p0 M cnt)) (fk_p0_Ri M cnt) cnt cl P bb sp sl r)
      have hin : Mi 89 1 = nI cnt := hri.1.1.trans hn0
      have e91 : Mi 91 = M 91 := hri.1.2.2.1
      refine lv_iload_n S.1 S.2.1 d_M_instant_27 rfl (lv_at hl 0 rfl) ?_
      refine lv_aload_n S.1 S.2.1 d_M_instant_28 rfl (lv_at hl 2 rfl) ?_
      refine fk_gf S E G 89 (by decide) (v := .int (Mi 89 1)) (congrArg (fk_ce g ov 89 (Mi 89)) kd_89) rfl 1 (by decide) rfl i_623 rfl d_M_instant_29 ?_
      rw [hin]
      refine fk_cge (tgt := 150) S.1 S.2.1 (by omega) (by omega) d_M_instant_32 rfl (fun hc8 => ?_) (fun hc8 => ?_)
      · have hr9 : r = cnt := by omega
        refine lv_iconst (v := nI 0) S.1 S.2.1 d_M_instant_150 (by decide +kernel) ?_
        refine lv_istore_n (lv' := [(2, .int (nI 0)), (1, .int ((fk_id cnt cl P bb sp sl (nI 0, fk_p0 M cnt) r).1)), (0, .ref (fk_a g 89))]) S.1 S.2.1 d_M_instant_151 rfl hl (by decide) rfl (fun ls hl => ?_)
        rw [hMi, hr9] at G
        exact loopc cnt 0 H locs ls (by omega) G (lv_sub hl [0, 2] rfl)
      · exact absurd hv0 (by omega)
    | succ d ih =>
      intro r H locs ls hv0 G hl
      obtain ⟨Mi, hMi⟩ : ∃ z : fk_M, z = (fk_id cnt cl P bb sp sl (nI 0, fk_p0 M cnt) r).2 := ⟨_, rfl⟩
      rw [← hMi] at G
      have hrz : fk_Ri M (fk_id cnt cl P bb sp sl (nI 0, fk_p0 M cnt) r).2 := fk_id_Ri (z := (nI 0, fk_p0 M cnt)) (fk_p0_Ri M cnt) cnt cl P bb sp sl r
      have hri := (show fk_Ri M Mi by rw [hMi]; exact hrz)
      have hin : Mi 89 1 = nI cnt := hri.1.1.trans hn0
      have e91 : Mi 91 = M 91 := hri.1.2.2.1
      refine lv_iload_n S.1 S.2.1 d_M_instant_27 rfl (lv_at hl 0 rfl) ?_
      refine lv_aload_n S.1 S.2.1 d_M_instant_28 rfl (lv_at hl 2 rfl) ?_
      refine fk_gf S E G 89 (by decide) (v := .int (Mi 89 1)) (congrArg (fk_ce g ov 89 (Mi 89)) kd_89) rfl 1 (by decide) rfl i_623 rfl d_M_instant_29 ?_
      rw [hin]
      refine fk_cge (tgt := 150) S.1 S.2.1 (by omega) (by omega) d_M_instant_32 rfl (fun hc9 => ?_) (fun hc9 => ?_)
      · exact absurd hv0 (by omega)
      · refine lv_iconst (v := nI 0) S.1 S.2.1 d_M_instant_35 (by decide +kernel) ?_
        refine lv_istore_n (lv' := [(3, .int (nI 0)), (2, .int (nI r)), (1, .int ((fk_id cnt cl P bb sp sl (nI 0, fk_p0 M cnt) r).1)), (0, .ref (fk_a g 89))]) S.1 S.2.1 d_M_instant_36 rfl hl (by decide) rfl (fun ls hl => ?_)
        have ihr := ih
        have hr0 := hv0
        have loopf : ∀ (d : Nat) (ff : Nat) (H : Heap) (locs : List Loc) (ls : Array Slot), ff + d = cnt → fk_H g ov ((fk_ict cl P bb sp sl (fk_id cnt cl P bb sp sl (nI 0, fk_p0 M cnt) r) ff).2) s H locs → lv_has ls 4 [(3, .int (nI ff)), (2, .int (nI r)), (1, .int ((fk_ict cl P bb sp sl (fk_id cnt cl P bb sp sl (nI 0, fk_p0 M cnt) r) ff).1)), (0, .ref (fk_a g 89))] → W p l e (fk_rm (3)) s m args below meth c H locs 0 0 (MQ below (va_Qv (fun (_ : Unit) => True) (fun _ t9 => fk_Wd g ov (fk_in cnt cl P bb sp sl on M) t9) (fk_A g)) args s 0 0 (fk_A g)) (F0 m 37 ls []) := by
          intro d
          induction d with
          | zero =>
            intro ff H locs ls hv0 G hl
            obtain ⟨Mj, hMj⟩ : ∃ z : fk_M, z = (fk_ict cl P bb sp sl (fk_id cnt cl P bb sp sl (nI 0, fk_p0 M cnt) r) ff).2 := ⟨_, rfl⟩
            rw [← hMj] at G
            have hri := (show fk_Ri M Mj by rw [hMj]; exact fk_ict_Ri hrz cl P bb sp sl ff)
            have hin : Mj 89 1 = nI cnt := hri.1.1.trans hn0
            have e91 : Mj 91 = M 91 := hri.1.2.2.1
            refine lv_iload_n S.1 S.2.1 d_M_instant_37 rfl (lv_at hl 0 rfl) ?_
            refine lv_aload_n S.1 S.2.1 d_M_instant_38 rfl (lv_at hl 3 rfl) ?_
            refine fk_gf S E G 89 (by decide) (v := .int (Mj 89 1)) (congrArg (fk_ce g ov 89 (Mj 89)) kd_89) rfl 1 (by decide) rfl i_623 rfl d_M_instant_39 ?_
            rw [hin]
            refine fk_cge (tgt := 144) S.1 S.2.1 (by omega) (by omega) d_M_instant_42 rfl (fun hc10 => ?_) (fun hc10 => ?_)
            · have hf9 : ff = cnt := by omega
              refine lv_iinc (k := 1) (v := nI (r + 1)) (lv' := [(2, .int (nI (r + 1))), (3, .int (nI ff)), (1, .int ((fk_ict cl P bb sp sl (fk_id cnt cl P bb sp sl (nI 0, fk_p0 M cnt) r) ff).1)), (0, .ref (fk_a g 89))]) S.1 S.2.1 d_M_instant_144 hl rfl (nI_1 r) (by decide) rfl (fun ls hl => ?_)
              refine lv_goto (tgt := 27) S.1 S.2.1 d_M_instant_147 rfl ?_
              rw [hMj, hf9] at G
              rw [hf9] at hl
              exact ihr (r + 1) H locs ls (by omega) G (lv_sub hl [0, 2, 3] rfl)
            · exact absurd hv0 (by omega)
          | succ d ih =>
            intro ff H locs ls hv0 G hl
            obtain ⟨Mj, hMj⟩ : ∃ z : fk_M, z = (fk_ict cl P bb sp sl (fk_id cnt cl P bb sp sl (nI 0, fk_p0 M cnt) r) ff).2 := ⟨_, rfl⟩
            rw [← hMj] at G
            have hri := (show fk_Ri M Mj by rw [hMj]; exact fk_ict_Ri hrz cl P bb sp sl ff)
            have hin : Mj 89 1 = nI cnt := hri.1.1.trans hn0
            have e91 : Mj 91 = M 91 := hri.1.2.2.1
            obtain ⟨kn, hkn⟩ : ∃ z, z = (fk_ict cl P bb sp sl (fk_id cnt cl P bb sp sl (nI 0, fk_p0 M cnt) r) ff).1 := ⟨_, rfl⟩
            rw [← hkn] at hl
            have hz : (fk_ict cl P bb sp sl (fk_id cnt cl P bb sp sl (nI 0, fk_p0 M cnt) r) ff) = (kn, Mj) := by rw [hkn, hMj]
            have hst : fk_ict cl P bb sp sl (fk_id cnt cl P bb sp sl (nI 0, fk_p0 M cnt) r) (ff + 1) = fk_ib cl P bb sp sl ff (kn, Mj) := by
              show fk_ib cl P bb sp sl ff (fk_ict cl P bb sp sl (fk_id cnt cl P bb sp sl (nI 0, fk_p0 M cnt) r) ff) = _
              rw [hz]
            unfold fk_ib at hst
            have hst : fk_ict cl P bb sp sl (fk_id cnt cl P bb sp sl (nI 0, fk_p0 M cnt) r) (ff + 1) = if fk_wf kn ff = true ∨ ¬ Mj 97 ff &&& (kn ^^^ (-1)) = 0 then (kn, Mj) else (kn ||| (nI 1 <<< (nI ff &&& 31)), if fk_hm Mj (cl ff) = true then (if Mj 91 ff = 0 then fk_pv (fk_rqm P bb sp sl ff Mj) ff (fk_rqv P bb sp sl ff Mj) else fk_pv Mj ff (Mj 93 ff)) else Mj) := hst
            refine lv_iload_n S.1 S.2.1 d_M_instant_37 rfl (lv_at hl 0 rfl) ?_
            refine lv_aload_n S.1 S.2.1 d_M_instant_38 rfl (lv_at hl 3 rfl) ?_
            refine fk_gf S E G 89 (by decide) (v := .int (Mj 89 1)) (congrArg (fk_ce g ov 89 (Mj 89)) kd_89) rfl 1 (by decide) rfl i_623 rfl d_M_instant_39 ?_
            rw [hin]
            refine fk_cge (tgt := 144) S.1 S.2.1 (by omega) (by omega) d_M_instant_42 rfl (fun hc11 => ?_) (fun hc11 => ?_)
            · exact absurd hv0 (by omega)
            · obtain ⟨-, -, hRi⟩ := hRS.of hri.1
              obtain ⟨a1, a2, b1, b2, b3, b4, b5, b6, b7, b8⟩ := hRi ff (by omega)
              refine lv_iload_n S.1 S.2.1 d_M_instant_45 rfl (lv_at hl 2 rfl) ?_
              refine lv_iload_n S.1 S.2.1 d_M_instant_46 rfl (lv_at hl 0 rfl) ?_
              refine lv_ishr S.1 S.2.1 d_M_instant_47 ?_
              refine lv_iconst (v := nI 1) S.1 S.2.1 d_M_instant_48 (by decide +kernel) ?_
              refine lv_iand S.1 S.2.1 d_M_instant_49 ?_
              refine lv_iconst (v := nI 1) S.1 S.2.1 d_M_instant_50 (by decide +kernel) ?_
              refine lv_icmp_eq (tgt := 138) S.1 S.2.1 d_M_instant_51 rfl (fun hc12 => ?_) (fun hc12 => ?_)
              · refine lv_iinc (k := 0) (v := nI (ff + 1)) (lv' := [(3, .int (nI (ff + 1))), (2, .int (nI r)), (1, .int kn), (0, .ref (fk_a g 89))]) S.1 S.2.1 d_M_instant_138 hl rfl (nI_1 ff) (by decide) rfl (fun ls hl => ?_)
                refine lv_goto (tgt := 37) S.1 S.2.1 d_M_instant_141 rfl ?_
                rw [if_pos (Or.inl (show fk_wf kn ff = true from decide_eq_true hc12))] at hst
                exact ih (ff + 1) H locs ls (by omega) (by rw [hst]; exact G) (lv_sub hl [0, 1, 2, 3] (by rw [hst] <;> rfl))
              · refine lv_aload_n S.1 S.2.1 d_M_instant_54 rfl (lv_at hl 3 rfl) ?_
                refine fk_gf S E G 89 (by decide) (v := .ref (fk_a g 97)) (congrArg (fk_ce g ov 89 (Mj 89)) kd_89) rfl 9 (by decide) rfl i_631 rfl d_M_instant_55 ?_
                refine lv_iload_n S.1 S.2.1 d_M_instant_58 rfl (lv_at hl 0 rfl) ?_
                refine fk_ia S E G 97 (by decide) (congrArg (fk_ce g ov 97 (Mj 97)) kd_97) ff rfl (by omega) (by decide) (v := Mj 97 ff) rfl d_M_instant_59 ?_
                refine lv_iload_n S.1 S.2.1 d_M_instant_60 rfl (lv_at hl 2 rfl) ?_
                refine lv_iconst (v := -1) S.1 S.2.1 d_M_instant_61 (by decide +kernel) ?_
                refine lv_ixor S.1 S.2.1 d_M_instant_62 ?_
                refine lv_iand S.1 S.2.1 d_M_instant_63 ?_
                refine lv_if_eq (tgt := 70) S.1 S.2.1 d_M_instant_64 rfl (fun hc13 => ?_) (fun hc13 => ?_)
                · refine lv_iload_n S.1 S.2.1 d_M_instant_70 rfl (lv_at hl 2 rfl) ?_
                  refine lv_iconst (v := nI 1) S.1 S.2.1 d_M_instant_71 (by decide +kernel) ?_
                  refine lv_iload_n S.1 S.2.1 d_M_instant_72 rfl (lv_at hl 0 rfl) ?_
                  refine lv_ishl S.1 S.2.1 d_M_instant_73 ?_
                  refine lv_ior S.1 S.2.1 d_M_instant_74 ?_
                  refine lv_istore_n (lv' := [(1, .int (kn ||| ((nI 1) <<< (nI ff &&& 31)))), (3, .int (nI ff)), (2, .int (nI r)), (0, .ref (fk_a g 89))]) S.1 S.2.1 d_M_instant_75 rfl hl (by decide) rfl (fun ls hl => ?_)
                  refine lv_aload_n S.1 S.2.1 d_M_instant_76 rfl (lv_at hl 3 rfl) ?_
                  refine lv_aload_n S.1 S.2.1 d_M_instant_77 rfl (lv_at hl 3 rfl) ?_
                  refine fk_gf S E G 89 (by decide) (v := .ref (fk_a g 92)) (congrArg (fk_ce g ov 89 (Mj 89)) kd_89) rfl 4 (by decide) rfl i_626 rfl d_M_instant_78 ?_
                  refine lv_iload_n S.1 S.2.1 d_M_instant_81 rfl (lv_at hl 1 rfl) ?_
                  refine fk_ia S E G 92 (by decide) (congrArg (fk_ce g ov 92 (Mj 92)) kd_92) ff rfl (by omega) (by decide) (v := nI (cl ff)) a2 d_M_instant_82 ?_
                  refine fk_cvi S E G 89 (by decide) (congrArg (fk_ce g ov 89 (Mj 89)) kd_89) rfl (rest := []) (c_M_has l g ov Mj (cl ff) a1) m_M_has i_823 ⟨rfl, rfl⟩ ⟨by decide, by decide⟩ rfl rfl hl.1 (Nat.le_of_ble_eq_true rfl) d_M_instant_83 ⟨Nat.zero_le _, Nat.zero_le _⟩ (fun H locs G => ?_)
                  refine fk_zne (tgt := 92) S.1 S.2.1 (fk_bl _) d_M_instant_86 rfl (fun hc14 => ?_) (fun hc14 => ?_)
                  · have hhm := fk_bt hc14
                    rw [if_neg (show ¬ (fk_wf kn ff = true ∨ ¬ Mj 97 ff &&& (kn ^^^ (-1)) = 0) from fun q => q.elim (fun q => hc12 (of_decide_eq_true q)) (fun q => q hc13)), if_pos hhm] at hst
                    refine lv_aload_n S.1 S.2.1 d_M_instant_92 rfl (lv_at hl 3 rfl) ?_
                    refine fk_gf S E G 89 (by decide) (v := .ref (fk_a g 94)) (congrArg (fk_ce g ov 89 (Mj 89)) kd_89) rfl 6 (by decide) rfl i_628 rfl d_M_instant_93 ?_
                    refine lv_iload_n S.1 S.2.1 d_M_instant_96 rfl (lv_at hl 1 rfl) ?_
                    refine lv_aload_n S.1 S.2.1 d_M_instant_97 rfl (lv_at hl 3 rfl) ?_
                    refine fk_gf S E G 89 (by decide) (v := .ref (fk_a g 91)) (congrArg (fk_ce g ov 89 (Mj 89)) kd_89) rfl 3 (by decide) rfl i_625 rfl d_M_instant_98 ?_
                    refine lv_iload_n S.1 S.2.1 d_M_instant_101 rfl (lv_at hl 1 rfl) ?_
                    refine fk_za S E G 91 (by decide) (congrArg (fk_ce g ov 91 (Mj 91)) kd_91) ff rfl (by omega) (by decide) (v := Mj 91 ff) rfl d_M_instant_102 ?_
                    refine lv_if_eq (tgt := 115) S.1 S.2.1 d_M_instant_103 rfl (fun hc15 => ?_) (fun hc15 => ?_)
                    · refine lv_aload_n S.1 S.2.1 d_M_instant_115 rfl (lv_at hl 3 rfl) ?_
                      refine lv_iload_n S.1 S.2.1 d_M_instant_116 rfl (lv_at hl 1 rfl) ?_
                      refine fk_cvi S E G 89 (by decide) (congrArg (fk_ce g ov 89 (Mj 89)) kd_89) rfl (rest := [.int (nI ff), .ref (fk_a g 94)]) (show fk_CI _ _ _ _ _ _ _ _ _ (fk_rqm P bb sp sl ff Mj) _ (fk_rqv P bb sp sl ff Mj) from c_M_reckonAll l g ov Mj ff (by omega) (bb ff) (N ff) cnt (sp ff) (sl ff) (P ff) b1 hcnt b2 b3 b4 b5 b6 b7 (b8 (by rw [hri.1.2.2.2.2.1]; exact hgd ff (by omega) (by rw [← e91]; exact hc15)))) m_M_reckonAll i_827 ⟨rfl, rfl⟩ ⟨by decide, by decide⟩ rfl rfl hl.1 (Nat.le_of_ble_eq_true rfl) d_M_instant_117 ⟨Nat.zero_le _, Nat.zero_le _⟩ (fun H locs G => ?_)
                      obtain ⟨Mk, hMk⟩ : ∃ z : fk_M, z = fk_rqm P bb sp sl ff Mj := ⟨_, rfl⟩
                      rw [← hMk] at G
                      refine fk_is S E G 94 (by decide) (fun r => congrArg (fk_ce g ov 94 r) kd_94) ff rfl (by omega) (by decide) d_M_instant_120 (fun H locs G => ?_)
                      obtain ⟨M16, hM16⟩ : ∃ z : fk_M, z = va_up Mk 94 (upd (Mk 94) ff (fk_rqv P bb sp sl ff Mj)) := ⟨_, rfl⟩
                      rw [← hM16] at G
                      refine lv_aload_n S.1 S.2.1 d_M_instant_121 rfl (lv_at hl 3 rfl) ?_
                      refine fk_gf S E G 89 (by decide) (v := .ref (fk_a g 96)) (congrArg (fk_ce g ov 89 (M16 89)) kd_89) rfl 8 (by decide) rfl i_630 rfl d_M_instant_122 ?_
                      refine lv_iload_n S.1 S.2.1 d_M_instant_125 rfl (lv_at hl 1 rfl) ?_
                      refine lv_iconst (v := nI 1) S.1 S.2.1 d_M_instant_126 (by decide +kernel) ?_
                      refine fk_zs S E G 96 (by decide) (fun r => congrArg (fk_ce g ov 96 r) kd_96) ff rfl (by omega) (by decide) (Or.inr (by decide +kernel)) d_M_instant_127 (fun H locs G => ?_)
                      obtain ⟨M17, hM17⟩ : ∃ z : fk_M, z = va_up M16 96 (upd (M16 96) ff (nI 1)) := ⟨_, rfl⟩
                      rw [← hM17] at G
                      refine lv_aload_n S.1 S.2.1 d_M_instant_128 rfl (lv_at hl 3 rfl) ?_
                      refine fk_gf S E G 89 (by decide) (v := .ref (fk_a g 95)) (congrArg (fk_ce g ov 89 (M17 89)) kd_89) rfl 7 (by decide) rfl i_629 rfl d_M_instant_129 ?_
                      refine lv_iload_n S.1 S.2.1 d_M_instant_132 rfl (lv_at hl 1 rfl) ?_
                      refine lv_dup2_11 S.1 S.2.1 d_M_instant_133 rfl rfl ?_
                      have e95 : M17 95 = Mk 95 := by rw [hM17, va_up_ne _ _ (by decide), hM16, va_up_ne _ _ (by decide)]
                      have e96 : M16 96 = Mk 96 := by rw [hM16, va_up_ne _ _ (by decide)]
                      refine fk_ia S E G 95 (by decide) (congrArg (fk_ce g ov 95 (M17 95)) kd_95) ff rfl (by omega) (by decide) (v := Mk 95 ff) (by rw [e95]) d_M_instant_134 ?_
                      refine lv_iconst (v := nI 1) S.1 S.2.1 d_M_instant_135 (by decide +kernel) ?_
                      refine lv_iadd S.1 S.2.1 d_M_instant_136 ?_
                      refine fk_is S E G 95 (by decide) (fun r => congrArg (fk_ce g ov 95 r) kd_95) ff rfl (by omega) (by decide) d_M_instant_137 (fun H locs G => ?_)
                      obtain ⟨M18, hM18⟩ : ∃ z : fk_M, z = va_up M17 95 (upd (M17 95) ff ((Mk 95 ff) + (nI 1))) := ⟨_, rfl⟩
                      rw [← hM18] at G
                      have hm3 : M18 = fk_pv Mk ff (fk_rqv P bb sp sl ff Mj) := by
                        unfold fk_pv
                        rw [hM18, e95, hM17, e96, hM16]
                      rw [hm3] at G
                      rw [hMk] at G
                      refine lv_iinc (k := 1) (v := nI (ff + 1)) (lv' := [(3, .int (nI (ff + 1))), (1, .int (kn ||| ((nI 1) <<< (nI ff &&& 31)))), (2, .int (nI r)), (0, .ref (fk_a g 89))]) S.1 S.2.1 d_M_instant_138 hl rfl (nI_1 ff) (by decide) rfl (fun ls hl => ?_)
                      refine lv_goto (tgt := 37) S.1 S.2.1 d_M_instant_141 rfl ?_
                      rw [if_pos hc15] at hst
                      exact ih (ff + 1) H locs ls (by omega) (by rw [hst]; exact G) (lv_sub hl [0, 2, 1, 3] (by rw [hst] <;> rfl))
                    · refine lv_aload_n S.1 S.2.1 d_M_instant_106 rfl (lv_at hl 3 rfl) ?_
                      refine fk_gf S E G 89 (by decide) (v := .ref (fk_a g 93)) (congrArg (fk_ce g ov 89 (Mj 89)) kd_89) rfl 5 (by decide) rfl i_627 rfl d_M_instant_107 ?_
                      refine lv_iload_n S.1 S.2.1 d_M_instant_110 rfl (lv_at hl 1 rfl) ?_
                      refine fk_ia S E G 93 (by decide) (congrArg (fk_ce g ov 93 (Mj 93)) kd_93) ff rfl (by omega) (by decide) (v := Mj 93 ff) rfl d_M_instant_111 ?_
                      refine lv_goto (tgt := 120) S.1 S.2.1 d_M_instant_112 rfl ?_
                      refine fk_is S E G 94 (by decide) (fun r => congrArg (fk_ce g ov 94 r) kd_94) ff rfl (by omega) (by decide) d_M_instant_120 (fun H locs G => ?_)
                      obtain ⟨M19, hM19⟩ : ∃ z : fk_M, z = va_up Mj 94 (upd (Mj 94) ff (Mj 93 ff)) := ⟨_, rfl⟩
                      rw [← hM19] at G
                      refine lv_aload_n S.1 S.2.1 d_M_instant_121 rfl (lv_at hl 3 rfl) ?_
                      refine fk_gf S E G 89 (by decide) (v := .ref (fk_a g 96)) (congrArg (fk_ce g ov 89 (M19 89)) kd_89) rfl 8 (by decide) rfl i_630 rfl d_M_instant_122 ?_
                      refine lv_iload_n S.1 S.2.1 d_M_instant_125 rfl (lv_at hl 1 rfl) ?_
                      refine lv_iconst (v := nI 1) S.1 S.2.1 d_M_instant_126 (by decide +kernel) ?_
                      refine fk_zs S E G 96 (by decide) (fun r => congrArg (fk_ce g ov 96 r) kd_96) ff rfl (by omega) (by decide) (Or.inr (by decide +kernel)) d_M_instant_127 (fun H locs G => ?_)
                      obtain ⟨M20, hM20⟩ : ∃ z : fk_M, z = va_up M19 96 (upd (M19 96) ff (nI 1)) := ⟨_, rfl⟩
                      rw [← hM20] at G
                      refine lv_aload_n S.1 S.2.1 d_M_instant_128 rfl (lv_at hl 3 rfl) ?_
                      refine fk_gf S E G 89 (by decide) (v := .ref (fk_a g 95)) (congrArg (fk_ce g ov 89 (M20 89)) kd_89) rfl 7 (by decide) rfl i_629 rfl d_M_instant_129 ?_
                      refine lv_iload_n S.1 S.2.1 d_M_instant_132 rfl (lv_at hl 1 rfl) ?_
                      refine lv_dup2_11 S.1 S.2.1 d_M_instant_133 rfl rfl ?_
                      have e95 : M20 95 = Mj 95 := by rw [hM20, va_up_ne _ _ (by decide), hM19, va_up_ne _ _ (by decide)]
                      have e96 : M19 96 = Mj 96 := by rw [hM19, va_up_ne _ _ (by decide)]
                      refine fk_ia S E G 95 (by decide) (congrArg (fk_ce g ov 95 (M20 95)) kd_95) ff rfl (by omega) (by decide) (v := Mj 95 ff) (by rw [e95]) d_M_instant_134 ?_
                      refine lv_iconst (v := nI 1) S.1 S.2.1 d_M_instant_135 (by decide +kernel) ?_
                      refine lv_iadd S.1 S.2.1 d_M_instant_136 ?_
                      refine fk_is S E G 95 (by decide) (fun r => congrArg (fk_ce g ov 95 r) kd_95) ff rfl (by omega) (by decide) d_M_instant_137 (fun H locs G => ?_)
                      obtain ⟨M21, hM21⟩ : ∃ z : fk_M, z = va_up M20 95 (upd (M20 95) ff ((Mj 95 ff) + (nI 1))) := ⟨_, rfl⟩
                      rw [← hM21] at G
                      have hm3 : M21 = fk_pv Mj ff (Mj 93 ff) := by
                        unfold fk_pv
                        rw [hM21, e95, hM20, e96, hM19]
                      rw [hm3] at G
                      refine lv_iinc (k := 1) (v := nI (ff + 1)) (lv' := [(3, .int (nI (ff + 1))), (1, .int (kn ||| ((nI 1) <<< (nI ff &&& 31)))), (2, .int (nI r)), (0, .ref (fk_a g 89))]) S.1 S.2.1 d_M_instant_138 hl rfl (nI_1 ff) (by decide) rfl (fun ls hl => ?_)
                      refine lv_goto (tgt := 37) S.1 S.2.1 d_M_instant_141 rfl ?_
                      rw [if_neg hc15] at hst
                      exact ih (ff + 1) H locs ls (by omega) (by rw [hst]; exact G) (lv_sub hl [0, 2, 1, 3] (by rw [hst] <;> rfl))
                  · have hhm := fk_bf hc14
                    refine lv_goto (tgt := 138) S.1 S.2.1 d_M_instant_89 rfl ?_
                    refine lv_iinc (k := 1) (v := nI (ff + 1)) (lv' := [(3, .int (nI (ff + 1))), (1, .int (kn ||| ((nI 1) <<< (nI ff &&& 31)))), (2, .int (nI r)), (0, .ref (fk_a g 89))]) S.1 S.2.1 d_M_instant_138 hl rfl (nI_1 ff) (by decide) rfl (fun ls hl => ?_)
                    refine lv_goto (tgt := 37) S.1 S.2.1 d_M_instant_141 rfl ?_
                    rw [if_neg (show ¬ (fk_wf kn ff = true ∨ ¬ Mj 97 ff &&& (kn ^^^ (-1)) = 0) from fun q => q.elim (fun q => hc12 (of_decide_eq_true q)) (fun q => q hc13)), if_neg (by rw [hhm]; decide)] at hst
                    exact ih (ff + 1) H locs ls (by omega) (by rw [hst]; exact G) (lv_sub hl [0, 2, 1, 3] (by rw [hst] <;> rfl))
                · refine lv_goto (tgt := 138) S.1 S.2.1 d_M_instant_67 rfl ?_
                  refine lv_iinc (k := 0) (v := nI (ff + 1)) (lv' := [(3, .int (nI (ff + 1))), (2, .int (nI r)), (1, .int kn), (0, .ref (fk_a g 89))]) S.1 S.2.1 d_M_instant_138 hl rfl (nI_1 ff) (by decide) rfl (fun ls hl => ?_)
                  refine lv_goto (tgt := 37) S.1 S.2.1 d_M_instant_141 rfl ?_
                  rw [if_pos (Or.inr hc13)] at hst
                  exact ih (ff + 1) H locs ls (by omega) (by rw [hst]; exact G) (lv_sub hl [0, 1, 2, 3] (by rw [hst] <;> rfl))
        rw [hMi] at G
        exact loopf cnt 0 H locs ls (by omega) G (lv_sub hl [0, 1, 2, 3] rfl)
  have loopa : ∀ (d : Nat) (i : Nat) (H : Heap) (locs : List Loc) (ls : Array Slot), i + d = cnt → fk_H g ov (fk_p0 M i) s H locs → lv_has ls 4 [(1, .int (nI i)), (0, .ref (fk_a g 89))] → W p l e (fk_rm (3)) s m args below meth c H locs 0 0 (MQ below (va_Qv (fun (_ : Unit) => True) (fun _ t9 => fk_Wd g ov (fk_in cnt cl P bb sp sl on M) t9) (fk_A g)) args s 0 0 (fk_A g)) (F0 m 2 ls []) := by
    intro d
    induction d with
    | zero =>
      intro i H locs ls hv0 G hl
      obtain ⟨Mi, hMi⟩ : ∃ z : fk_M, z = fk_p0 M i := ⟨_, rfl⟩
      rw [← hMi] at G
      have hri := (show fk_Ri M Mi by rw [hMi]; exact fk_p0_Ri M i)
      have hin : Mi 89 1 = nI cnt := hri.1.1.trans hn0
      have e91 : Mi 91 = M 91 := hri.1.2.2.1
      refine lv_iload_n S.1 S.2.1 d_M_instant_2 rfl (lv_at hl 0 rfl) ?_
      refine lv_aload_n S.1 S.2.1 d_M_instant_3 rfl (lv_at hl 1 rfl) ?_
      refine fk_gf S E G 89 (by decide) (v := .int (Mi 89 1)) (congrArg (fk_ce g ov 89 (Mi 89)) kd_89) rfl 1 (by decide) rfl i_623 rfl d_M_instant_4 ?_
      rw [hin]
      refine fk_cge (tgt := 23) S.1 S.2.1 (by omega) (by omega) d_M_instant_7 rfl (fun hc22 => ?_) (fun hc22 => ?_)
      · have hi9 : i = cnt := by omega
        refine lv_iconst (v := nI 0) S.1 S.2.1 d_M_instant_23 (by decide +kernel) ?_
        refine lv_istore_n (lv' := [(1, .int (nI 0)), (0, .ref (fk_a g 89))]) S.1 S.2.1 d_M_instant_24 rfl hl (by decide) rfl (fun ls hl => ?_)
        refine lv_iconst (v := nI 0) S.1 S.2.1 d_M_instant_25 (by decide +kernel) ?_
        refine lv_istore_n (lv' := [(2, .int (nI 0)), (1, .int (nI 0)), (0, .ref (fk_a g 89))]) S.1 S.2.1 d_M_instant_26 rfl hl (by decide) rfl (fun ls hl => ?_)
        rw [hMi, hi9] at G
        exact loopr cnt 0 H locs ls (by omega) G (lv_sub hl [0, 1, 2] rfl)
      · exact absurd hv0 (by omega)
    | succ d ih =>
      intro i H locs ls hv0 G hl
      obtain ⟨Mi, hMi⟩ : ∃ z : fk_M, z = fk_p0 M i := ⟨_, rfl⟩
      rw [← hMi] at G
      have hri := (show fk_Ri M Mi by rw [hMi]; exact fk_p0_Ri M i)
      have hin : Mi 89 1 = nI cnt := hri.1.1.trans hn0
      have e91 : Mi 91 = M 91 := hri.1.2.2.1
      refine lv_iload_n S.1 S.2.1 d_M_instant_2 rfl (lv_at hl 0 rfl) ?_
      refine lv_aload_n S.1 S.2.1 d_M_instant_3 rfl (lv_at hl 1 rfl) ?_
      refine fk_gf S E G 89 (by decide) (v := .int (Mi 89 1)) (congrArg (fk_ce g ov 89 (Mi 89)) kd_89) rfl 1 (by decide) rfl i_623 rfl d_M_instant_4 ?_
      rw [hin]
      refine fk_cge (tgt := 23) S.1 S.2.1 (by omega) (by omega) d_M_instant_7 rfl (fun hc23 => ?_) (fun hc23 => ?_)
      · exact absurd hv0 (by omega)
      · refine lv_aload_n S.1 S.2.1 d_M_instant_10 rfl (lv_at hl 1 rfl) ?_
        refine fk_gf S E G 89 (by decide) (v := .ref (fk_a g 96)) (congrArg (fk_ce g ov 89 (Mi 89)) kd_89) rfl 8 (by decide) rfl i_630 rfl d_M_instant_11 ?_
        refine lv_iload_n S.1 S.2.1 d_M_instant_14 rfl (lv_at hl 0 rfl) ?_
        refine lv_iconst (v := nI 0) S.1 S.2.1 d_M_instant_15 (by decide +kernel) ?_
        refine fk_zs S E G 96 (by decide) (fun r => congrArg (fk_ce g ov 96 r) kd_96) i rfl (by omega) (by decide) (Or.inl nI_0) d_M_instant_16 (fun H locs G => ?_)
        obtain ⟨M24, hM24⟩ : ∃ z : fk_M, z = va_up Mi 96 (upd (Mi 96) i (nI 0)) := ⟨_, rfl⟩
        rw [← hM24] at G
        refine lv_iinc (k := 0) (v := nI (i + 1)) (lv' := [(1, .int (nI (i + 1))), (0, .ref (fk_a g 89))]) S.1 S.2.1 d_M_instant_17 hl rfl (nI_1 i) (by decide) rfl (fun ls hl => ?_)
        refine lv_goto (tgt := 2) S.1 S.2.1 d_M_instant_20 rfl ?_
        have hm1 : M24 = fk_p0 M (i + 1) := by
          rw [hM24, hMi, nI_0]
          unfold fk_p0
          rw [va_up_self, fk_flS, bx_uu]
        rw [hm1] at G
        exact ih (i + 1) H locs ls (by omega) G (lv_sub hl [0, 1] rfl)
  refine lv_iconst (v := nI 0) S.1 S.2.1 d_M_instant_0 (by decide +kernel) ?_
  refine lv_istore_n (lv' := [(1, .int (nI 0)), (0, .ref (fk_a g 89))]) S.1 S.2.1 d_M_instant_1 rfl hl (by decide) rfl (fun ls hl => ?_)
  exact loopa cnt 0 s.heap [] ls (by omega) (by unfold fk_p0; rw [fk_fl0, fk_upid]; exact G) hl
