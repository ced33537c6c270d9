/-! The reference: clocks, named. Written by wip/gen/s_mod7.py. -/
def fk_yy (k w : Nat) : Nat := if k = 3 ∨ 15 < k then w else 0
def fk_rcs (cl : Nat → Int32) (k y : Nat) (w : Int32) : Int32 := if k < 3 then w else if k = 3 ∨ k = 18 then cl y else if k = 16 then nI (1 + 2 * y) else if k = 17 then nI (2 + 2 * y) else w
/-- the reference's clocks, from part p on -/
def fk_rck (b sp sl : Nat → Nat) (cl : Nat → Int32) (f : Nat) : Nat → Nat → (Nat → Int32) → Int32 → (Nat → Int32) → (Nat → Int32) × Int32 × (Nat → Int32)
  | 0, _, S, pl, X => (S, pl, X)
  | d + 1, p, S, pl, X => fk_rck b sp sl cl f d (p + 1) (fk_wj (if b (sp p) = 18 then nI (1 + 2 * fk_yy (b (sp p)) (b (sp p + 1))) else if 15 < b (sp p) then cl (fk_yy (b (sp p)) (b (sp p + 1))) else S (sl p - 1)) (if b (sp p) = 18 then nI (2 + 2 * fk_yy (b (sp p)) (b (sp p + 1))) else S (sl p - 1)) (fk_ar (b (sp p))) (sl p - 1) S) (if fk_rcs cl (b (sp p)) (fk_yy (b (sp p)) (b (sp p + 1))) (S (sl p - 1)) = S (sl p - 1) then pl else fk_nt pl (sp p)) (upd X (40 * f + sp p) (S (sl p - 1)))
theorem fk_rck_S (b sp sl : Nat → Nat) (cl : Nat → Int32) (f d p : Nat) (S : Nat → Int32) (pl : Int32) (X : Nat → Int32) : fk_rck b sp sl cl f (d + 1) p S pl X = fk_rck b sp sl cl f d (p + 1) (fk_wj (if b (sp p) = 18 then nI (1 + 2 * fk_yy (b (sp p)) (b (sp p + 1))) else if 15 < b (sp p) then cl (fk_yy (b (sp p)) (b (sp p + 1))) else S (sl p - 1)) (if b (sp p) = 18 then nI (2 + 2 * fk_yy (b (sp p)) (b (sp p + 1))) else S (sl p - 1)) (fk_ar (b (sp p))) (sl p - 1) S) (if fk_rcs cl (b (sp p)) (fk_yy (b (sp p)) (b (sp p + 1))) (S (sl p - 1)) = S (sl p - 1) then pl else fk_nt pl (sp p)) (upd X (40 * f + sp p) (S (sl p - 1))) := rfl
/-- the flows that an equation names outside every pre, from part p on -/
def fk_rnm (b sp sl : Nat → Nat) : Nat → Nat → (Nat → Int32) → Int32 → (Nat → Int32) × Int32
  | 0, _, S, al => (S, al)
  | d + 1, p, S, al => fk_rnm b sp sl d (p + 1) (fk_wj (if b (sp p) = 14 then nI 1 else S (sl p - 1)) (if b (sp p) = 14 then nI 1 else S (sl p - 1)) (fk_ar (b (sp p))) (sl p - 1) S) (if S (sl p - 1) = 0 ∧ (b (sp p) = 3 ∨ 15 < b (sp p)) then al ||| (nI 1 <<< (nI (b (sp p + 1)) &&& 31)) else al)
theorem fk_rnm_S (b sp sl : Nat → Nat) (d p : Nat) (S : Nat → Int32) (al : Int32) : fk_rnm b sp sl (d + 1) p S al = fk_rnm b sp sl d (p + 1) (fk_wj (if b (sp p) = 14 then nI 1 else S (sl p - 1)) (if b (sp p) = 14 then nI 1 else S (sl p - 1)) (fk_ar (b (sp p))) (sl p - 1) S) (if S (sl p - 1) = 0 ∧ (b (sp p) = 3 ∨ 15 < b (sp p)) then al ||| (nI 1 <<< (nI (b (sp p + 1)) &&& 31)) else al) := rfl
def fk_rn0 (c : Nat) : Int32 := if 0 < c then nI 1 <<< (nI ((c - 1) / 2) &&& 31) else nI 0
theorem d_M_clocks_0 : decode b_M_clocks 0 = .ok (.aload_n 0, 1) := by decide +kernel
theorem d_M_clocks_1 : decode b_M_clocks 1 = .ok (.iconst 0, 1) := by decide +kernel
theorem d_M_clocks_2 : decode b_M_clocks 2 = .ok (.putfield 81, 3) := by decide +kernel
theorem d_M_clocks_5 : decode b_M_clocks 5 = .ok (.aload_n 0, 1) := by decide +kernel
theorem d_M_clocks_6 : decode b_M_clocks 6 = .ok (.aload_n 0, 1) := by decide +kernel
theorem d_M_clocks_7 : decode b_M_clocks 7 = .ok (.getfield 16, 3) := by decide +kernel
theorem d_M_clocks_10 : decode b_M_clocks 10 = .ok (.iload_n 1, 1) := by decide +kernel
theorem d_M_clocks_11 : decode b_M_clocks 11 = .ok (.iaload, 1) := by decide +kernel
theorem d_M_clocks_12 : decode b_M_clocks 12 = .ok (.invokevirtual 112, 3) := by decide +kernel
theorem d_M_clocks_15 : decode b_M_clocks 15 = .ok (.iconst 0, 1) := by decide +kernel
theorem d_M_clocks_16 : decode b_M_clocks 16 = .ok (.istore_n 2, 1) := by decide +kernel
theorem d_M_clocks_17 : decode b_M_clocks 17 = .ok (.iload_n 2, 1) := by decide +kernel
theorem d_M_clocks_18 : decode b_M_clocks 18 = .ok (.aload_n 0, 1) := by decide +kernel
theorem d_M_clocks_19 : decode b_M_clocks 19 = .ok (.getfield 38, 3) := by decide +kernel
theorem d_M_clocks_22 : decode b_M_clocks 22 = .ok (.iload_n 1, 1) := by decide +kernel
theorem d_M_clocks_23 : decode b_M_clocks 23 = .ok (.iaload, 1) := by decide +kernel
theorem d_M_clocks_24 : decode b_M_clocks 24 = .ok (.if_icmp .ge 224, 3) := by decide +kernel
theorem d_M_clocks_27 : decode b_M_clocks 27 = .ok (.aload_n 0, 1) := by decide +kernel
theorem d_M_clocks_28 : decode b_M_clocks 28 = .ok (.getfield 44, 3) := by decide +kernel
theorem d_M_clocks_31 : decode b_M_clocks 31 = .ok (.bipush 40, 2) := by decide +kernel
theorem d_M_clocks_33 : decode b_M_clocks 33 = .ok (.iload_n 1, 1) := by decide +kernel
theorem d_M_clocks_34 : decode b_M_clocks 34 = .ok (.imul, 1) := by decide +kernel
theorem d_M_clocks_35 : decode b_M_clocks 35 = .ok (.iload_n 2, 1) := by decide +kernel
theorem d_M_clocks_36 : decode b_M_clocks 36 = .ok (.iadd, 1) := by decide +kernel
theorem d_M_clocks_37 : decode b_M_clocks 37 = .ok (.iaload, 1) := by decide +kernel
theorem d_M_clocks_38 : decode b_M_clocks 38 = .ok (.istore_n 3, 1) := by decide +kernel
theorem d_M_clocks_39 : decode b_M_clocks 39 = .ok (.aload_n 0, 1) := by decide +kernel
theorem d_M_clocks_40 : decode b_M_clocks 40 = .ok (.getfield 41, 3) := by decide +kernel
theorem d_M_clocks_43 : decode b_M_clocks 43 = .ok (.bipush 40, 2) := by decide +kernel
theorem d_M_clocks_45 : decode b_M_clocks 45 = .ok (.iload_n 1, 1) := by decide +kernel
theorem d_M_clocks_46 : decode b_M_clocks 46 = .ok (.imul, 1) := by decide +kernel
theorem d_M_clocks_47 : decode b_M_clocks 47 = .ok (.iload_n 3, 1) := by decide +kernel
theorem d_M_clocks_48 : decode b_M_clocks 48 = .ok (.iadd, 1) := by decide +kernel
theorem d_M_clocks_49 : decode b_M_clocks 49 = .ok (.iaload, 1) := by decide +kernel
theorem d_M_clocks_50 : decode b_M_clocks 50 = .ok (.istore 4, 2) := by decide +kernel
theorem d_M_clocks_52 : decode b_M_clocks 52 = .ok (.aload_n 0, 1) := by decide +kernel
theorem d_M_clocks_53 : decode b_M_clocks 53 = .ok (.invokevirtual 116, 3) := by decide +kernel
theorem d_M_clocks_56 : decode b_M_clocks 56 = .ok (.istore 5, 2) := by decide +kernel
theorem d_M_clocks_58 : decode b_M_clocks 58 = .ok (.iload 4, 2) := by decide +kernel
theorem d_M_clocks_60 : decode b_M_clocks 60 = .ok (.iconst 3, 1) := by decide +kernel
theorem d_M_clocks_61 : decode b_M_clocks 61 = .ok (.if_icmp .eq 10, 3) := by decide +kernel
theorem d_M_clocks_64 : decode b_M_clocks 64 = .ok (.iload 4, 2) := by decide +kernel
theorem d_M_clocks_66 : decode b_M_clocks 66 = .ok (.bipush 15, 2) := by decide +kernel
theorem d_M_clocks_68 : decode b_M_clocks 68 = .ok (.if_icmp .le 19, 3) := by decide +kernel
theorem d_M_clocks_71 : decode b_M_clocks 71 = .ok (.aload_n 0, 1) := by decide +kernel
theorem d_M_clocks_72 : decode b_M_clocks 72 = .ok (.getfield 41, 3) := by decide +kernel
theorem d_M_clocks_75 : decode b_M_clocks 75 = .ok (.bipush 40, 2) := by decide +kernel
theorem d_M_clocks_77 : decode b_M_clocks 77 = .ok (.iload_n 1, 1) := by decide +kernel
theorem d_M_clocks_78 : decode b_M_clocks 78 = .ok (.imul, 1) := by decide +kernel
theorem d_M_clocks_79 : decode b_M_clocks 79 = .ok (.iload_n 3, 1) := by decide +kernel
theorem d_M_clocks_80 : decode b_M_clocks 80 = .ok (.iadd, 1) := by decide +kernel
theorem d_M_clocks_81 : decode b_M_clocks 81 = .ok (.iconst 1, 1) := by decide +kernel
theorem d_M_clocks_82 : decode b_M_clocks 82 = .ok (.iadd, 1) := by decide +kernel
theorem d_M_clocks_83 : decode b_M_clocks 83 = .ok (.iaload, 1) := by decide +kernel
theorem d_M_clocks_84 : decode b_M_clocks 84 = .ok (.goto 4, 3) := by decide +kernel
theorem d_M_clocks_87 : decode b_M_clocks 87 = .ok (.iconst 0, 1) := by decide +kernel
theorem d_M_clocks_88 : decode b_M_clocks 88 = .ok (.istore 6, 2) := by decide +kernel
theorem d_M_clocks_90 : decode b_M_clocks 90 = .ok (.iload 4, 2) := by decide +kernel
theorem d_M_clocks_92 : decode b_M_clocks 92 = .ok (.iconst 3, 1) := by decide +kernel
theorem d_M_clocks_93 : decode b_M_clocks 93 = .ok (.if_icmp .ge 8, 3) := by decide +kernel
theorem d_M_clocks_96 : decode b_M_clocks 96 = .ok (.iload 5, 2) := by decide +kernel
theorem d_M_clocks_98 : decode b_M_clocks 98 = .ok (.goto 60, 3) := by decide +kernel
theorem d_M_clocks_101 : decode b_M_clocks 101 = .ok (.iload 4, 2) := by decide +kernel
theorem d_M_clocks_103 : decode b_M_clocks 103 = .ok (.iconst 3, 1) := by decide +kernel
theorem d_M_clocks_104 : decode b_M_clocks 104 = .ok (.if_icmp .eq 10, 3) := by decide +kernel
theorem d_M_clocks_107 : decode b_M_clocks 107 = .ok (.iload 4, 2) := by decide +kernel
theorem d_M_clocks_109 : decode b_M_clocks 109 = .ok (.bipush 18, 2) := by decide +kernel
theorem d_M_clocks_111 : decode b_M_clocks 111 = .ok (.if_icmp .ne 13, 3) := by decide +kernel
theorem d_M_clocks_114 : decode b_M_clocks 114 = .ok (.aload_n 0, 1) := by decide +kernel
theorem d_M_clocks_115 : decode b_M_clocks 115 = .ok (.getfield 16, 3) := by decide +kernel
theorem d_M_clocks_118 : decode b_M_clocks 118 = .ok (.iload 6, 2) := by decide +kernel
theorem d_M_clocks_120 : decode b_M_clocks 120 = .ok (.iaload, 1) := by decide +kernel
theorem d_M_clocks_121 : decode b_M_clocks 121 = .ok (.goto 37, 3) := by decide +kernel
theorem d_M_clocks_124 : decode b_M_clocks 124 = .ok (.iload 4, 2) := by decide +kernel
theorem d_M_clocks_126 : decode b_M_clocks 126 = .ok (.bipush 16, 2) := by decide +kernel
theorem d_M_clocks_128 : decode b_M_clocks 128 = .ok (.if_icmp .ne 12, 3) := by decide +kernel
theorem d_M_clocks_131 : decode b_M_clocks 131 = .ok (.iconst 1, 1) := by decide +kernel
theorem d_M_clocks_132 : decode b_M_clocks 132 = .ok (.iconst 2, 1) := by decide +kernel
theorem d_M_clocks_133 : decode b_M_clocks 133 = .ok (.iload 6, 2) := by decide +kernel
theorem d_M_clocks_135 : decode b_M_clocks 135 = .ok (.imul, 1) := by decide +kernel
theorem d_M_clocks_136 : decode b_M_clocks 136 = .ok (.iadd, 1) := by decide +kernel
theorem d_M_clocks_137 : decode b_M_clocks 137 = .ok (.goto 21, 3) := by decide +kernel
theorem d_M_clocks_140 : decode b_M_clocks 140 = .ok (.iload 4, 2) := by decide +kernel
theorem d_M_clocks_142 : decode b_M_clocks 142 = .ok (.bipush 17, 2) := by decide +kernel
theorem d_M_clocks_144 : decode b_M_clocks 144 = .ok (.if_icmp .ne 12, 3) := by decide +kernel
theorem d_M_clocks_147 : decode b_M_clocks 147 = .ok (.iconst 2, 1) := by decide +kernel
theorem d_M_clocks_148 : decode b_M_clocks 148 = .ok (.iconst 2, 1) := by decide +kernel
theorem d_M_clocks_149 : decode b_M_clocks 149 = .ok (.iload 6, 2) := by decide +kernel
theorem d_M_clocks_151 : decode b_M_clocks 151 = .ok (.imul, 1) := by decide +kernel
theorem d_M_clocks_152 : decode b_M_clocks 152 = .ok (.iadd, 1) := by decide +kernel
theorem d_M_clocks_153 : decode b_M_clocks 153 = .ok (.goto 5, 3) := by decide +kernel
theorem d_M_clocks_156 : decode b_M_clocks 156 = .ok (.iload 5, 2) := by decide +kernel
theorem d_M_clocks_158 : decode b_M_clocks 158 = .ok (.istore 7, 2) := by decide +kernel
theorem d_M_clocks_160 : decode b_M_clocks 160 = .ok (.iload 7, 2) := by decide +kernel
theorem d_M_clocks_162 : decode b_M_clocks 162 = .ok (.iload 5, 2) := by decide +kernel
theorem d_M_clocks_164 : decode b_M_clocks 164 = .ok (.if_icmp .eq 8, 3) := by decide +kernel
theorem d_M_clocks_167 : decode b_M_clocks 167 = .ok (.aload_n 0, 1) := by decide +kernel
theorem d_M_clocks_168 : decode b_M_clocks 168 = .ok (.iload_n 3, 1) := by decide +kernel
theorem d_M_clocks_169 : decode b_M_clocks 169 = .ok (.invokevirtual 135, 3) := by decide +kernel
theorem d_M_clocks_172 : decode b_M_clocks 172 = .ok (.aload_n 0, 1) := by decide +kernel
theorem d_M_clocks_173 : decode b_M_clocks 173 = .ok (.getfield 47, 3) := by decide +kernel
theorem d_M_clocks_176 : decode b_M_clocks 176 = .ok (.bipush 40, 2) := by decide +kernel
theorem d_M_clocks_178 : decode b_M_clocks 178 = .ok (.iload_n 1, 1) := by decide +kernel
theorem d_M_clocks_179 : decode b_M_clocks 179 = .ok (.imul, 1) := by decide +kernel
theorem d_M_clocks_180 : decode b_M_clocks 180 = .ok (.iload_n 3, 1) := by decide +kernel
theorem d_M_clocks_181 : decode b_M_clocks 181 = .ok (.iadd, 1) := by decide +kernel
theorem d_M_clocks_182 : decode b_M_clocks 182 = .ok (.iload 5, 2) := by decide +kernel
theorem d_M_clocks_184 : decode b_M_clocks 184 = .ok (.iastore, 1) := by decide +kernel
theorem d_M_clocks_185 : decode b_M_clocks 185 = .ok (.iload 4, 2) := by decide +kernel
theorem d_M_clocks_187 : decode b_M_clocks 187 = .ok (.bipush 18, 2) := by decide +kernel
theorem d_M_clocks_189 : decode b_M_clocks 189 = .ok (.if_icmp .ne 23, 3) := by decide +kernel
theorem d_M_clocks_192 : decode b_M_clocks 192 = .ok (.aload_n 0, 1) := by decide +kernel
theorem d_M_clocks_193 : decode b_M_clocks 193 = .ok (.iconst 1, 1) := by decide +kernel
theorem d_M_clocks_194 : decode b_M_clocks 194 = .ok (.iconst 2, 1) := by decide +kernel
theorem d_M_clocks_195 : decode b_M_clocks 195 = .ok (.iload 6, 2) := by decide +kernel
theorem d_M_clocks_197 : decode b_M_clocks 197 = .ok (.imul, 1) := by decide +kernel
theorem d_M_clocks_198 : decode b_M_clocks 198 = .ok (.iadd, 1) := by decide +kernel
theorem d_M_clocks_199 : decode b_M_clocks 199 = .ok (.iconst 2, 1) := by decide +kernel
theorem d_M_clocks_200 : decode b_M_clocks 200 = .ok (.iconst 2, 1) := by decide +kernel
theorem d_M_clocks_201 : decode b_M_clocks 201 = .ok (.iload 6, 2) := by decide +kernel
theorem d_M_clocks_203 : decode b_M_clocks 203 = .ok (.imul, 1) := by decide +kernel
theorem d_M_clocks_204 : decode b_M_clocks 204 = .ok (.iadd, 1) := by decide +kernel
theorem d_M_clocks_205 : decode b_M_clocks 205 = .ok (.iconst 2, 1) := by decide +kernel
theorem d_M_clocks_206 : decode b_M_clocks 206 = .ok (.invokevirtual 138, 3) := by decide +kernel
theorem d_M_clocks_209 : decode b_M_clocks 209 = .ok (.goto 33, 3) := by decide +kernel
theorem d_M_clocks_212 : decode b_M_clocks 212 = .ok (.aload_n 0, 1) := by decide +kernel
theorem d_M_clocks_213 : decode b_M_clocks 213 = .ok (.iload 4, 2) := by decide +kernel
theorem d_M_clocks_215 : decode b_M_clocks 215 = .ok (.bipush 15, 2) := by decide +kernel
theorem d_M_clocks_217 : decode b_M_clocks 217 = .ok (.if_icmp .le 13, 3) := by decide +kernel
theorem d_M_clocks_220 : decode b_M_clocks 220 = .ok (.aload_n 0, 1) := by decide +kernel
theorem d_M_clocks_221 : decode b_M_clocks 221 = .ok (.getfield 16, 3) := by decide +kernel
theorem d_M_clocks_224 : decode b_M_clocks 224 = .ok (.iload 6, 2) := by decide +kernel
theorem d_M_clocks_226 : decode b_M_clocks 226 = .ok (.iaload, 1) := by decide +kernel
theorem d_M_clocks_227 : decode b_M_clocks 227 = .ok (.goto 5, 3) := by decide +kernel
theorem d_M_clocks_230 : decode b_M_clocks 230 = .ok (.iload 5, 2) := by decide +kernel
theorem d_M_clocks_232 : decode b_M_clocks 232 = .ok (.iload 5, 2) := by decide +kernel
theorem d_M_clocks_234 : decode b_M_clocks 234 = .ok (.iload 4, 2) := by decide +kernel
theorem d_M_clocks_236 : decode b_M_clocks 236 = .ok (.invokestatic 120, 3) := by decide +kernel
theorem d_M_clocks_239 : decode b_M_clocks 239 = .ok (.invokevirtual 138, 3) := by decide +kernel
theorem d_M_clocks_242 : decode b_M_clocks 242 = .ok (.iinc 2 1, 3) := by decide +kernel
theorem d_M_clocks_245 : decode b_M_clocks 245 = .ok (.goto (-228), 3) := by decide +kernel
theorem d_M_clocks_248 : decode b_M_clocks 248 = .ok (.return_, 1) := by decide +kernel
theorem m_M_clocks : fk_MI y_M_clocks b_M_clocks 8 none 1 := ⟨i_794, i_793, fk_mp (q := (y_M_clocks, 31)) (by decide +kernel), i_8, by decide +kernel⟩
set_option maxHeartbeats 4000000 in
set_option maxRecDepth 100000 in
theorem c_M_clocks (l : Launch) (g : fk_G) (ov : Int64) (M : fk_M) (f : Nat) (hf : f < 12) (bf : Nat → Nat) (n cnt : Nat) (sp sl : Nat → Nat) (P : Nat) (hn40 : n ≤ 40) (h12 : cnt ≤ 12) (hP : P ≤ 40) (hsl0 : sl 0 = 1) (hRF : fk_RF bf n cnt sp sl P) (hpt : M 99 f = nI P) (hbg : ∀ q, q < P → M 101 (40 * f + q) = nI (sp q)) (hby : ∀ j, j < n → M 100 (40 * f + j) = nI (bf j)) : fk_CV l y_M_clocks b_M_clocks 8 (fk_rm 2) g ov M (fk_w3 102 M (fk_rck bf sp sl (M 92) f P 0 (upd (M 109) 0 (M 92 f)) (M 89 30) (M 102)).1 (sl P) (fk_rck bf sp sl (M 92) f P 0 (upd (M 109) 0 (M 92 f)) (M 89 30) (M 102)).2.1 (fk_rck bf sp sl (M 92) f P 0 (upd (M 109) 0 (M 92 f)) (M 89 30) (M 102)).2.2) [.ref (fk_a g 89), .int (nI f)] := by
  refine fk_ofV rfl (Nat.le_of_ble_eq_true rfl) ?_
  intro p e s m args below meth c ls S hr hlk E G hl
  have hl : lv_has ls 8 [(0, .ref (fk_a g 89)), (1, .int (nI f))] := hl
  refine lv_aload_n S.1 S.2.1 d_M_clocks_0 rfl (lv_at hl 0 rfl) ?_
  refine lv_iconst (v := nI 0) S.1 S.2.1 d_M_clocks_1 (by decide +kernel) ?_
  refine fk_pf S E G 89 (by decide) (congrArg (fk_ce g ov 89 (M 89)) kd_89) rfl 29 (by decide) rfl i_651 (upd (M 89) 29 (nI 0)) (congrArg (fk_ce g ov 89 (upd (M 89) 29 (nI 0))) kd_89) rfl (ty := (.int)) (by decide +kernel) rfl rfl (Nat.le_of_ble_eq_true rfl) d_M_clocks_2 (fun H locs G => ?_)
  obtain ⟨M1, hM1⟩ : ∃ z : fk_M, z = va_up M 89 (upd (M 89) 29 (nI 0)) := ⟨_, rfl⟩
  rw [← hM1] at G
  have hc0 : fk_C3 102 M M1 (M 109) 0 (M 89 30) (M 102) := by
    rw [hM1]
    refine ⟨rfl, rfl, by rw [va_up_self, pk_us], by rw [va_up_self, pk_un (by decide)], fun j j1 j2 => by rw [va_up_self, pk_un j1], fun k k1 k2 k3 => by rw [va_up_ne _ _ k1]⟩
  have loop : ∀ (d : Nat) (pp : Nat) (S9 : Nat → Int32) (pl : Int32) (X : Nat → Int32) (Mc : fk_M) (H : Heap) (locs : List Loc) (ls : Array Slot), pp + d = P → fk_C3 102 M Mc S9 (sl pp) pl X → fk_rck bf sp sl (M 92) f d pp S9 pl X = fk_rck bf sp sl (M 92) f P 0 (upd (M 109) 0 (M 92 f)) (M 89 30) (M 102) → fk_H g ov (Mc) s H locs → lv_has ls 8 [(2, .int (nI pp)), (0, .ref (fk_a g 89)), (1, .int (nI f))] → W p l e (fk_rm (2)) s m args below meth c H locs 0 0 (MQ below (va_Qv (fun (_ : Unit) => True) (fun _ t9 => fk_Wd g ov (fk_w3 102 M (fk_rck bf sp sl (M 92) f P 0 (upd (M 109) 0 (M 92 f)) (M 89 30) (M 102)).1 (sl P) (fk_rck bf sp sl (M 92) f P 0 (upd (M 109) 0 (M 92 f)) (M 89 30) (M 102)).2.1 (fk_rck bf sp sl (M 92) f P 0 (upd (M 109) 0 (M 92 f)) (M 89 30) (M 102)).2.2) t9) (fk_A g)) args s 0 0 (fk_A g)) (F0 m 17 ls []) := by
    intro d
    induction d with
    | zero =>
      intro pp S9 pl X Mc H locs ls hv0 hv1 hv2 G hl
      obtain ⟨c1, c2, c3, c4, c5, c6⟩ := id hv1
      have cc90 : Mc 90 = M 90 := c6 90 (by decide) (by decide) (by decide)
      have cc91 : Mc 91 = M 91 := c6 91 (by decide) (by decide) (by decide)
      have cc92 : Mc 92 = M 92 := c6 92 (by decide) (by decide) (by decide)
      have cc94 : Mc 94 = M 94 := c6 94 (by decide) (by decide) (by decide)
      have cc99 : Mc 99 = M 99 := c6 99 (by decide) (by decide) (by decide)
      have cc100 : Mc 100 = M 100 := c6 100 (by decide) (by decide) (by decide)
      have cc101 : Mc 101 = M 101 := c6 101 (by decide) (by decide) (by decide)
      have cc103 : Mc 103 = M 103 := c6 103 (by decide) (by decide) (by decide)
      have cc105 : Mc 105 = M 105 := c6 105 (by decide) (by decide) (by decide)
      refine lv_iload_n S.1 S.2.1 d_M_clocks_17 rfl (lv_at hl 0 rfl) ?_
      refine lv_aload_n S.1 S.2.1 d_M_clocks_18 rfl (lv_at hl 1 rfl) ?_
      refine fk_gf S E G 89 (by decide) (v := .ref (fk_a g 99)) (congrArg (fk_ce g ov 89 (Mc 89)) kd_89) rfl 11 (by decide) rfl i_633 rfl d_M_clocks_19 ?_
      refine lv_iload_n S.1 S.2.1 d_M_clocks_22 rfl (lv_at hl 2 rfl) ?_
      refine fk_ia S E G 99 (by decide) (congrArg (fk_ce g ov 99 (Mc 99)) kd_99) f rfl (by omega) (by decide) (v := nI P) (by rw [cc99]; exact hpt) d_M_clocks_23 ?_
      refine fk_cge (tgt := 248) S.1 S.2.1 (by omega) (by omega) d_M_clocks_24 rfl (fun hc2 => ?_) (fun hc2 => ?_)
      · have hp : pp = P := by omega
        rw [hp] at hv1
        exact fk_vret S hr hlk E G (by rw [← hv2]; exact hv1.eq) d_M_clocks_248
      · exact absurd hv0 (by omega)
    | succ d ih =>
      intro pp S9 pl X Mc H locs ls hv0 hv1 hv2 G hl
      obtain ⟨hok, hs1, hs2, hs3⟩ := hRF pp (by omega)
      obtain ⟨u, hu⟩ : ∃ u, sl pp = u + 1 := ⟨sl pp - 1, by omega⟩
      obtain ⟨i, hi⟩ : ∃ z, z = sp pp := ⟨_, rfl⟩
      rw [fk_rck_S, hu, Nat.add_sub_cancel, ← hi] at hv2
      rw [← hi] at hok hs3
      have hin := hok.1
      have hk18 := hok.2.1
      have hil := hok.2.2.1
      have har := fk_ar_le (bf i)
      have hhp := fk_hd_pos (bf i)
      rw [hu] at hv1
      obtain ⟨c1, c2, c3, c4, c5, c6⟩ := id hv1
      have cc90 : Mc 90 = M 90 := c6 90 (by decide) (by decide) (by decide)
      have cc91 : Mc 91 = M 91 := c6 91 (by decide) (by decide) (by decide)
      have cc92 : Mc 92 = M 92 := c6 92 (by decide) (by decide) (by decide)
      have cc94 : Mc 94 = M 94 := c6 94 (by decide) (by decide) (by decide)
      have cc99 : Mc 99 = M 99 := c6 99 (by decide) (by decide) (by decide)
      have cc100 : Mc 100 = M 100 := c6 100 (by decide) (by decide) (by decide)
      have cc101 : Mc 101 = M 101 := c6 101 (by decide) (by decide) (by decide)
      have cc103 : Mc 103 = M 103 := c6 103 (by decide) (by decide) (by decide)
      have cc105 : Mc 105 = M 105 := c6 105 (by decide) (by decide) (by decide)
      refine lv_iload_n S.1 S.2.1 d_M_clocks_17 rfl (lv_at hl 0 rfl) ?_
      refine lv_aload_n S.1 S.2.1 d_M_clocks_18 rfl (lv_at hl 1 rfl) ?_
      refine fk_gf S E G 89 (by decide) (v := .ref (fk_a g 99)) (congrArg (fk_ce g ov 89 (Mc 89)) kd_89) rfl 11 (by decide) rfl i_633 rfl d_M_clocks_19 ?_
      refine lv_iload_n S.1 S.2.1 d_M_clocks_22 rfl (lv_at hl 2 rfl) ?_
      refine fk_ia S E G 99 (by decide) (congrArg (fk_ce g ov 99 (Mc 99)) kd_99) f rfl (by omega) (by decide) (v := nI P) (by rw [cc99]; exact hpt) d_M_clocks_23 ?_
      refine fk_cge (tgt := 248) S.1 S.2.1 (by omega) (by omega) d_M_clocks_24 rfl (fun hc3 => ?_) (fun hc3 => ?_)
      · exact absurd hv0 (by omega)
      · refine lv_aload_n S.1 S.2.1 d_M_clocks_27 rfl (lv_at hl 1 rfl) ?_
        refine fk_gf S E G 89 (by decide) (v := .ref (fk_a g 101)) (congrArg (fk_ce g ov 89 (Mc 89)) kd_89) rfl 13 (by decide) rfl i_635 rfl d_M_clocks_28 ?_
        refine lv_bipush (v := nI 40) S.1 S.2.1 d_M_clocks_31 (by decide +kernel) ?_
        refine lv_iload_n S.1 S.2.1 d_M_clocks_33 rfl (lv_at hl 2 rfl) ?_
        refine fk_imul S.1 S.2.1 d_M_clocks_34 ?_
        refine lv_iload_n S.1 S.2.1 d_M_clocks_35 rfl (lv_at hl 0 rfl) ?_
        refine fk_iadd S.1 S.2.1 d_M_clocks_36 ?_
        refine fk_ia S E G 101 (by decide) (congrArg (fk_ce g ov 101 (Mc 101)) kd_101) ((40 * f) + pp) rfl (by omega) (by decide) (v := nI i) (by rw [cc101, hbg pp (by omega), hi]) d_M_clocks_37 ?_
        refine lv_istore_n (lv' := [(3, .int (nI i)), (2, .int (nI pp)), (0, .ref (fk_a g 89)), (1, .int (nI f))]) S.1 S.2.1 d_M_clocks_38 rfl hl (by decide) rfl (fun ls hl => ?_)
        refine lv_aload_n S.1 S.2.1 d_M_clocks_39 rfl (lv_at hl 2 rfl) ?_
        refine fk_gf S E G 89 (by decide) (v := .ref (fk_a g 100)) (congrArg (fk_ce g ov 89 (Mc 89)) kd_89) rfl 12 (by decide) rfl i_634 rfl d_M_clocks_40 ?_
        refine lv_bipush (v := nI 40) S.1 S.2.1 d_M_clocks_43 (by decide +kernel) ?_
        refine lv_iload_n S.1 S.2.1 d_M_clocks_45 rfl (lv_at hl 3 rfl) ?_
        refine fk_imul S.1 S.2.1 d_M_clocks_46 ?_
        refine lv_iload_n S.1 S.2.1 d_M_clocks_47 rfl (lv_at hl 0 rfl) ?_
        refine fk_iadd S.1 S.2.1 d_M_clocks_48 ?_
        refine fk_ia S E G 100 (by decide) (congrArg (fk_ce g ov 100 (Mc 100)) kd_100) ((40 * f) + i) rfl (by omega) (by decide) (v := nI (bf i)) (by rw [cc100]; exact hby i (by omega)) d_M_clocks_49 ?_
        refine lv_istore (lv' := [(4, .int (nI (bf i))), (3, .int (nI i)), (2, .int (nI pp)), (0, .ref (fk_a g 89)), (1, .int (nI f))]) S.1 S.2.1 d_M_clocks_50 hl (by decide) rfl (fun ls hl => ?_)
        refine lv_aload_n S.1 S.2.1 d_M_clocks_52 rfl (lv_at hl 3 rfl) ?_
        refine fk_cvi S E G 89 (by decide) (congrArg (fk_ce g ov 89 (Mc 89)) kd_89) rfl (rest := []) (show fk_CI _ _ _ _ _ _ _ _ _ _ _ (S9 u) from by have h9 := c_M_pop l g ov Mc u c3 (by omega); rw [c1] at h9; exact h9) m_M_pop i_753 ⟨rfl, rfl⟩ ⟨by decide, by decide⟩ rfl rfl hl.1 (Nat.le_of_ble_eq_true rfl) d_M_clocks_53 ⟨Nat.zero_le _, Nat.zero_le _⟩ (fun H locs G => ?_)
        obtain ⟨Mp, hMp⟩ : ∃ z : fk_M, z = fk_po Mc u := ⟨_, rfl⟩
        rw [← hMp] at G
        have hcp : fk_C3 102 M Mp S9 u pl X := by rw [hMp]; exact hv1.pop (show (102 : Nat) ≠ 89 ∧ (102 : Nat) ≠ 109 by decide)
        obtain ⟨q1, q2, q3, q4, q5, q6⟩ := id hcp
        have qc90 : Mp 90 = M 90 := q6 90 (by decide) (by decide) (by decide)
        have qc91 : Mp 91 = M 91 := q6 91 (by decide) (by decide) (by decide)
        have qc92 : Mp 92 = M 92 := q6 92 (by decide) (by decide) (by decide)
        have qc94 : Mp 94 = M 94 := q6 94 (by decide) (by decide) (by decide)
        have qc99 : Mp 99 = M 99 := q6 99 (by decide) (by decide) (by decide)
        have qc100 : Mp 100 = M 100 := q6 100 (by decide) (by decide) (by decide)
        have qc101 : Mp 101 = M 101 := q6 101 (by decide) (by decide) (by decide)
        have qc103 : Mp 103 = M 103 := q6 103 (by decide) (by decide) (by decide)
        have qc105 : Mp 105 = M 105 := q6 105 (by decide) (by decide) (by decide)
        refine lv_istore (lv' := [(5, .int (S9 u)), (4, .int (nI (bf i))), (3, .int (nI i)), (2, .int (nI pp)), (0, .ref (fk_a g 89)), (1, .int (nI f))]) S.1 S.2.1 d_M_clocks_56 hl (by decide) rfl (fun ls hl => ?_)
        obtain ⟨ww, hww⟩ : ∃ z, z = S9 u := ⟨_, rfl⟩
        rw [← hww] at hl hv2
        obtain ⟨y, hy⟩ : ∃ z, z = fk_yy (bf i) (bf (i + 1)) := ⟨_, rfl⟩
        rw [← hy] at hv2
        have hy12 : y < 12 := by
          rw [hy]
          unfold fk_yy
          split
          · rename_i h9
            have := hok.2.2.2 h9
            omega
          · omega
        have j172 : ∀ (Md : fk_M) (H : Heap) (locs : List Loc) (ls : Array Slot), fk_C3 102 M Md S9 u (if fk_rcs (M 92) (bf i) y ww = ww then pl else fk_nt pl i) X → fk_H g ov (Md) s H locs → lv_has ls 8 [(6, .int (nI y)), (5, .int ww), (4, .int (nI (bf i))), (3, .int (nI i)), (2, .int (nI pp)), (0, .ref (fk_a g 89)), (1, .int (nI f))] → W p l e (fk_rm (2)) s m args below meth c H locs 0 0 (MQ below (va_Qv (fun (_ : Unit) => True) (fun _ t9 => fk_Wd g ov (fk_w3 102 M (fk_rck bf sp sl (M 92) f P 0 (upd (M 109) 0 (M 92 f)) (M 89 30) (M 102)).1 (sl P) (fk_rck bf sp sl (M 92) f P 0 (upd (M 109) 0 (M 92 f)) (M 89 30) (M 102)).2.1 (fk_rck bf sp sl (M 92) f P 0 (upd (M 109) 0 (M 92 f)) (M 89 30) (M 102)).2.2) t9) (fk_A g)) args s 0 0 (fk_A g)) (F0 m 172 ls []) := by
          intro Md H locs ls hv0 G hl
          have hz0 := hv0
          refine lv_aload_n S.1 S.2.1 d_M_clocks_172 rfl (lv_at hl 5 rfl) ?_
          refine fk_gf S E G 89 (by decide) (v := .ref (fk_a g 102)) (congrArg (fk_ce g ov 89 (Md 89)) kd_89) rfl 14 (by decide) rfl i_636 rfl d_M_clocks_173 ?_
          refine lv_bipush (v := nI 40) S.1 S.2.1 d_M_clocks_176 (by decide +kernel) ?_
          refine lv_iload_n S.1 S.2.1 d_M_clocks_178 rfl (lv_at hl 6 rfl) ?_
          refine fk_imul S.1 S.2.1 d_M_clocks_179 ?_
          refine lv_iload_n S.1 S.2.1 d_M_clocks_180 rfl (lv_at hl 3 rfl) ?_
          refine fk_iadd S.1 S.2.1 d_M_clocks_181 ?_
          refine lv_iload S.1 S.2.1 d_M_clocks_182 (lv_at hl 1 rfl) ?_
          refine fk_is S E G 102 (by decide) (fun r => congrArg (fk_ce g ov 102 r) kd_102) ((40 * f) + i) rfl (by omega) (by decide) d_M_clocks_184 (fun H locs G => ?_)
          obtain ⟨M4, hM4⟩ : ∃ z : fk_M, z = va_up Md 102 (upd (Md 102) ((40 * f) + i) ww) := ⟨_, rfl⟩
          rw [← hM4] at G
          have hcs := hz0.cell (show (102 : Nat) ≠ 89 ∧ (102 : Nat) ≠ 109 by decide) (40 * f + i) ww
          rw [← hM4] at hcs
          obtain ⟨w1, w2, w3, w4, w5, w6⟩ := id hcs
          have wc90 : M4 90 = M 90 := w6 90 (by decide) (by decide) (by decide)
          have wc91 : M4 91 = M 91 := w6 91 (by decide) (by decide) (by decide)
          have wc92 : M4 92 = M 92 := w6 92 (by decide) (by decide) (by decide)
          have wc94 : M4 94 = M 94 := w6 94 (by decide) (by decide) (by decide)
          have wc99 : M4 99 = M 99 := w6 99 (by decide) (by decide) (by decide)
          have wc100 : M4 100 = M 100 := w6 100 (by decide) (by decide) (by decide)
          have wc101 : M4 101 = M 101 := w6 101 (by decide) (by decide) (by decide)
          have wc103 : M4 103 = M 103 := w6 103 (by decide) (by decide) (by decide)
          have wc105 : M4 105 = M 105 := w6 105 (by decide) (by decide) (by decide)
          refine lv_iload S.1 S.2.1 d_M_clocks_185 (lv_at hl 2 rfl) ?_
          refine lv_bipush (v := nI 18) S.1 S.2.1 d_M_clocks_187 (by decide +kernel) ?_
          refine fk_cne (tgt := 212) S.1 S.2.1 (by omega) (by omega) d_M_clocks_189 rfl (fun hc5 => ?_) (fun hc5 => ?_)
          · rw [if_neg hc5, if_neg hc5] at hv2
            refine lv_aload_n S.1 S.2.1 d_M_clocks_212 rfl (lv_at hl 5 rfl) ?_
            refine lv_iload S.1 S.2.1 d_M_clocks_213 (lv_at hl 2 rfl) ?_
            refine lv_bipush (v := nI 15) S.1 S.2.1 d_M_clocks_215 (by decide +kernel) ?_
            refine fk_cle (tgt := 230) S.1 S.2.1 (by omega) (by omega) d_M_clocks_217 rfl (fun hc6 => ?_) (fun hc6 => ?_)
            · rw [if_neg (show ¬ 15 < bf i by omega)] at hv2
              refine lv_iload S.1 S.2.1 d_M_clocks_230 (lv_at hl 1 rfl) ?_
              refine lv_iload S.1 S.2.1 d_M_clocks_232 (lv_at hl 1 rfl) ?_
              refine lv_iload S.1 S.2.1 d_M_clocks_234 (lv_at hl 2 rfl) ?_
              refine fk_csi S E G (rest := [.int ww, .int ww, .ref (fk_a g 89)]) (c_M_many l g ov M4 (bf i) (by omega)) m_M_many i_757 ⟨rfl, rfl⟩ ⟨by decide, by decide⟩ rfl rfl hl.1 (Nat.le_of_ble_eq_true rfl) d_M_clocks_236 ⟨Nat.zero_le _, Nat.zero_le _⟩ (fun H locs G => ?_)
              refine fk_cvv S E G 89 (by decide) (congrArg (fk_ce g ov 89 (M4 89)) kd_89) rfl (rest := []) (c_M_want l g ov M4 u w3 (fk_ar (bf i)) (by omega) (ww) ww) m_M_want i_775 ⟨rfl, rfl⟩ ⟨by decide, by decide⟩ rfl rfl hl.1 (Nat.le_of_ble_eq_true rfl) d_M_clocks_239 ⟨Nat.zero_le _, Nat.zero_le _⟩ (fun H locs G => ?_)
              refine lv_iinc (k := 4) (v := nI (pp + 1)) (lv' := [(2, .int (nI (pp + 1))), (6, .int (nI y)), (5, .int ww), (4, .int (nI (bf i))), (3, .int (nI i)), (0, .ref (fk_a g 89)), (1, .int (nI f))]) S.1 S.2.1 d_M_clocks_242 hl rfl (nI_1 pp) (by decide) rfl (fun ls hl => ?_)
              refine lv_goto (tgt := 17) S.1 S.2.1 d_M_clocks_245 rfl ?_
              have hq := fk_C3.want (show (102 : Nat) ≠ 89 ∧ (102 : Nat) ≠ 109 by decide) (ww) (ww) (fk_ar (bf i)) u S9 M4 hcs
              rw [show u + fk_ar (bf i) = sl (pp + 1) by omega] at hq
              exact ih (pp + 1) _ (if fk_rcs (M 92) (bf i) y ww = ww then pl else fk_nt pl i) _ _ H locs ls (by omega) hq hv2 G (lv_sub hl [0, 5, 6] rfl)
            · refine lv_aload_n S.1 S.2.1 d_M_clocks_220 rfl (lv_at hl 5 rfl) ?_
              refine fk_gf S E G 89 (by decide) (v := .ref (fk_a g 92)) (congrArg (fk_ce g ov 89 (M4 89)) kd_89) rfl 4 (by decide) rfl i_626 rfl d_M_clocks_221 ?_
              refine lv_iload S.1 S.2.1 d_M_clocks_224 (lv_at hl 0 rfl) ?_
              refine fk_ia S E G 92 (by decide) (congrArg (fk_ce g ov 92 (M4 92)) kd_92) y rfl (by omega) (by decide) (v := M 92 y) (by rw [wc92]) d_M_clocks_226 ?_
              rw [if_pos (show 15 < bf i by omega)] at hv2
              refine lv_goto (tgt := 232) S.1 S.2.1 d_M_clocks_227 rfl ?_
              refine lv_iload S.1 S.2.1 d_M_clocks_232 (lv_at hl 1 rfl) ?_
              refine lv_iload S.1 S.2.1 d_M_clocks_234 (lv_at hl 2 rfl) ?_
              refine fk_csi S E G (rest := [.int ww, .int (M 92 y), .ref (fk_a g 89)]) (c_M_many l g ov M4 (bf i) (by omega)) m_M_many i_757 ⟨rfl, rfl⟩ ⟨by decide, by decide⟩ rfl rfl hl.1 (Nat.le_of_ble_eq_true rfl) d_M_clocks_236 ⟨Nat.zero_le _, Nat.zero_le _⟩ (fun H locs G => ?_)
              refine fk_cvv S E G 89 (by decide) (congrArg (fk_ce g ov 89 (M4 89)) kd_89) rfl (rest := []) (c_M_want l g ov M4 u w3 (fk_ar (bf i)) (by omega) (M 92 y) ww) m_M_want i_775 ⟨rfl, rfl⟩ ⟨by decide, by decide⟩ rfl rfl hl.1 (Nat.le_of_ble_eq_true rfl) d_M_clocks_239 ⟨Nat.zero_le _, Nat.zero_le _⟩ (fun H locs G => ?_)
              refine lv_iinc (k := 4) (v := nI (pp + 1)) (lv' := [(2, .int (nI (pp + 1))), (6, .int (nI y)), (5, .int ww), (4, .int (nI (bf i))), (3, .int (nI i)), (0, .ref (fk_a g 89)), (1, .int (nI f))]) S.1 S.2.1 d_M_clocks_242 hl rfl (nI_1 pp) (by decide) rfl (fun ls hl => ?_)
              refine lv_goto (tgt := 17) S.1 S.2.1 d_M_clocks_245 rfl ?_
              have hq := fk_C3.want (show (102 : Nat) ≠ 89 ∧ (102 : Nat) ≠ 109 by decide) (M 92 y) (ww) (fk_ar (bf i)) u S9 M4 hcs
              rw [show u + fk_ar (bf i) = sl (pp + 1) by omega] at hq
              exact ih (pp + 1) _ (if fk_rcs (M 92) (bf i) y ww = ww then pl else fk_nt pl i) _ _ H locs ls (by omega) hq hv2 G (lv_sub hl [0, 5, 6] rfl)
          · have hA : fk_ar (bf i) = 2 := by rw [hc5]; rfl
            rw [if_pos hc5, if_pos hc5, hA] at hv2
            rw [hA] at hs3
            refine lv_aload_n S.1 S.2.1 d_M_clocks_192 rfl (lv_at hl 5 rfl) ?_
            refine lv_iconst (v := nI 1) S.1 S.2.1 d_M_clocks_193 (by decide +kernel) ?_
            refine lv_iconst (v := nI 2) S.1 S.2.1 d_M_clocks_194 (by decide +kernel) ?_
            refine lv_iload S.1 S.2.1 d_M_clocks_195 (lv_at hl 0 rfl) ?_
            refine fk_imul S.1 S.2.1 d_M_clocks_197 ?_
            refine fk_iadd S.1 S.2.1 d_M_clocks_198 ?_
            refine lv_iconst (v := nI 2) S.1 S.2.1 d_M_clocks_199 (by decide +kernel) ?_
            refine lv_iconst (v := nI 2) S.1 S.2.1 d_M_clocks_200 (by decide +kernel) ?_
            refine lv_iload S.1 S.2.1 d_M_clocks_201 (lv_at hl 0 rfl) ?_
            refine fk_imul S.1 S.2.1 d_M_clocks_203 ?_
            refine fk_iadd S.1 S.2.1 d_M_clocks_204 ?_
            refine lv_iconst (v := nI 2) S.1 S.2.1 d_M_clocks_205 (by decide +kernel) ?_
            refine fk_cvv S E G 89 (by decide) (congrArg (fk_ce g ov 89 (M4 89)) kd_89) rfl (rest := []) (c_M_want l g ov M4 u w3 2 (by omega) (nI (1 + 2 * y)) (nI (2 + 2 * y))) m_M_want i_775 ⟨rfl, rfl⟩ ⟨by decide, by decide⟩ rfl rfl hl.1 (Nat.le_of_ble_eq_true rfl) d_M_clocks_206 ⟨Nat.zero_le _, Nat.zero_le _⟩ (fun H locs G => ?_)
            refine lv_goto (tgt := 242) S.1 S.2.1 d_M_clocks_209 rfl ?_
            refine lv_iinc (k := 4) (v := nI (pp + 1)) (lv' := [(2, .int (nI (pp + 1))), (6, .int (nI y)), (5, .int ww), (4, .int (nI (bf i))), (3, .int (nI i)), (0, .ref (fk_a g 89)), (1, .int (nI f))]) S.1 S.2.1 d_M_clocks_242 hl rfl (nI_1 pp) (by decide) rfl (fun ls hl => ?_)
            refine lv_goto (tgt := 17) S.1 S.2.1 d_M_clocks_245 rfl ?_
            have hq := fk_C3.want (show (102 : Nat) ≠ 89 ∧ (102 : Nat) ≠ 109 by decide) (nI (1 + 2 * y)) (nI (2 + 2 * y)) (2) u S9 M4 hcs
            rw [show u + 2 = sl (pp + 1) by omega] at hq
            exact ih (pp + 1) _ (if fk_rcs (M 92) (bf i) y ww = ww then pl else fk_nt pl i) _ _ H locs ls (by omega) hq hv2 G (lv_sub hl [0, 5, 6] rfl)
        have j160 : ∀  (H : Heap) (locs : List Loc) (ls : Array Slot), fk_H g ov (Mp) s H locs → lv_has ls 8 [(7, .int (fk_rcs (M 92) (bf i) y ww)), (6, .int (nI y)), (5, .int ww), (4, .int (nI (bf i))), (3, .int (nI i)), (2, .int (nI pp)), (0, .ref (fk_a g 89)), (1, .int (nI f))] → W p l e (fk_rm (2)) s m args below meth c H locs 0 0 (MQ below (va_Qv (fun (_ : Unit) => True) (fun _ t9 => fk_Wd g ov (fk_w3 102 M (fk_rck bf sp sl (M 92) f P 0 (upd (M 109) 0 (M 92 f)) (M 89 30) (M 102)).1 (sl P) (fk_rck bf sp sl (M 92) f P 0 (upd (M 109) 0 (M 92 f)) (M 89 30) (M 102)).2.1 (fk_rck bf sp sl (M 92) f P 0 (upd (M 109) 0 (M 92 f)) (M 89 30) (M 102)).2.2) t9) (fk_A g)) args s 0 0 (fk_A g)) (F0 m 160 ls []) := by
          intro  H locs ls  G hl
          refine lv_iload S.1 S.2.1 d_M_clocks_160 (lv_at hl 0 rfl) ?_
          refine lv_iload S.1 S.2.1 d_M_clocks_162 (lv_at hl 2 rfl) ?_
          refine lv_icmp_eq (tgt := 172) S.1 S.2.1 d_M_clocks_164 rfl (fun hc7 => ?_) (fun hc7 => ?_)
          · have hcn := hcp
            rw [show pl = (if fk_rcs (M 92) (bf i) y ww = ww then pl else fk_nt pl i) from (if_pos hc7).symm] at hcn
            exact j172 Mp H locs ls hcn G (lv_sub hl [1, 2, 3, 4, 5, 6, 7] rfl)
          · refine lv_aload_n S.1 S.2.1 d_M_clocks_167 rfl (lv_at hl 6 rfl) ?_
            refine lv_iload_n S.1 S.2.1 d_M_clocks_168 rfl (lv_at hl 4 rfl) ?_
            refine fk_cvv S E G 89 (by decide) (congrArg (fk_ce g ov 89 (Mp 89)) kd_89) rfl (rest := []) (c_M_note l g ov Mp i) m_M_note i_787 ⟨rfl, rfl⟩ ⟨by decide, by decide⟩ rfl rfl hl.1 (Nat.le_of_ble_eq_true rfl) d_M_clocks_169 ⟨Nat.zero_le _, Nat.zero_le _⟩ (fun H locs G => ?_)
            have hcn := hcp.note (show (102 : Nat) ≠ 89 ∧ (102 : Nat) ≠ 109 by decide) i
            rw [show fk_nt pl i = (if fk_rcs (M 92) (bf i) y ww = ww then pl else fk_nt pl i) from (if_neg hc7).symm] at hcn
            exact j172 _ H locs ls hcn G (lv_sub hl [1, 2, 3, 4, 5, 6, 7] rfl)
        have j90 : ∀  (H : Heap) (locs : List Loc) (ls : Array Slot), fk_H g ov (Mp) s H locs → lv_has ls 8 [(6, .int (nI y)), (5, .int ww), (4, .int (nI (bf i))), (3, .int (nI i)), (2, .int (nI pp)), (0, .ref (fk_a g 89)), (1, .int (nI f))] → W p l e (fk_rm (2)) s m args below meth c H locs 0 0 (MQ below (va_Qv (fun (_ : Unit) => True) (fun _ t9 => fk_Wd g ov (fk_w3 102 M (fk_rck bf sp sl (M 92) f P 0 (upd (M 109) 0 (M 92 f)) (M 89 30) (M 102)).1 (sl P) (fk_rck bf sp sl (M 92) f P 0 (upd (M 109) 0 (M 92 f)) (M 89 30) (M 102)).2.1 (fk_rck bf sp sl (M 92) f P 0 (upd (M 109) 0 (M 92 f)) (M 89 30) (M 102)).2.2) t9) (fk_A g)) args s 0 0 (fk_A g)) (F0 m 90 ls []) := by
          intro  H locs ls  G hl
          refine lv_iload S.1 S.2.1 d_M_clocks_90 (lv_at hl 2 rfl) ?_
          refine lv_iconst (v := nI 3) S.1 S.2.1 d_M_clocks_92 (by decide +kernel) ?_
          refine fk_cge (tgt := 101) S.1 S.2.1 (by omega) (by omega) d_M_clocks_93 rfl (fun hc8 => ?_) (fun hc8 => ?_)
          · refine lv_iload S.1 S.2.1 d_M_clocks_101 (lv_at hl 2 rfl) ?_
            refine lv_iconst (v := nI 3) S.1 S.2.1 d_M_clocks_103 (by decide +kernel) ?_
            refine fk_ceq (tgt := 114) S.1 S.2.1 (by omega) (by omega) d_M_clocks_104 rfl (fun hc9 => ?_) (fun hc9 => ?_)
            · refine lv_aload_n S.1 S.2.1 d_M_clocks_114 rfl (lv_at hl 5 rfl) ?_
              refine fk_gf S E G 89 (by decide) (v := .ref (fk_a g 92)) (congrArg (fk_ce g ov 89 (Mp 89)) kd_89) rfl 4 (by decide) rfl i_626 rfl d_M_clocks_115 ?_
              refine lv_iload S.1 S.2.1 d_M_clocks_118 (lv_at hl 0 rfl) ?_
              refine fk_ia S E G 92 (by decide) (congrArg (fk_ce g ov 92 (Mp 92)) kd_92) y rfl (by omega) (by decide) (v := M 92 y) (by rw [qc92]) d_M_clocks_120 ?_
              refine lv_goto (tgt := 158) S.1 S.2.1 d_M_clocks_121 rfl ?_
              refine lv_istore (lv' := [(7, .int (M 92 y)), (6, .int (nI y)), (5, .int ww), (4, .int (nI (bf i))), (3, .int (nI i)), (2, .int (nI pp)), (0, .ref (fk_a g 89)), (1, .int (nI f))]) S.1 S.2.1 d_M_clocks_158 hl (by decide) rfl (fun ls hl => ?_)
              have hE : fk_rcs (M 92) (bf i) y ww = M 92 y := by
                unfold fk_rcs
                rw [if_neg (by omega), if_pos (by omega)]
              exact j160 H locs ls G (lv_sub hl [0, 1, 2, 3, 4, 5, 6, 7] (by rw [hE] <;> rfl))
            · refine lv_iload S.1 S.2.1 d_M_clocks_107 (lv_at hl 2 rfl) ?_
              refine lv_bipush (v := nI 18) S.1 S.2.1 d_M_clocks_109 (by decide +kernel) ?_
              refine fk_cne (tgt := 124) S.1 S.2.1 (by omega) (by omega) d_M_clocks_111 rfl (fun hc10 => ?_) (fun hc10 => ?_)
              · refine lv_iload S.1 S.2.1 d_M_clocks_124 (lv_at hl 2 rfl) ?_
                refine lv_bipush (v := nI 16) S.1 S.2.1 d_M_clocks_126 (by decide +kernel) ?_
                refine fk_cne (tgt := 140) S.1 S.2.1 (by omega) (by omega) d_M_clocks_128 rfl (fun hc11 => ?_) (fun hc11 => ?_)
                · refine lv_iload S.1 S.2.1 d_M_clocks_140 (lv_at hl 2 rfl) ?_
                  refine lv_bipush (v := nI 17) S.1 S.2.1 d_M_clocks_142 (by decide +kernel) ?_
                  refine fk_cne (tgt := 156) S.1 S.2.1 (by omega) (by omega) d_M_clocks_144 rfl (fun hc12 => ?_) (fun hc12 => ?_)
                  · refine lv_iload S.1 S.2.1 d_M_clocks_156 (lv_at hl 1 rfl) ?_
                    refine lv_istore (lv' := [(7, .int ww), (6, .int (nI y)), (5, .int ww), (4, .int (nI (bf i))), (3, .int (nI i)), (2, .int (nI pp)), (0, .ref (fk_a g 89)), (1, .int (nI f))]) S.1 S.2.1 d_M_clocks_158 hl (by decide) rfl (fun ls hl => ?_)
                    have hE : fk_rcs (M 92) (bf i) y ww = ww := by
                      unfold fk_rcs
                      rw [if_neg (by omega), if_neg (by omega), if_neg (by omega), if_neg (by omega)]
                    exact j160 H locs ls G (lv_sub hl [0, 1, 2, 3, 4, 5, 6, 7] (by rw [hE] <;> rfl))
                  · refine lv_iconst (v := nI 2) S.1 S.2.1 d_M_clocks_147 (by decide +kernel) ?_
                    refine lv_iconst (v := nI 2) S.1 S.2.1 d_M_clocks_148 (by decide +kernel) ?_
                    refine lv_iload S.1 S.2.1 d_M_clocks_149 (lv_at hl 0 rfl) ?_
                    refine fk_imul S.1 S.2.1 d_M_clocks_151 ?_
                    refine fk_iadd S.1 S.2.1 d_M_clocks_152 ?_
                    refine lv_goto (tgt := 158) S.1 S.2.1 d_M_clocks_153 rfl ?_
                    refine lv_istore (lv' := [(7, .int (nI (2 + (2 * y)))), (6, .int (nI y)), (5, .int ww), (4, .int (nI (bf i))), (3, .int (nI i)), (2, .int (nI pp)), (0, .ref (fk_a g 89)), (1, .int (nI f))]) S.1 S.2.1 d_M_clocks_158 hl (by decide) rfl (fun ls hl => ?_)
                    have hE : fk_rcs (M 92) (bf i) y ww = nI (2 + (2 * y)) := by
                      unfold fk_rcs
                      rw [if_neg (by omega), if_neg (by omega), if_neg (by omega), if_pos (by omega)]
                    exact j160 H locs ls G (lv_sub hl [0, 1, 2, 3, 4, 5, 6, 7] (by rw [hE] <;> rfl))
                · refine lv_iconst (v := nI 1) S.1 S.2.1 d_M_clocks_131 (by decide +kernel) ?_
                  refine lv_iconst (v := nI 2) S.1 S.2.1 d_M_clocks_132 (by decide +kernel) ?_
                  refine lv_iload S.1 S.2.1 d_M_clocks_133 (lv_at hl 0 rfl) ?_
                  refine fk_imul S.1 S.2.1 d_M_clocks_135 ?_
                  refine fk_iadd S.1 S.2.1 d_M_clocks_136 ?_
                  refine lv_goto (tgt := 158) S.1 S.2.1 d_M_clocks_137 rfl ?_
                  refine lv_istore (lv' := [(7, .int (nI (1 + (2 * y)))), (6, .int (nI y)), (5, .int ww), (4, .int (nI (bf i))), (3, .int (nI i)), (2, .int (nI pp)), (0, .ref (fk_a g 89)), (1, .int (nI f))]) S.1 S.2.1 d_M_clocks_158 hl (by decide) rfl (fun ls hl => ?_)
                  have hE : fk_rcs (M 92) (bf i) y ww = nI (1 + (2 * y)) := by
                    unfold fk_rcs
                    rw [if_neg (by omega), if_neg (by omega), if_pos (by omega)]
                  exact j160 H locs ls G (lv_sub hl [0, 1, 2, 3, 4, 5, 6, 7] (by rw [hE] <;> rfl))
              · refine lv_aload_n S.1 S.2.1 d_M_clocks_114 rfl (lv_at hl 5 rfl) ?_
                refine fk_gf S E G 89 (by decide) (v := .ref (fk_a g 92)) (congrArg (fk_ce g ov 89 (Mp 89)) kd_89) rfl 4 (by decide) rfl i_626 rfl d_M_clocks_115 ?_
                refine lv_iload S.1 S.2.1 d_M_clocks_118 (lv_at hl 0 rfl) ?_
                refine fk_ia S E G 92 (by decide) (congrArg (fk_ce g ov 92 (Mp 92)) kd_92) y rfl (by omega) (by decide) (v := M 92 y) (by rw [qc92]) d_M_clocks_120 ?_
                refine lv_goto (tgt := 158) S.1 S.2.1 d_M_clocks_121 rfl ?_
                refine lv_istore (lv' := [(7, .int (M 92 y)), (6, .int (nI y)), (5, .int ww), (4, .int (nI (bf i))), (3, .int (nI i)), (2, .int (nI pp)), (0, .ref (fk_a g 89)), (1, .int (nI f))]) S.1 S.2.1 d_M_clocks_158 hl (by decide) rfl (fun ls hl => ?_)
                have hE : fk_rcs (M 92) (bf i) y ww = M 92 y := by
                  unfold fk_rcs
                  rw [if_neg (by omega), if_pos (by omega)]
                exact j160 H locs ls G (lv_sub hl [0, 1, 2, 3, 4, 5, 6, 7] (by rw [hE] <;> rfl))
          · refine lv_iload S.1 S.2.1 d_M_clocks_96 (lv_at hl 1 rfl) ?_
            refine lv_goto (tgt := 158) S.1 S.2.1 d_M_clocks_98 rfl ?_
            refine lv_istore (lv' := [(7, .int ww), (6, .int (nI y)), (5, .int ww), (4, .int (nI (bf i))), (3, .int (nI i)), (2, .int (nI pp)), (0, .ref (fk_a g 89)), (1, .int (nI f))]) S.1 S.2.1 d_M_clocks_158 hl (by decide) rfl (fun ls hl => ?_)
            have hE : fk_rcs (M 92) (bf i) y ww = ww := by
              unfold fk_rcs
              rw [if_pos (by omega)]
            exact j160 H locs ls G (lv_sub hl [0, 1, 2, 3, 4, 5, 6, 7] (by rw [hE] <;> rfl))
        refine lv_iload S.1 S.2.1 d_M_clocks_58 (lv_at hl 1 rfl) ?_
        refine lv_iconst (v := nI 3) S.1 S.2.1 d_M_clocks_60 (by decide +kernel) ?_
        refine fk_ceq (tgt := 71) S.1 S.2.1 (by omega) (by omega) d_M_clocks_61 rfl (fun hc13 => ?_) (fun hc13 => ?_)
        · have hw1 := hok.2.2.2 (by omega)
          have hd2 := fk_hd2 (k := bf i) (by omega)
          refine lv_aload_n S.1 S.2.1 d_M_clocks_71 rfl (lv_at hl 4 rfl) ?_
          refine fk_gf S E G 89 (by decide) (v := .ref (fk_a g 100)) (congrArg (fk_ce g ov 89 (Mp 89)) kd_89) rfl 12 (by decide) rfl i_634 rfl d_M_clocks_72 ?_
          refine lv_bipush (v := nI 40) S.1 S.2.1 d_M_clocks_75 (by decide +kernel) ?_
          refine lv_iload_n S.1 S.2.1 d_M_clocks_77 rfl (lv_at hl 5 rfl) ?_
          refine fk_imul S.1 S.2.1 d_M_clocks_78 ?_
          refine lv_iload_n S.1 S.2.1 d_M_clocks_79 rfl (lv_at hl 2 rfl) ?_
          refine fk_iadd S.1 S.2.1 d_M_clocks_80 ?_
          refine lv_iconst (v := nI 1) S.1 S.2.1 d_M_clocks_81 (by decide +kernel) ?_
          refine fk_iadd S.1 S.2.1 d_M_clocks_82 ?_
          refine fk_ia S E G 100 (by decide) (congrArg (fk_ce g ov 100 (Mp 100)) kd_100) (40 * f + (i + 1)) rfl (by omega) (by decide) (v := nI (bf (i + 1))) (by rw [qc100]; exact hby (i + 1) (by omega)) d_M_clocks_83 ?_
          refine lv_goto (tgt := 88) S.1 S.2.1 d_M_clocks_84 rfl ?_
          refine lv_istore (lv' := [(6, .int (nI (bf (i + 1)))), (5, .int ww), (4, .int (nI (bf i))), (3, .int (nI i)), (2, .int (nI pp)), (0, .ref (fk_a g 89)), (1, .int (nI f))]) S.1 S.2.1 d_M_clocks_88 hl (by decide) rfl (fun ls hl => ?_)
          have hE : y = bf (i + 1) := by
            rw [hy]
            unfold fk_yy
            rw [if_pos (by omega)]
          exact j90 H locs ls G (lv_sub hl [0, 1, 2, 3, 4, 5, 6] (by rw [hE] <;> rfl))
        · refine lv_iload S.1 S.2.1 d_M_clocks_64 (lv_at hl 1 rfl) ?_
          refine lv_bipush (v := nI 15) S.1 S.2.1 d_M_clocks_66 (by decide +kernel) ?_
          refine fk_cle (tgt := 87) S.1 S.2.1 (by omega) (by omega) d_M_clocks_68 rfl (fun hc14 => ?_) (fun hc14 => ?_)
          · refine lv_iconst (v := nI 0) S.1 S.2.1 d_M_clocks_87 (by decide +kernel) ?_
            refine lv_istore (lv' := [(6, .int (nI 0)), (5, .int ww), (4, .int (nI (bf i))), (3, .int (nI i)), (2, .int (nI pp)), (0, .ref (fk_a g 89)), (1, .int (nI f))]) S.1 S.2.1 d_M_clocks_88 hl (by decide) rfl (fun ls hl => ?_)
            have hE : y = 0 := by
              rw [hy]
              unfold fk_yy
              rw [if_neg (by omega)]
            exact j90 H locs ls G (lv_sub hl [0, 1, 2, 3, 4, 5, 6] (by rw [hE] <;> rfl))
          · have hw1 := hok.2.2.2 (by omega)
            have hd2 := fk_hd2 (k := bf i) (by omega)
            refine lv_aload_n S.1 S.2.1 d_M_clocks_71 rfl (lv_at hl 4 rfl) ?_
            refine fk_gf S E G 89 (by decide) (v := .ref (fk_a g 100)) (congrArg (fk_ce g ov 89 (Mp 89)) kd_89) rfl 12 (by decide) rfl i_634 rfl d_M_clocks_72 ?_
            refine lv_bipush (v := nI 40) S.1 S.2.1 d_M_clocks_75 (by decide +kernel) ?_
            refine lv_iload_n S.1 S.2.1 d_M_clocks_77 rfl (lv_at hl 5 rfl) ?_
            refine fk_imul S.1 S.2.1 d_M_clocks_78 ?_
            refine lv_iload_n S.1 S.2.1 d_M_clocks_79 rfl (lv_at hl 2 rfl) ?_
            refine fk_iadd S.1 S.2.1 d_M_clocks_80 ?_
            refine lv_iconst (v := nI 1) S.1 S.2.1 d_M_clocks_81 (by decide +kernel) ?_
            refine fk_iadd S.1 S.2.1 d_M_clocks_82 ?_
            refine fk_ia S E G 100 (by decide) (congrArg (fk_ce g ov 100 (Mp 100)) kd_100) (40 * f + (i + 1)) rfl (by omega) (by decide) (v := nI (bf (i + 1))) (by rw [qc100]; exact hby (i + 1) (by omega)) d_M_clocks_83 ?_
            refine lv_goto (tgt := 88) S.1 S.2.1 d_M_clocks_84 rfl ?_
            refine lv_istore (lv' := [(6, .int (nI (bf (i + 1)))), (5, .int ww), (4, .int (nI (bf i))), (3, .int (nI i)), (2, .int (nI pp)), (0, .ref (fk_a g 89)), (1, .int (nI f))]) S.1 S.2.1 d_M_clocks_88 hl (by decide) rfl (fun ls hl => ?_)
            have hE : y = bf (i + 1) := by
              rw [hy]
              unfold fk_yy
              rw [if_pos (by omega)]
            exact j90 H locs ls G (lv_sub hl [0, 1, 2, 3, 4, 5, 6] (by rw [hE] <;> rfl))
  refine lv_aload_n S.1 S.2.1 d_M_clocks_5 rfl (lv_at hl 0 rfl) ?_
  refine lv_aload_n S.1 S.2.1 d_M_clocks_6 rfl (lv_at hl 0 rfl) ?_
  refine fk_gf S E G 89 (by decide) (v := .ref (fk_a g 92)) (congrArg (fk_ce g ov 89 (M1 89)) kd_89) rfl 4 (by decide) rfl i_626 rfl d_M_clocks_7 ?_
  refine lv_iload_n S.1 S.2.1 d_M_clocks_10 rfl (lv_at hl 1 rfl) ?_
  refine fk_ia S E G 92 (by decide) (congrArg (fk_ce g ov 92 (M1 92)) kd_92) f rfl (by omega) (by decide) (v := M 92 f) (by rw [hc0.2.2.2.2.2 92 (by decide) (by decide) (by decide)]) d_M_clocks_11 ?_
  refine fk_cvv S E G 89 (by decide) (congrArg (fk_ce g ov 89 (M1 89)) kd_89) rfl (rest := []) (c_M_push l g ov M1 0 hc0.2.2.1 (by decide) (M 92 f)) m_M_push i_749 ⟨rfl, rfl⟩ ⟨by decide, by decide⟩ rfl rfl hl.1 (Nat.le_of_ble_eq_true rfl) d_M_clocks_12 ⟨Nat.zero_le _, Nat.zero_le _⟩ (fun H locs G => ?_)
  refine lv_iconst (v := nI 0) S.1 S.2.1 d_M_clocks_15 (by decide +kernel) ?_
  refine lv_istore_n (lv' := [(2, .int (nI 0)), (0, .ref (fk_a g 89)), (1, .int (nI f))]) S.1 S.2.1 d_M_clocks_16 rfl hl (by decide) rfl (fun ls hl => ?_)
  exact loop P 0 (upd (M 109) 0 (M 92 f)) (M 89 30) (M 102) _ H locs ls (by omega) (by rw [hsl0]; exact hc0.push (show (102 : Nat) ≠ 89 ∧ (102 : Nat) ≠ 109 by decide) (M 92 f)) rfl G hl
theorem d_M_named_0 : decode b_M_named 0 = .ok (.aload_n 0, 1) := by decide +kernel
theorem d_M_named_1 : decode b_M_named 1 = .ok (.getfield 16, 3) := by decide +kernel
theorem d_M_named_4 : decode b_M_named 4 = .ok (.iload_n 1, 1) := by decide +kernel
theorem d_M_named_5 : decode b_M_named 5 = .ok (.iaload, 1) := by decide +kernel
theorem d_M_named_6 : decode b_M_named 6 = .ok (.ifCond .le 18, 3) := by decide +kernel
theorem d_M_named_9 : decode b_M_named 9 = .ok (.iconst 1, 1) := by decide +kernel
theorem d_M_named_10 : decode b_M_named 10 = .ok (.aload_n 0, 1) := by decide +kernel
theorem d_M_named_11 : decode b_M_named 11 = .ok (.getfield 16, 3) := by decide +kernel
theorem d_M_named_14 : decode b_M_named 14 = .ok (.iload_n 1, 1) := by decide +kernel
theorem d_M_named_15 : decode b_M_named 15 = .ok (.iaload, 1) := by decide +kernel
theorem d_M_named_16 : decode b_M_named 16 = .ok (.iconst 1, 1) := by decide +kernel
theorem d_M_named_17 : decode b_M_named 17 = .ok (.isub, 1) := by decide +kernel
theorem d_M_named_18 : decode b_M_named 18 = .ok (.iconst 2, 1) := by decide +kernel
theorem d_M_named_19 : decode b_M_named 19 = .ok (.idiv, 1) := by decide +kernel
theorem d_M_named_20 : decode b_M_named 20 = .ok (.ishl, 1) := by decide +kernel
theorem d_M_named_21 : decode b_M_named 21 = .ok (.goto 4, 3) := by decide +kernel
theorem d_M_named_24 : decode b_M_named 24 = .ok (.iconst 0, 1) := by decide +kernel
theorem d_M_named_25 : decode b_M_named 25 = .ok (.istore_n 2, 1) := by decide +kernel
theorem d_M_named_26 : decode b_M_named 26 = .ok (.aload_n 0, 1) := by decide +kernel
theorem d_M_named_27 : decode b_M_named 27 = .ok (.getfield 13, 3) := by decide +kernel
theorem d_M_named_30 : decode b_M_named 30 = .ok (.iload_n 1, 1) := by decide +kernel
theorem d_M_named_31 : decode b_M_named 31 = .ok (.baload, 1) := by decide +kernel
theorem d_M_named_32 : decode b_M_named 32 = .ok (.ifCond .eq 5, 3) := by decide +kernel
theorem d_M_named_35 : decode b_M_named 35 = .ok (.iload_n 2, 1) := by decide +kernel
theorem d_M_named_36 : decode b_M_named 36 = .ok (.ireturn, 1) := by decide +kernel
theorem d_M_named_37 : decode b_M_named 37 = .ok (.aload_n 0, 1) := by decide +kernel
theorem d_M_named_38 : decode b_M_named 38 = .ok (.iconst 0, 1) := by decide +kernel
theorem d_M_named_39 : decode b_M_named 39 = .ok (.putfield 81, 3) := by decide +kernel
theorem d_M_named_42 : decode b_M_named 42 = .ok (.aload_n 0, 1) := by decide +kernel
theorem d_M_named_43 : decode b_M_named 43 = .ok (.iconst 0, 1) := by decide +kernel
theorem d_M_named_44 : decode b_M_named 44 = .ok (.invokevirtual 112, 3) := by decide +kernel
theorem d_M_named_47 : decode b_M_named 47 = .ok (.iconst 0, 1) := by decide +kernel
theorem d_M_named_48 : decode b_M_named 48 = .ok (.istore_n 3, 1) := by decide +kernel
theorem d_M_named_49 : decode b_M_named 49 = .ok (.iload_n 3, 1) := by decide +kernel
theorem d_M_named_50 : decode b_M_named 50 = .ok (.aload_n 0, 1) := by decide +kernel
theorem d_M_named_51 : decode b_M_named 51 = .ok (.getfield 38, 3) := by decide +kernel
theorem d_M_named_54 : decode b_M_named 54 = .ok (.iload_n 1, 1) := by decide +kernel
theorem d_M_named_55 : decode b_M_named 55 = .ok (.iaload, 1) := by decide +kernel
theorem d_M_named_56 : decode b_M_named 56 = .ok (.if_icmp .ge 107, 3) := by decide +kernel
theorem d_M_named_59 : decode b_M_named 59 = .ok (.aload_n 0, 1) := by decide +kernel
theorem d_M_named_60 : decode b_M_named 60 = .ok (.getfield 44, 3) := by decide +kernel
theorem d_M_named_63 : decode b_M_named 63 = .ok (.bipush 40, 2) := by decide +kernel
theorem d_M_named_65 : decode b_M_named 65 = .ok (.iload_n 1, 1) := by decide +kernel
theorem d_M_named_66 : decode b_M_named 66 = .ok (.imul, 1) := by decide +kernel
theorem d_M_named_67 : decode b_M_named 67 = .ok (.iload_n 3, 1) := by decide +kernel
theorem d_M_named_68 : decode b_M_named 68 = .ok (.iadd, 1) := by decide +kernel
theorem d_M_named_69 : decode b_M_named 69 = .ok (.iaload, 1) := by decide +kernel
theorem d_M_named_70 : decode b_M_named 70 = .ok (.istore 4, 2) := by decide +kernel
theorem d_M_named_72 : decode b_M_named 72 = .ok (.aload_n 0, 1) := by decide +kernel
theorem d_M_named_73 : decode b_M_named 73 = .ok (.getfield 41, 3) := by decide +kernel
theorem d_M_named_76 : decode b_M_named 76 = .ok (.bipush 40, 2) := by decide +kernel
theorem d_M_named_78 : decode b_M_named 78 = .ok (.iload_n 1, 1) := by decide +kernel
theorem d_M_named_79 : decode b_M_named 79 = .ok (.imul, 1) := by decide +kernel
theorem d_M_named_80 : decode b_M_named 80 = .ok (.iload 4, 2) := by decide +kernel
theorem d_M_named_82 : decode b_M_named 82 = .ok (.iadd, 1) := by decide +kernel
theorem d_M_named_83 : decode b_M_named 83 = .ok (.iaload, 1) := by decide +kernel
theorem d_M_named_84 : decode b_M_named 84 = .ok (.istore 5, 2) := by decide +kernel
theorem d_M_named_86 : decode b_M_named 86 = .ok (.aload_n 0, 1) := by decide +kernel
theorem d_M_named_87 : decode b_M_named 87 = .ok (.invokevirtual 116, 3) := by decide +kernel
theorem d_M_named_90 : decode b_M_named 90 = .ok (.istore 6, 2) := by decide +kernel
theorem d_M_named_92 : decode b_M_named 92 = .ok (.iload 6, 2) := by decide +kernel
theorem d_M_named_94 : decode b_M_named 94 = .ok (.ifCond .ne 35, 3) := by decide +kernel
theorem d_M_named_97 : decode b_M_named 97 = .ok (.iload 5, 2) := by decide +kernel
theorem d_M_named_99 : decode b_M_named 99 = .ok (.iconst 3, 1) := by decide +kernel
theorem d_M_named_100 : decode b_M_named 100 = .ok (.if_icmp .eq 10, 3) := by decide +kernel
theorem d_M_named_103 : decode b_M_named 103 = .ok (.iload 5, 2) := by decide +kernel
theorem d_M_named_105 : decode b_M_named 105 = .ok (.bipush 15, 2) := by decide +kernel
theorem d_M_named_107 : decode b_M_named 107 = .ok (.if_icmp .le 22, 3) := by decide +kernel
theorem d_M_named_110 : decode b_M_named 110 = .ok (.iload_n 2, 1) := by decide +kernel
theorem d_M_named_111 : decode b_M_named 111 = .ok (.iconst 1, 1) := by decide +kernel
theorem d_M_named_112 : decode b_M_named 112 = .ok (.aload_n 0, 1) := by decide +kernel
theorem d_M_named_113 : decode b_M_named 113 = .ok (.getfield 41, 3) := by decide +kernel
theorem d_M_named_116 : decode b_M_named 116 = .ok (.bipush 40, 2) := by decide +kernel
theorem d_M_named_118 : decode b_M_named 118 = .ok (.iload_n 1, 1) := by decide +kernel
theorem d_M_named_119 : decode b_M_named 119 = .ok (.imul, 1) := by decide +kernel
theorem d_M_named_120 : decode b_M_named 120 = .ok (.iload 4, 2) := by decide +kernel
theorem d_M_named_122 : decode b_M_named 122 = .ok (.iadd, 1) := by decide +kernel
theorem d_M_named_123 : decode b_M_named 123 = .ok (.iconst 1, 1) := by decide +kernel
theorem d_M_named_124 : decode b_M_named 124 = .ok (.iadd, 1) := by decide +kernel
theorem d_M_named_125 : decode b_M_named 125 = .ok (.iaload, 1) := by decide +kernel
theorem d_M_named_126 : decode b_M_named 126 = .ok (.ishl, 1) := by decide +kernel
theorem d_M_named_127 : decode b_M_named 127 = .ok (.ior, 1) := by decide +kernel
theorem d_M_named_128 : decode b_M_named 128 = .ok (.istore_n 2, 1) := by decide +kernel
theorem d_M_named_129 : decode b_M_named 129 = .ok (.iload 5, 2) := by decide +kernel
theorem d_M_named_131 : decode b_M_named 131 = .ok (.bipush 14, 2) := by decide +kernel
theorem d_M_named_133 : decode b_M_named 133 = .ok (.if_icmp .ne 7, 3) := by decide +kernel
theorem d_M_named_136 : decode b_M_named 136 = .ok (.iconst 1, 1) := by decide +kernel
theorem d_M_named_137 : decode b_M_named 137 = .ok (.goto 5, 3) := by decide +kernel
theorem d_M_named_140 : decode b_M_named 140 = .ok (.iload 6, 2) := by decide +kernel
theorem d_M_named_142 : decode b_M_named 142 = .ok (.istore 7, 2) := by decide +kernel
theorem d_M_named_144 : decode b_M_named 144 = .ok (.aload_n 0, 1) := by decide +kernel
theorem d_M_named_145 : decode b_M_named 145 = .ok (.iload 7, 2) := by decide +kernel
theorem d_M_named_147 : decode b_M_named 147 = .ok (.iload 7, 2) := by decide +kernel
theorem d_M_named_149 : decode b_M_named 149 = .ok (.iload 5, 2) := by decide +kernel
theorem d_M_named_151 : decode b_M_named 151 = .ok (.invokestatic 120, 3) := by decide +kernel
theorem d_M_named_154 : decode b_M_named 154 = .ok (.invokevirtual 138, 3) := by decide +kernel
theorem d_M_named_157 : decode b_M_named 157 = .ok (.iinc 3 1, 3) := by decide +kernel
theorem d_M_named_160 : decode b_M_named 160 = .ok (.goto (-111), 3) := by decide +kernel
theorem d_M_named_163 : decode b_M_named 163 = .ok (.iload_n 2, 1) := by decide +kernel
theorem d_M_named_164 : decode b_M_named 164 = .ok (.ireturn, 1) := by decide +kernel
theorem m_M_named : fk_MI y_M_named b_M_named 8 (some .int) 1 := ⟨i_774, i_773, fk_mp (q := (y_M_named, 31)) (by decide +kernel), i_8, by decide +kernel⟩
set_option maxHeartbeats 4000000 in
set_option maxRecDepth 100000 in
theorem c_M_named (l : Launch) (g : fk_G) (ov : Int64) (M : fk_M) (c9 : Nat) (h25 : c9 < 25) (f : Nat) (hcl9 : M 92 f = nI c9) (hf : f < 12) (bf : Nat → Nat) (n cnt : Nat) (sp sl : Nat → Nat) (P : Nat) (hn40 : n ≤ 40) (h12 : cnt ≤ 12) (hP : P ≤ 40) (hsl0 : sl 0 = 1) (hRF : fk_RF bf n cnt sp sl P) (hpt : M 99 f = nI P) (hbg : ∀ q, q < P → M 101 (40 * f + q) = nI (sp q)) (hby : ∀ j, j < n → M 100 (40 * f + j) = nI (bf j)) : fk_CI l y_M_named b_M_named 8 (some .int) (fk_rm 2) g ov M (if M 91 f = 0 then fk_w3 102 M (fk_rnm bf sp sl P 0 (upd (M 109) 0 (nI 0)) (fk_rn0 c9)).1 (sl P) (M 89 30) (M 102) else M) [.ref (fk_a g 89), .int (nI f)] (if M 91 f = 0 then (fk_rnm bf sp sl P 0 (upd (M 109) 0 (nI 0)) (fk_rn0 c9)).2 else fk_rn0 c9) := by
  refine fk_ofI rfl (Nat.le_of_ble_eq_true rfl) ?_
  intro p e s m args below meth c ls S hr hlk E G hl
  have hl : lv_has ls 8 [(0, .ref (fk_a g 89)), (1, .int (nI f))] := hl
  have j26 : ∀  (H : Heap) (locs : List Loc) (ls : Array Slot), fk_H g ov (M) s H locs → lv_has ls 8 [(2, .int (fk_rn0 c9)), (0, .ref (fk_a g 89)), (1, .int (nI f))] → W p l e (fk_rm (2)) s m args below meth c H locs 0 0 (MQ below (va_Qi (fun rr (_ : Unit) => rr = if M 91 f = 0 then (fk_rnm bf sp sl P 0 (upd (M 109) 0 (nI 0)) (fk_rn0 c9)).2 else fk_rn0 c9) (fun _ t9 => fk_Wd g ov (if M 91 f = 0 then fk_w3 102 M (fk_rnm bf sp sl P 0 (upd (M 109) 0 (nI 0)) (fk_rn0 c9)).1 (sl P) (M 89 30) (M 102) else M) t9) (fk_A g)) args s 0 0 (fk_A g)) (F0 m 26 ls []) := by
    intro  H locs ls  G hl
    refine lv_aload_n S.1 S.2.1 d_M_named_26 rfl (lv_at hl 1 rfl) ?_
    refine fk_gf S E G 89 (by decide) (v := .ref (fk_a g 91)) (congrArg (fk_ce g ov 89 (M 89)) kd_89) rfl 3 (by decide) rfl i_625 rfl d_M_named_27 ?_
    refine lv_iload_n S.1 S.2.1 d_M_named_30 rfl (lv_at hl 2 rfl) ?_
    refine fk_za S E G 91 (by decide) (congrArg (fk_ce g ov 91 (M 91)) kd_91) f rfl (by omega) (by decide) (v := M 91 f) rfl d_M_named_31 ?_
    refine lv_if_eq (tgt := 37) S.1 S.2.1 d_M_named_32 rfl (fun hc1 => ?_) (fun hc1 => ?_)
    · rw [if_pos hc1, if_pos hc1]
      refine lv_aload_n S.1 S.2.1 d_M_named_37 rfl (lv_at hl 1 rfl) ?_
      refine lv_iconst (v := nI 0) S.1 S.2.1 d_M_named_38 (by decide +kernel) ?_
      refine fk_pf S E G 89 (by decide) (congrArg (fk_ce g ov 89 (M 89)) kd_89) rfl 29 (by decide) rfl i_651 (upd (M 89) 29 (nI 0)) (congrArg (fk_ce g ov 89 (upd (M 89) 29 (nI 0))) kd_89) rfl (ty := (.int)) (by decide +kernel) rfl rfl (Nat.le_of_ble_eq_true rfl) d_M_named_39 (fun H locs G => ?_)
      obtain ⟨M2, hM2⟩ : ∃ z : fk_M, z = va_up M 89 (upd (M 89) 29 (nI 0)) := ⟨_, rfl⟩
      rw [← hM2] at G
      have hc0 : fk_C3 102 M M2 (M 109) 0 (M 89 30) (M 102) := by
        rw [hM2]
        refine ⟨rfl, rfl, by rw [va_up_self, pk_us], by rw [va_up_self, pk_un (by decide)], fun j j1 j2 => by rw [va_up_self, pk_un j1], fun k k1 k2 k3 => by rw [va_up_ne _ _ k1]⟩
      have loop : ∀ (d : Nat) (pp : Nat) (S9 : Nat → Int32) (al : Int32) (Mc : fk_M) (H : Heap) (locs : List Loc) (ls : Array Slot), pp + d = P → fk_C3 102 M Mc S9 (sl pp) (M 89 30) (M 102) → fk_rnm bf sp sl d pp S9 al = fk_rnm bf sp sl P 0 (upd (M 109) 0 (nI 0)) (fk_rn0 c9) → fk_H g ov (Mc) s H locs → lv_has ls 8 [(3, .int (nI pp)), (2, .int al), (0, .ref (fk_a g 89)), (1, .int (nI f))] → W p l e (fk_rm (2)) s m args below meth c H locs 0 0 (MQ below (va_Qi (fun rr (_ : Unit) => rr = (fk_rnm bf sp sl P 0 (upd (M 109) 0 (nI 0)) (fk_rn0 c9)).2) (fun _ t9 => fk_Wd g ov (fk_w3 102 M (fk_rnm bf sp sl P 0 (upd (M 109) 0 (nI 0)) (fk_rn0 c9)).1 (sl P) (M 89 30) (M 102)) t9) (fk_A g)) args s 0 0 (fk_A g)) (F0 m 49 ls []) := by
        intro d
        induction d with
        | zero =>
          intro pp S9 al Mc H locs ls hv0 hv1 hv2 G hl
          obtain ⟨c1, c2, c3, c4, c5, c6⟩ := id hv1
          have cc90 : Mc 90 = M 90 := c6 90 (by decide) (by decide) (by decide)
          have cc91 : Mc 91 = M 91 := c6 91 (by decide) (by decide) (by decide)
          have cc92 : Mc 92 = M 92 := c6 92 (by decide) (by decide) (by decide)
          have cc94 : Mc 94 = M 94 := c6 94 (by decide) (by decide) (by decide)
          have cc99 : Mc 99 = M 99 := c6 99 (by decide) (by decide) (by decide)
          have cc100 : Mc 100 = M 100 := c6 100 (by decide) (by decide) (by decide)
          have cc101 : Mc 101 = M 101 := c6 101 (by decide) (by decide) (by decide)
          have cc103 : Mc 103 = M 103 := c6 103 (by decide) (by decide) (by decide)
          have cc105 : Mc 105 = M 105 := c6 105 (by decide) (by decide) (by decide)
          refine lv_iload_n S.1 S.2.1 d_M_named_49 rfl (lv_at hl 0 rfl) ?_
          refine lv_aload_n S.1 S.2.1 d_M_named_50 rfl (lv_at hl 2 rfl) ?_
          refine fk_gf S E G 89 (by decide) (v := .ref (fk_a g 99)) (congrArg (fk_ce g ov 89 (Mc 89)) kd_89) rfl 11 (by decide) rfl i_633 rfl d_M_named_51 ?_
          refine lv_iload_n S.1 S.2.1 d_M_named_54 rfl (lv_at hl 3 rfl) ?_
          refine fk_ia S E G 99 (by decide) (congrArg (fk_ce g ov 99 (Mc 99)) kd_99) f rfl (by omega) (by decide) (v := nI P) (by rw [cc99]; exact hpt) d_M_named_55 ?_
          refine fk_cge (tgt := 163) S.1 S.2.1 (by omega) (by omega) d_M_named_56 rfl (fun hc3 => ?_) (fun hc3 => ?_)
          · have hp : pp = P := by omega
            rw [hp] at hv1
            refine lv_iload_n S.1 S.2.1 d_M_named_163 rfl (lv_at hl 1 rfl) ?_
            exact fk_iret S hr hlk E G (by rw [← hv2]; exact hv1.eq) (by rw [← hv2] <;> rfl) d_M_named_164
          · exact absurd hv0 (by omega)
        | succ d ih =>
          intro pp S9 al Mc H locs ls hv0 hv1 hv2 G hl
          obtain ⟨hok, hs1, hs2, hs3⟩ := hRF pp (by omega)
          obtain ⟨u, hu⟩ : ∃ u, sl pp = u + 1 := ⟨sl pp - 1, by omega⟩
          obtain ⟨i, hi⟩ : ∃ z, z = sp pp := ⟨_, rfl⟩
          rw [fk_rnm_S, hu, Nat.add_sub_cancel, ← hi] at hv2
          rw [← hi] at hok hs3
          have hin := hok.1
          have hk18 := hok.2.1
          have hil := hok.2.2.1
          have har := fk_ar_le (bf i)
          have hhp := fk_hd_pos (bf i)
          rw [hu] at hv1
          obtain ⟨c1, c2, c3, c4, c5, c6⟩ := id hv1
          have cc90 : Mc 90 = M 90 := c6 90 (by decide) (by decide) (by decide)
          have cc91 : Mc 91 = M 91 := c6 91 (by decide) (by decide) (by decide)
          have cc92 : Mc 92 = M 92 := c6 92 (by decide) (by decide) (by decide)
          have cc94 : Mc 94 = M 94 := c6 94 (by decide) (by decide) (by decide)
          have cc99 : Mc 99 = M 99 := c6 99 (by decide) (by decide) (by decide)
          have cc100 : Mc 100 = M 100 := c6 100 (by decide) (by decide) (by decide)
          have cc101 : Mc 101 = M 101 := c6 101 (by decide) (by decide) (by decide)
          have cc103 : Mc 103 = M 103 := c6 103 (by decide) (by decide) (by decide)
          have cc105 : Mc 105 = M 105 := c6 105 (by decide) (by decide) (by decide)
          refine lv_iload_n S.1 S.2.1 d_M_named_49 rfl (lv_at hl 0 rfl) ?_
          refine lv_aload_n S.1 S.2.1 d_M_named_50 rfl (lv_at hl 2 rfl) ?_
          refine fk_gf S E G 89 (by decide) (v := .ref (fk_a g 99)) (congrArg (fk_ce g ov 89 (Mc 89)) kd_89) rfl 11 (by decide) rfl i_633 rfl d_M_named_51 ?_
          refine lv_iload_n S.1 S.2.1 d_M_named_54 rfl (lv_at hl 3 rfl) ?_
          refine fk_ia S E G 99 (by decide) (congrArg (fk_ce g ov 99 (Mc 99)) kd_99) f rfl (by omega) (by decide) (v := nI P) (by rw [cc99]; exact hpt) d_M_named_55 ?_
          refine fk_cge (tgt := 163) S.1 S.2.1 (by omega) (by omega) d_M_named_56 rfl (fun hc4 => ?_) (fun hc4 => ?_)
          · exact absurd hv0 (by omega)
          · refine lv_aload_n S.1 S.2.1 d_M_named_59 rfl (lv_at hl 2 rfl) ?_
            refine fk_gf S E G 89 (by decide) (v := .ref (fk_a g 101)) (congrArg (fk_ce g ov 89 (Mc 89)) kd_89) rfl 13 (by decide) rfl i_635 rfl d_M_named_60 ?_
            refine lv_bipush (v := nI 40) S.1 S.2.1 d_M_named_63 (by decide +kernel) ?_
            refine lv_iload_n S.1 S.2.1 d_M_named_65 rfl (lv_at hl 3 rfl) ?_
            refine fk_imul S.1 S.2.1 d_M_named_66 ?_
            refine lv_iload_n S.1 S.2.1 d_M_named_67 rfl (lv_at hl 0 rfl) ?_
            refine fk_iadd S.1 S.2.1 d_M_named_68 ?_
            refine fk_ia S E G 101 (by decide) (congrArg (fk_ce g ov 101 (Mc 101)) kd_101) ((40 * f) + pp) rfl (by omega) (by decide) (v := nI i) (by rw [cc101, hbg pp (by omega), hi]) d_M_named_69 ?_
            refine lv_istore (lv' := [(4, .int (nI i)), (3, .int (nI pp)), (2, .int al), (0, .ref (fk_a g 89)), (1, .int (nI f))]) S.1 S.2.1 d_M_named_70 hl (by decide) rfl (fun ls hl => ?_)
            refine lv_aload_n S.1 S.2.1 d_M_named_72 rfl (lv_at hl 3 rfl) ?_
            refine fk_gf S E G 89 (by decide) (v := .ref (fk_a g 100)) (congrArg (fk_ce g ov 89 (Mc 89)) kd_89) rfl 12 (by decide) rfl i_634 rfl d_M_named_73 ?_
            refine lv_bipush (v := nI 40) S.1 S.2.1 d_M_named_76 (by decide +kernel) ?_
            refine lv_iload_n S.1 S.2.1 d_M_named_78 rfl (lv_at hl 4 rfl) ?_
            refine fk_imul S.1 S.2.1 d_M_named_79 ?_
            refine lv_iload S.1 S.2.1 d_M_named_80 (lv_at hl 0 rfl) ?_
            refine fk_iadd S.1 S.2.1 d_M_named_82 ?_
            refine fk_ia S E G 100 (by decide) (congrArg (fk_ce g ov 100 (Mc 100)) kd_100) ((40 * f) + i) rfl (by omega) (by decide) (v := nI (bf i)) (by rw [cc100]; exact hby i (by omega)) d_M_named_83 ?_
            refine lv_istore (lv' := [(5, .int (nI (bf i))), (4, .int (nI i)), (3, .int (nI pp)), (2, .int al), (0, .ref (fk_a g 89)), (1, .int (nI f))]) S.1 S.2.1 d_M_named_84 hl (by decide) rfl (fun ls hl => ?_)
            refine lv_aload_n S.1 S.2.1 d_M_named_86 rfl (lv_at hl 4 rfl) ?_
            refine fk_cvi S E G 89 (by decide) (congrArg (fk_ce g ov 89 (Mc 89)) kd_89) rfl (rest := []) (show fk_CI _ _ _ _ _ _ _ _ _ _ _ (S9 u) from by have h9 := c_M_pop l g ov Mc u c3 (by omega); rw [c1] at h9; exact h9) m_M_pop i_753 ⟨rfl, rfl⟩ ⟨by decide, by decide⟩ rfl rfl hl.1 (Nat.le_of_ble_eq_true rfl) d_M_named_87 ⟨Nat.zero_le _, Nat.zero_le _⟩ (fun H locs G => ?_)
            obtain ⟨Mp, hMp⟩ : ∃ z : fk_M, z = fk_po Mc u := ⟨_, rfl⟩
            rw [← hMp] at G
            have hcp : fk_C3 102 M Mp S9 u (M 89 30) (M 102) := by rw [hMp]; exact hv1.pop (show (102 : Nat) ≠ 89 ∧ (102 : Nat) ≠ 109 by decide)
            obtain ⟨q1, q2, q3, q4, q5, q6⟩ := id hcp
            have qc90 : Mp 90 = M 90 := q6 90 (by decide) (by decide) (by decide)
            have qc91 : Mp 91 = M 91 := q6 91 (by decide) (by decide) (by decide)
            have qc92 : Mp 92 = M 92 := q6 92 (by decide) (by decide) (by decide)
            have qc94 : Mp 94 = M 94 := q6 94 (by decide) (by decide) (by decide)
            have qc99 : Mp 99 = M 99 := q6 99 (by decide) (by decide) (by decide)
            have qc100 : Mp 100 = M 100 := q6 100 (by decide) (by decide) (by decide)
            have qc101 : Mp 101 = M 101 := q6 101 (by decide) (by decide) (by decide)
            have qc103 : Mp 103 = M 103 := q6 103 (by decide) (by decide) (by decide)
            have qc105 : Mp 105 = M 105 := q6 105 (by decide) (by decide) (by decide)
            refine lv_istore (lv' := [(6, .int (S9 u)), (5, .int (nI (bf i))), (4, .int (nI i)), (3, .int (nI pp)), (2, .int al), (0, .ref (fk_a g 89)), (1, .int (nI f))]) S.1 S.2.1 d_M_named_90 hl (by decide) rfl (fun ls hl => ?_)
            obtain ⟨ww, hww⟩ : ∃ z, z = S9 u := ⟨_, rfl⟩
            rw [← hww] at hl hv2
            have j129 : ∀  (H : Heap) (locs : List Loc) (ls : Array Slot), fk_H g ov (Mp) s H locs → lv_has ls 8 [(2, .int ((if ww = 0 ∧ (bf i = 3 ∨ 15 < bf i) then al ||| (nI 1 <<< (nI (bf (i + 1)) &&& 31)) else al))), (6, .int ww), (5, .int (nI (bf i))), (4, .int (nI i)), (3, .int (nI pp)), (0, .ref (fk_a g 89)), (1, .int (nI f))] → W p l e (fk_rm (2)) s m args below meth c H locs 0 0 (MQ below (va_Qi (fun rr (_ : Unit) => rr = (fk_rnm bf sp sl P 0 (upd (M 109) 0 (nI 0)) (fk_rn0 c9)).2) (fun _ t9 => fk_Wd g ov (fk_w3 102 M (fk_rnm bf sp sl P 0 (upd (M 109) 0 (nI 0)) (fk_rn0 c9)).1 (sl P) (M 89 30) (M 102)) t9) (fk_A g)) args s 0 0 (fk_A g)) (F0 m 129 ls []) := by
              intro  H locs ls  G hl
              refine lv_iload S.1 S.2.1 d_M_named_129 (lv_at hl 2 rfl) ?_
              refine lv_bipush (v := nI 14) S.1 S.2.1 d_M_named_131 (by decide +kernel) ?_
              refine fk_cne (tgt := 140) S.1 S.2.1 (by omega) (by omega) d_M_named_133 rfl (fun hc5 => ?_) (fun hc5 => ?_)
              · rw [if_neg hc5] at hv2
                refine lv_iload S.1 S.2.1 d_M_named_140 (lv_at hl 1 rfl) ?_
                refine lv_istore (lv' := [(7, .int ww), (2, .int ((if ww = 0 ∧ (bf i = 3 ∨ 15 < bf i) then al ||| (nI 1 <<< (nI (bf (i + 1)) &&& 31)) else al))), (6, .int ww), (5, .int (nI (bf i))), (4, .int (nI i)), (3, .int (nI pp)), (0, .ref (fk_a g 89)), (1, .int (nI f))]) S.1 S.2.1 d_M_named_142 hl (by decide) rfl (fun ls hl => ?_)
                refine lv_aload_n S.1 S.2.1 d_M_named_144 rfl (lv_at hl 6 rfl) ?_
                refine lv_iload S.1 S.2.1 d_M_named_145 (lv_at hl 0 rfl) ?_
                refine lv_iload S.1 S.2.1 d_M_named_147 (lv_at hl 0 rfl) ?_
                refine lv_iload S.1 S.2.1 d_M_named_149 (lv_at hl 3 rfl) ?_
                refine fk_csi S E G (rest := [.int ww, .int ww, .ref (fk_a g 89)]) (c_M_many l g ov Mp (bf i) (by omega)) m_M_many i_757 ⟨rfl, rfl⟩ ⟨by decide, by decide⟩ rfl rfl hl.1 (Nat.le_of_ble_eq_true rfl) d_M_named_151 ⟨Nat.zero_le _, Nat.zero_le _⟩ (fun H locs G => ?_)
                refine fk_cvv S E G 89 (by decide) (congrArg (fk_ce g ov 89 (Mp 89)) kd_89) rfl (rest := []) (c_M_want l g ov Mp u q3 (fk_ar (bf i)) (by omega) (ww) (ww)) m_M_want i_775 ⟨rfl, rfl⟩ ⟨by decide, by decide⟩ rfl rfl hl.1 (Nat.le_of_ble_eq_true rfl) d_M_named_154 ⟨Nat.zero_le _, Nat.zero_le _⟩ (fun H locs G => ?_)
                refine lv_iinc (k := 5) (v := nI (pp + 1)) (lv' := [(3, .int (nI (pp + 1))), (7, .int ww), (2, .int ((if ww = 0 ∧ (bf i = 3 ∨ 15 < bf i) then al ||| (nI 1 <<< (nI (bf (i + 1)) &&& 31)) else al))), (6, .int ww), (5, .int (nI (bf i))), (4, .int (nI i)), (0, .ref (fk_a g 89)), (1, .int (nI f))]) S.1 S.2.1 d_M_named_157 hl rfl (nI_1 pp) (by decide) rfl (fun ls hl => ?_)
                refine lv_goto (tgt := 49) S.1 S.2.1 d_M_named_160 rfl ?_
                have hq := fk_C3.want (show (102 : Nat) ≠ 89 ∧ (102 : Nat) ≠ 109 by decide) (ww) (ww) (fk_ar (bf i)) u S9 Mp hcp
                rw [show u + fk_ar (bf i) = sl (pp + 1) by omega] at hq
                exact ih (pp + 1) _ _ _ H locs ls (by omega) hq hv2 G (lv_sub hl [0, 2, 6, 7] rfl)
              · rw [if_pos hc5] at hv2
                refine lv_iconst (v := nI 1) S.1 S.2.1 d_M_named_136 (by decide +kernel) ?_
                refine lv_goto (tgt := 142) S.1 S.2.1 d_M_named_137 rfl ?_
                refine lv_istore (lv' := [(7, .int (nI 1)), (2, .int ((if ww = 0 ∧ (bf i = 3 ∨ 15 < bf i) then al ||| (nI 1 <<< (nI (bf (i + 1)) &&& 31)) else al))), (6, .int ww), (5, .int (nI (bf i))), (4, .int (nI i)), (3, .int (nI pp)), (0, .ref (fk_a g 89)), (1, .int (nI f))]) S.1 S.2.1 d_M_named_142 hl (by decide) rfl (fun ls hl => ?_)
                refine lv_aload_n S.1 S.2.1 d_M_named_144 rfl (lv_at hl 6 rfl) ?_
                refine lv_iload S.1 S.2.1 d_M_named_145 (lv_at hl 0 rfl) ?_
                refine lv_iload S.1 S.2.1 d_M_named_147 (lv_at hl 0 rfl) ?_
                refine lv_iload S.1 S.2.1 d_M_named_149 (lv_at hl 3 rfl) ?_
                refine fk_csi S E G (rest := [.int (nI 1), .int (nI 1), .ref (fk_a g 89)]) (c_M_many l g ov Mp (bf i) (by omega)) m_M_many i_757 ⟨rfl, rfl⟩ ⟨by decide, by decide⟩ rfl rfl hl.1 (Nat.le_of_ble_eq_true rfl) d_M_named_151 ⟨Nat.zero_le _, Nat.zero_le _⟩ (fun H locs G => ?_)
                refine fk_cvv S E G 89 (by decide) (congrArg (fk_ce g ov 89 (Mp 89)) kd_89) rfl (rest := []) (c_M_want l g ov Mp u q3 (fk_ar (bf i)) (by omega) (nI 1) (nI 1)) m_M_want i_775 ⟨rfl, rfl⟩ ⟨by decide, by decide⟩ rfl rfl hl.1 (Nat.le_of_ble_eq_true rfl) d_M_named_154 ⟨Nat.zero_le _, Nat.zero_le _⟩ (fun H locs G => ?_)
                refine lv_iinc (k := 5) (v := nI (pp + 1)) (lv' := [(3, .int (nI (pp + 1))), (7, .int (nI 1)), (2, .int ((if ww = 0 ∧ (bf i = 3 ∨ 15 < bf i) then al ||| (nI 1 <<< (nI (bf (i + 1)) &&& 31)) else al))), (6, .int ww), (5, .int (nI (bf i))), (4, .int (nI i)), (0, .ref (fk_a g 89)), (1, .int (nI f))]) S.1 S.2.1 d_M_named_157 hl rfl (nI_1 pp) (by decide) rfl (fun ls hl => ?_)
                refine lv_goto (tgt := 49) S.1 S.2.1 d_M_named_160 rfl ?_
                have hq := fk_C3.want (show (102 : Nat) ≠ 89 ∧ (102 : Nat) ≠ 109 by decide) (nI 1) (nI 1) (fk_ar (bf i)) u S9 Mp hcp
                rw [show u + fk_ar (bf i) = sl (pp + 1) by omega] at hq
                exact ih (pp + 1) _ _ _ H locs ls (by omega) hq hv2 G (lv_sub hl [0, 2, 6, 7] rfl)
            refine lv_iload S.1 S.2.1 d_M_named_92 (lv_at hl 0 rfl) ?_
            refine lv_if_ne (tgt := 129) S.1 S.2.1 d_M_named_94 rfl (fun hc6 => ?_) (fun hc6 => ?_)
            · have hE : (if ww = 0 ∧ (bf i = 3 ∨ 15 < bf i) then al ||| (nI 1 <<< (nI (bf (i + 1)) &&& 31)) else al) = al := if_neg (fun q => hc6 q.1)
              exact j129 H locs ls G (lv_sub hl [4, 0, 1, 2, 3, 5, 6] (by rw [hE] <;> rfl))
            · refine lv_iload S.1 S.2.1 d_M_named_97 (lv_at hl 1 rfl) ?_
              refine lv_iconst (v := nI 3) S.1 S.2.1 d_M_named_99 (by decide +kernel) ?_
              refine fk_ceq (tgt := 110) S.1 S.2.1 (by omega) (by omega) d_M_named_100 rfl (fun hc7 => ?_) (fun hc7 => ?_)
              · have hw1 := hok.2.2.2 (by omega)
                have hd2 := fk_hd2 (k := bf i) (by omega)
                refine lv_iload_n S.1 S.2.1 d_M_named_110 rfl (lv_at hl 4 rfl) ?_
                refine lv_iconst (v := nI 1) S.1 S.2.1 d_M_named_111 (by decide +kernel) ?_
                refine lv_aload_n S.1 S.2.1 d_M_named_112 rfl (lv_at hl 5 rfl) ?_
                refine fk_gf S E G 89 (by decide) (v := .ref (fk_a g 100)) (congrArg (fk_ce g ov 89 (Mp 89)) kd_89) rfl 12 (by decide) rfl i_634 rfl d_M_named_113 ?_
                refine lv_bipush (v := nI 40) S.1 S.2.1 d_M_named_116 (by decide +kernel) ?_
                refine lv_iload_n S.1 S.2.1 d_M_named_118 rfl (lv_at hl 6 rfl) ?_
                refine fk_imul S.1 S.2.1 d_M_named_119 ?_
                refine lv_iload S.1 S.2.1 d_M_named_120 (lv_at hl 2 rfl) ?_
                refine fk_iadd S.1 S.2.1 d_M_named_122 ?_
                refine lv_iconst (v := nI 1) S.1 S.2.1 d_M_named_123 (by decide +kernel) ?_
                refine fk_iadd S.1 S.2.1 d_M_named_124 ?_
                refine fk_ia S E G 100 (by decide) (congrArg (fk_ce g ov 100 (Mp 100)) kd_100) (40 * f + (i + 1)) rfl (by omega) (by decide) (v := nI (bf (i + 1))) (by rw [qc100]; exact hby (i + 1) (by omega)) d_M_named_125 ?_
                refine lv_ishl S.1 S.2.1 d_M_named_126 ?_
                refine lv_ior S.1 S.2.1 d_M_named_127 ?_
                refine lv_istore_n (lv' := [(2, .int (al ||| ((nI 1) <<< (nI (bf (i + 1)) &&& 31)))), (6, .int ww), (5, .int (nI (bf i))), (4, .int (nI i)), (3, .int (nI pp)), (0, .ref (fk_a g 89)), (1, .int (nI f))]) S.1 S.2.1 d_M_named_128 rfl hl (by decide) rfl (fun ls hl => ?_)
                have hE : (if ww = 0 ∧ (bf i = 3 ∨ 15 < bf i) then al ||| (nI 1 <<< (nI (bf (i + 1)) &&& 31)) else al) = al ||| ((nI 1) <<< (nI (bf (i + 1)) &&& 31)) := if_pos ⟨hc6, by omega⟩
                exact j129 H locs ls G (lv_sub hl [0, 1, 2, 3, 4, 5, 6] (by rw [hE] <;> rfl))
              · refine lv_iload S.1 S.2.1 d_M_named_103 (lv_at hl 1 rfl) ?_
                refine lv_bipush (v := nI 15) S.1 S.2.1 d_M_named_105 (by decide +kernel) ?_
                refine fk_cle (tgt := 129) S.1 S.2.1 (by omega) (by omega) d_M_named_107 rfl (fun hc8 => ?_) (fun hc8 => ?_)
                · have hE : (if ww = 0 ∧ (bf i = 3 ∨ 15 < bf i) then al ||| (nI 1 <<< (nI (bf (i + 1)) &&& 31)) else al) = al := if_neg (fun q => by omega)
                  exact j129 H locs ls G (lv_sub hl [4, 0, 1, 2, 3, 5, 6] (by rw [hE] <;> rfl))
                · have hw1 := hok.2.2.2 (by omega)
                  have hd2 := fk_hd2 (k := bf i) (by omega)
                  refine lv_iload_n S.1 S.2.1 d_M_named_110 rfl (lv_at hl 4 rfl) ?_
                  refine lv_iconst (v := nI 1) S.1 S.2.1 d_M_named_111 (by decide +kernel) ?_
                  refine lv_aload_n S.1 S.2.1 d_M_named_112 rfl (lv_at hl 5 rfl) ?_
                  refine fk_gf S E G 89 (by decide) (v := .ref (fk_a g 100)) (congrArg (fk_ce g ov 89 (Mp 89)) kd_89) rfl 12 (by decide) rfl i_634 rfl d_M_named_113 ?_
                  refine lv_bipush (v := nI 40) S.1 S.2.1 d_M_named_116 (by decide +kernel) ?_
                  refine lv_iload_n S.1 S.2.1 d_M_named_118 rfl (lv_at hl 6 rfl) ?_
                  refine fk_imul S.1 S.2.1 d_M_named_119 ?_
                  refine lv_iload S.1 S.2.1 d_M_named_120 (lv_at hl 2 rfl) ?_
                  refine fk_iadd S.1 S.2.1 d_M_named_122 ?_
                  refine lv_iconst (v := nI 1) S.1 S.2.1 d_M_named_123 (by decide +kernel) ?_
                  refine fk_iadd S.1 S.2.1 d_M_named_124 ?_
                  refine fk_ia S E G 100 (by decide) (congrArg (fk_ce g ov 100 (Mp 100)) kd_100) (40 * f + (i + 1)) rfl (by omega) (by decide) (v := nI (bf (i + 1))) (by rw [qc100]; exact hby (i + 1) (by omega)) d_M_named_125 ?_
                  refine lv_ishl S.1 S.2.1 d_M_named_126 ?_
                  refine lv_ior S.1 S.2.1 d_M_named_127 ?_
                  refine lv_istore_n (lv' := [(2, .int (al ||| ((nI 1) <<< (nI (bf (i + 1)) &&& 31)))), (6, .int ww), (5, .int (nI (bf i))), (4, .int (nI i)), (3, .int (nI pp)), (0, .ref (fk_a g 89)), (1, .int (nI f))]) S.1 S.2.1 d_M_named_128 rfl hl (by decide) rfl (fun ls hl => ?_)
                  have hE : (if ww = 0 ∧ (bf i = 3 ∨ 15 < bf i) then al ||| (nI 1 <<< (nI (bf (i + 1)) &&& 31)) else al) = al ||| ((nI 1) <<< (nI (bf (i + 1)) &&& 31)) := if_pos ⟨hc6, by omega⟩
                  exact j129 H locs ls G (lv_sub hl [0, 1, 2, 3, 4, 5, 6] (by rw [hE] <;> rfl))
      refine lv_aload_n S.1 S.2.1 d_M_named_42 rfl (lv_at hl 1 rfl) ?_
      refine lv_iconst (v := nI 0) S.1 S.2.1 d_M_named_43 (by decide +kernel) ?_
      refine fk_cvv S E G 89 (by decide) (congrArg (fk_ce g ov 89 (M2 89)) kd_89) rfl (rest := []) (c_M_push l g ov M2 0 hc0.2.2.1 (by decide) (nI 0)) m_M_push i_749 ⟨rfl, rfl⟩ ⟨by decide, by decide⟩ rfl rfl hl.1 (Nat.le_of_ble_eq_true rfl) d_M_named_44 ⟨Nat.zero_le _, Nat.zero_le _⟩ (fun H locs G => ?_)
      refine lv_iconst (v := nI 0) S.1 S.2.1 d_M_named_47 (by decide +kernel) ?_
      refine lv_istore_n (lv' := [(3, .int (nI 0)), (2, .int (fk_rn0 c9)), (0, .ref (fk_a g 89)), (1, .int (nI f))]) S.1 S.2.1 d_M_named_48 rfl hl (by decide) rfl (fun ls hl => ?_)
      exact loop P 0 (upd (M 109) 0 (nI 0)) (fk_rn0 c9) _ H locs ls (by omega) (by rw [hsl0]; exact hc0.push (show (102 : Nat) ≠ 89 ∧ (102 : Nat) ≠ 109 by decide) (nI 0)) rfl G hl
    · rw [if_neg hc1, if_neg hc1]
      refine lv_iload_n S.1 S.2.1 d_M_named_35 rfl (lv_at hl 0 rfl) ?_
      exact fk_iret S hr hlk E G rfl rfl d_M_named_36
  refine lv_aload_n S.1 S.2.1 d_M_named_0 rfl (lv_at hl 0 rfl) ?_
  refine fk_gf S E G 89 (by decide) (v := .ref (fk_a g 92)) (congrArg (fk_ce g ov 89 (M 89)) kd_89) rfl 4 (by decide) rfl i_626 rfl d_M_named_1 ?_
  refine lv_iload_n S.1 S.2.1 d_M_named_4 rfl (lv_at hl 1 rfl) ?_
  refine fk_ia S E G 92 (by decide) (congrArg (fk_ce g ov 92 (M 92)) kd_92) f rfl (by omega) (by decide) (v := nI c9) hcl9 d_M_named_5 ?_
  refine fk_zle (tgt := 24) S.1 S.2.1 (by omega) d_M_named_6 rfl (fun hc9 => ?_) (fun hc9 => ?_)
  · refine lv_iconst (v := nI 0) S.1 S.2.1 d_M_named_24 (by decide +kernel) ?_
    refine lv_istore_n (lv' := [(2, .int (nI 0)), (0, .ref (fk_a g 89)), (1, .int (nI f))]) S.1 S.2.1 d_M_named_25 rfl hl (by decide) rfl (fun ls hl => ?_)
    have hE : fk_rn0 c9 = nI 0 := if_neg (by omega)
    exact j26 _ _ ls G (lv_sub hl [0, 1, 2] (by rw [hE] <;> rfl))
  · refine lv_iconst (v := nI 1) S.1 S.2.1 d_M_named_9 (by decide +kernel) ?_
    refine lv_aload_n S.1 S.2.1 d_M_named_10 rfl (lv_at hl 0 rfl) ?_
    refine fk_gf S E G 89 (by decide) (v := .ref (fk_a g 92)) (congrArg (fk_ce g ov 89 (M 89)) kd_89) rfl 4 (by decide) rfl i_626 rfl d_M_named_11 ?_
    refine lv_iload_n S.1 S.2.1 d_M_named_14 rfl (lv_at hl 1 rfl) ?_
    refine fk_ia S E G 92 (by decide) (congrArg (fk_ce g ov 92 (M 92)) kd_92) f rfl (by omega) (by decide) (v := nI c9) hcl9 d_M_named_15 ?_
    refine lv_iconst (v := nI 1) S.1 S.2.1 d_M_named_16 (by decide +kernel) ?_
    refine fk_isub S.1 S.2.1 (by omega) d_M_named_17 ?_
    refine lv_iconst (v := nI 2) S.1 S.2.1 d_M_named_18 (by decide +kernel) ?_
    refine fk_idiv S.1 S.2.1 (by omega) (by decide) (by decide) d_M_named_19 ?_
    refine lv_ishl S.1 S.2.1 d_M_named_20 ?_
    refine lv_goto (tgt := 25) S.1 S.2.1 d_M_named_21 rfl ?_
    refine lv_istore_n (lv' := [(2, .int ((nI 1) <<< (nI ((c9 - 1) / 2) &&& 31))), (0, .ref (fk_a g 89)), (1, .int (nI f))]) S.1 S.2.1 d_M_named_25 rfl hl (by decide) rfl (fun ls hl => ?_)
    have hE : fk_rn0 c9 = nI 1 <<< (nI ((c9 - 1) / 2) &&& 31) := if_pos (by omega)
    exact j26 _ _ ls G (lv_sub hl [0, 1, 2] (by rw [hE] <;> rfl))
