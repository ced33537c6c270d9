/-! The reference: beginnings. Written by wip/gen/s_mod8.py. -/
/-- what pops give: the first, and the others together -/
def fk_bo (S : Nat → Int32) : Nat → Nat → Nat → Int32 → Int32 → Int32 × Int32
  | 0, _, _, fi, ot => (fi, ot)
  | d + 1, q, t, fi, ot => fk_bo S d (q + 1) (t - 1) (if q = 0 then S (t - 1) else fi) (if q = 0 then ot else ot ||| S (t - 1))
theorem fk_bo_S (S : Nat → Int32) (d q t : Nat) (fi ot : Int32) : fk_bo S (d + 1) q t fi ot = fk_bo S d (q + 1) (t - 1) (if q = 0 then S (t - 1) else fi) (if q = 0 then ot else ot ||| S (t - 1)) := rfl
def fk_bv (k : Nat) (fi ot : Int32) : Int32 := if k = 14 then nI 1 else if k = 15 then fi else fi ||| ot
/-- the reference's beginnings, the parts below p still to come -/
def fk_rbg (b sp sl : Nat → Nat) : Nat → (Nat → Int32) → Int32 → (Nat → Int32) × Int32
  | 0, S, pl => (S, pl)
  | p + 1, S, pl => fk_rbg b sp sl p (upd S (sl p - 1) (fk_bv (b (sp p)) (fk_bo S (fk_ar (b (sp p))) 0 (sl (p + 1)) (nI 0) (nI 0)).1 (fk_bo S (fk_ar (b (sp p))) 0 (sl (p + 1)) (nI 0) (nI 0)).2)) (if (b (sp p) = 14 ∨ b (sp p) = 15) ∧ (fk_bo S (fk_ar (b (sp p))) 0 (sl (p + 1)) (nI 0) (nI 0)).1 = nI 1 then fk_nt pl (sp p) else pl)
theorem fk_rbg_S (b sp sl : Nat → Nat) (p : Nat) (S : Nat → Int32) (pl : Int32) : fk_rbg b sp sl (p + 1) S pl = fk_rbg b sp sl p (upd S (sl p - 1) (fk_bv (b (sp p)) (fk_bo S (fk_ar (b (sp p))) 0 (sl (p + 1)) (nI 0) (nI 0)).1 (fk_bo S (fk_ar (b (sp p))) 0 (sl (p + 1)) (nI 0) (nI 0)).2)) (if (b (sp p) = 14 ∨ b (sp p) = 15) ∧ (fk_bo S (fk_ar (b (sp p))) 0 (sl (p + 1)) (nI 0) (nI 0)).1 = nI 1 then fk_nt pl (sp p) else pl) := rfl
theorem d_M_beginnings_0 : decode b_M_beginnings 0 = .ok (.aload_n 0, 1) := by decide +kernel
theorem d_M_beginnings_1 : decode b_M_beginnings 1 = .ok (.iconst 0, 1) := by decide +kernel
theorem d_M_beginnings_2 : decode b_M_beginnings 2 = .ok (.putfield 81, 3) := by decide +kernel
theorem d_M_beginnings_5 : decode b_M_beginnings 5 = .ok (.aload_n 0, 1) := by decide +kernel
theorem d_M_beginnings_6 : decode b_M_beginnings 6 = .ok (.getfield 38, 3) := by decide +kernel
theorem d_M_beginnings_9 : decode b_M_beginnings 9 = .ok (.iload_n 1, 1) := by decide +kernel
theorem d_M_beginnings_10 : decode b_M_beginnings 10 = .ok (.iaload, 1) := by decide +kernel
theorem d_M_beginnings_11 : decode b_M_beginnings 11 = .ok (.iconst 1, 1) := by decide +kernel
theorem d_M_beginnings_12 : decode b_M_beginnings 12 = .ok (.isub, 1) := by decide +kernel
theorem d_M_beginnings_13 : decode b_M_beginnings 13 = .ok (.istore_n 2, 1) := by decide +kernel
theorem d_M_beginnings_14 : decode b_M_beginnings 14 = .ok (.iload_n 2, 1) := by decide +kernel
theorem d_M_beginnings_15 : decode b_M_beginnings 15 = .ok (.ifCond .lt 153, 3) := by decide +kernel
theorem d_M_beginnings_18 : decode b_M_beginnings 18 = .ok (.aload_n 0, 1) := by decide +kernel
theorem d_M_beginnings_19 : decode b_M_beginnings 19 = .ok (.getfield 44, 3) := by decide +kernel
theorem d_M_beginnings_22 : decode b_M_beginnings 22 = .ok (.bipush 40, 2) := by decide +kernel
theorem d_M_beginnings_24 : decode b_M_beginnings 24 = .ok (.iload_n 1, 1) := by decide +kernel
theorem d_M_beginnings_25 : decode b_M_beginnings 25 = .ok (.imul, 1) := by decide +kernel
theorem d_M_beginnings_26 : decode b_M_beginnings 26 = .ok (.iload_n 2, 1) := by decide +kernel
theorem d_M_beginnings_27 : decode b_M_beginnings 27 = .ok (.iadd, 1) := by decide +kernel
theorem d_M_beginnings_28 : decode b_M_beginnings 28 = .ok (.iaload, 1) := by decide +kernel
theorem d_M_beginnings_29 : decode b_M_beginnings 29 = .ok (.istore_n 3, 1) := by decide +kernel
theorem d_M_beginnings_30 : decode b_M_beginnings 30 = .ok (.aload_n 0, 1) := by decide +kernel
theorem d_M_beginnings_31 : decode b_M_beginnings 31 = .ok (.getfield 41, 3) := by decide +kernel
theorem d_M_beginnings_34 : decode b_M_beginnings 34 = .ok (.bipush 40, 2) := by decide +kernel
theorem d_M_beginnings_36 : decode b_M_beginnings 36 = .ok (.iload_n 1, 1) := by decide +kernel
theorem d_M_beginnings_37 : decode b_M_beginnings 37 = .ok (.imul, 1) := by decide +kernel
theorem d_M_beginnings_38 : decode b_M_beginnings 38 = .ok (.iload_n 3, 1) := by decide +kernel
theorem d_M_beginnings_39 : decode b_M_beginnings 39 = .ok (.iadd, 1) := by decide +kernel
theorem d_M_beginnings_40 : decode b_M_beginnings 40 = .ok (.iaload, 1) := by decide +kernel
theorem d_M_beginnings_41 : decode b_M_beginnings 41 = .ok (.istore 4, 2) := by decide +kernel
theorem d_M_beginnings_43 : decode b_M_beginnings 43 = .ok (.iconst 0, 1) := by decide +kernel
theorem d_M_beginnings_44 : decode b_M_beginnings 44 = .ok (.istore 5, 2) := by decide +kernel
theorem d_M_beginnings_46 : decode b_M_beginnings 46 = .ok (.iconst 0, 1) := by decide +kernel
theorem d_M_beginnings_47 : decode b_M_beginnings 47 = .ok (.istore 6, 2) := by decide +kernel
theorem d_M_beginnings_49 : decode b_M_beginnings 49 = .ok (.iconst 0, 1) := by decide +kernel
theorem d_M_beginnings_50 : decode b_M_beginnings 50 = .ok (.istore 7, 2) := by decide +kernel
theorem d_M_beginnings_52 : decode b_M_beginnings 52 = .ok (.iload 7, 2) := by decide +kernel
theorem d_M_beginnings_54 : decode b_M_beginnings 54 = .ok (.iload 4, 2) := by decide +kernel
theorem d_M_beginnings_56 : decode b_M_beginnings 56 = .ok (.invokestatic 120, 3) := by decide +kernel
theorem d_M_beginnings_59 : decode b_M_beginnings 59 = .ok (.if_icmp .ge 46, 3) := by decide +kernel
theorem d_M_beginnings_62 : decode b_M_beginnings 62 = .ok (.aload_n 0, 1) := by decide +kernel
theorem d_M_beginnings_63 : decode b_M_beginnings 63 = .ok (.invokevirtual 116, 3) := by decide +kernel
theorem d_M_beginnings_66 : decode b_M_beginnings 66 = .ok (.istore 8, 2) := by decide +kernel
theorem d_M_beginnings_68 : decode b_M_beginnings 68 = .ok (.iload 7, 2) := by decide +kernel
theorem d_M_beginnings_70 : decode b_M_beginnings 70 = .ok (.ifCond .ne 8, 3) := by decide +kernel
theorem d_M_beginnings_73 : decode b_M_beginnings 73 = .ok (.iload 8, 2) := by decide +kernel
theorem d_M_beginnings_75 : decode b_M_beginnings 75 = .ok (.goto 5, 3) := by decide +kernel
theorem d_M_beginnings_78 : decode b_M_beginnings 78 = .ok (.iload 5, 2) := by decide +kernel
theorem d_M_beginnings_80 : decode b_M_beginnings 80 = .ok (.istore 5, 2) := by decide +kernel
theorem d_M_beginnings_82 : decode b_M_beginnings 82 = .ok (.iload 7, 2) := by decide +kernel
theorem d_M_beginnings_84 : decode b_M_beginnings 84 = .ok (.ifCond .le 11, 3) := by decide +kernel
theorem d_M_beginnings_87 : decode b_M_beginnings 87 = .ok (.iload 6, 2) := by decide +kernel
theorem d_M_beginnings_89 : decode b_M_beginnings 89 = .ok (.iload 8, 2) := by decide +kernel
theorem d_M_beginnings_91 : decode b_M_beginnings 91 = .ok (.ior, 1) := by decide +kernel
theorem d_M_beginnings_92 : decode b_M_beginnings 92 = .ok (.goto 5, 3) := by decide +kernel
theorem d_M_beginnings_95 : decode b_M_beginnings 95 = .ok (.iload 6, 2) := by decide +kernel
theorem d_M_beginnings_97 : decode b_M_beginnings 97 = .ok (.istore 6, 2) := by decide +kernel
theorem d_M_beginnings_99 : decode b_M_beginnings 99 = .ok (.iinc 7 1, 3) := by decide +kernel
theorem d_M_beginnings_102 : decode b_M_beginnings 102 = .ok (.goto (-50), 3) := by decide +kernel
theorem d_M_beginnings_105 : decode b_M_beginnings 105 = .ok (.iload 4, 2) := by decide +kernel
theorem d_M_beginnings_107 : decode b_M_beginnings 107 = .ok (.bipush 14, 2) := by decide +kernel
theorem d_M_beginnings_109 : decode b_M_beginnings 109 = .ok (.if_icmp .eq 10, 3) := by decide +kernel
theorem d_M_beginnings_112 : decode b_M_beginnings 112 = .ok (.iload 4, 2) := by decide +kernel
theorem d_M_beginnings_114 : decode b_M_beginnings 114 = .ok (.bipush 15, 2) := by decide +kernel
theorem d_M_beginnings_116 : decode b_M_beginnings 116 = .ok (.if_icmp .ne 14, 3) := by decide +kernel
theorem d_M_beginnings_119 : decode b_M_beginnings 119 = .ok (.iload 5, 2) := by decide +kernel
theorem d_M_beginnings_121 : decode b_M_beginnings 121 = .ok (.iconst 1, 1) := by decide +kernel
theorem d_M_beginnings_122 : decode b_M_beginnings 122 = .ok (.if_icmp .ne 8, 3) := by decide +kernel
theorem d_M_beginnings_125 : decode b_M_beginnings 125 = .ok (.aload_n 0, 1) := by decide +kernel
theorem d_M_beginnings_126 : decode b_M_beginnings 126 = .ok (.iload_n 3, 1) := by decide +kernel
theorem d_M_beginnings_127 : decode b_M_beginnings 127 = .ok (.invokevirtual 135, 3) := by decide +kernel
theorem d_M_beginnings_130 : decode b_M_beginnings 130 = .ok (.aload_n 0, 1) := by decide +kernel
theorem d_M_beginnings_131 : decode b_M_beginnings 131 = .ok (.iload 4, 2) := by decide +kernel
theorem d_M_beginnings_133 : decode b_M_beginnings 133 = .ok (.bipush 14, 2) := by decide +kernel
theorem d_M_beginnings_135 : decode b_M_beginnings 135 = .ok (.if_icmp .ne 7, 3) := by decide +kernel
theorem d_M_beginnings_138 : decode b_M_beginnings 138 = .ok (.iconst 1, 1) := by decide +kernel
theorem d_M_beginnings_139 : decode b_M_beginnings 139 = .ok (.goto 20, 3) := by decide +kernel
theorem d_M_beginnings_142 : decode b_M_beginnings 142 = .ok (.iload 4, 2) := by decide +kernel
theorem d_M_beginnings_144 : decode b_M_beginnings 144 = .ok (.bipush 15, 2) := by decide +kernel
theorem d_M_beginnings_146 : decode b_M_beginnings 146 = .ok (.if_icmp .ne 8, 3) := by decide +kernel
theorem d_M_beginnings_149 : decode b_M_beginnings 149 = .ok (.iload 5, 2) := by decide +kernel
theorem d_M_beginnings_151 : decode b_M_beginnings 151 = .ok (.goto 8, 3) := by decide +kernel
theorem d_M_beginnings_154 : decode b_M_beginnings 154 = .ok (.iload 5, 2) := by decide +kernel
theorem d_M_beginnings_156 : decode b_M_beginnings 156 = .ok (.iload 6, 2) := by decide +kernel
theorem d_M_beginnings_158 : decode b_M_beginnings 158 = .ok (.ior, 1) := by decide +kernel
theorem d_M_beginnings_159 : decode b_M_beginnings 159 = .ok (.invokevirtual 112, 3) := by decide +kernel
theorem d_M_beginnings_162 : decode b_M_beginnings 162 = .ok (.iinc 2 (-1), 3) := by decide +kernel
theorem d_M_beginnings_165 : decode b_M_beginnings 165 = .ok (.goto (-151), 3) := by decide +kernel
theorem d_M_beginnings_168 : decode b_M_beginnings 168 = .ok (.aload_n 0, 1) := by decide +kernel
theorem d_M_beginnings_169 : decode b_M_beginnings 169 = .ok (.invokevirtual 116, 3) := by decide +kernel
theorem d_M_beginnings_172 : decode b_M_beginnings 172 = .ok (.iconst 1, 1) := by decide +kernel
theorem d_M_beginnings_173 : decode b_M_beginnings 173 = .ok (.if_icmp .ne 8, 3) := by decide +kernel
theorem d_M_beginnings_176 : decode b_M_beginnings 176 = .ok (.aload_n 0, 1) := by decide +kernel
theorem d_M_beginnings_177 : decode b_M_beginnings 177 = .ok (.iconst 0, 1) := by decide +kernel
theorem d_M_beginnings_178 : decode b_M_beginnings 178 = .ok (.invokevirtual 135, 3) := by decide +kernel
theorem d_M_beginnings_181 : decode b_M_beginnings 181 = .ok (.return_, 1) := by decide +kernel
theorem m_M_beginnings : fk_MI y_M_beginnings b_M_beginnings 9 none 1 := ⟨i_798, i_797, fk_mp (q := (y_M_beginnings, 31)) (by decide +kernel), i_8, by decide +kernel⟩
set_option maxHeartbeats 4000000 in
set_option maxRecDepth 100000 in
theorem c_M_beginnings (l : Launch) (g : fk_G) (ov : Int64) (M : fk_M) (f : Nat) (hf : f < 12) (bf : Nat → Nat) (n cnt : Nat) (sp sl : Nat → Nat) (P : Nat) (hn40 : n ≤ 40) (h12 : cnt ≤ 12) (hP : P ≤ 40) (hsl0 : sl 0 = 1) (hRF : fk_RF bf n cnt sp sl P) (hpt : M 99 f = nI P) (hbg : ∀ q, q < P → M 101 (40 * f + q) = nI (sp q)) (hby : ∀ j, j < n → M 100 (40 * f + j) = nI (bf j)) (hslP : sl P = 0) : fk_CV l y_M_beginnings b_M_beginnings 9 (fk_rm 2) g ov M (fk_w3 102 M (fk_rbg bf sp sl P (M 109) (M 89 30)).1 0 (if (fk_rbg bf sp sl P (M 109) (M 89 30)).1 0 = nI 1 then fk_nt (fk_rbg bf sp sl P (M 109) (M 89 30)).2 0 else (fk_rbg bf sp sl P (M 109) (M 89 30)).2) (M 102)) [.ref (fk_a g 89), .int (nI f)] := by
  refine fk_ofV rfl (Nat.le_of_ble_eq_true rfl) ?_
  intro p e s m args below meth c ls S hr hlk E G hl
  have hl : lv_has ls 9 [(0, .ref (fk_a g 89)), (1, .int (nI f))] := hl
  refine lv_aload_n S.1 S.2.1 d_M_beginnings_0 rfl (lv_at hl 0 rfl) ?_
  refine lv_iconst (v := nI 0) S.1 S.2.1 d_M_beginnings_1 (by decide +kernel) ?_
  refine fk_pf S E G 89 (by decide) (congrArg (fk_ce g ov 89 (M 89)) kd_89) rfl 29 (by decide) rfl i_651 (upd (M 89) 29 (nI 0)) (congrArg (fk_ce g ov 89 (upd (M 89) 29 (nI 0))) kd_89) rfl (ty := (.int)) (by decide +kernel) rfl rfl (Nat.le_of_ble_eq_true rfl) d_M_beginnings_2 (fun H locs G => ?_)
  obtain ⟨M1, hM1⟩ : ∃ z : fk_M, z = va_up M 89 (upd (M 89) 29 (nI 0)) := ⟨_, rfl⟩
  rw [← hM1] at G
  have hc0 : fk_C3 102 M M1 (M 109) 0 (M 89 30) (M 102) := by
    rw [hM1]
    refine ⟨rfl, rfl, by rw [va_up_self, pk_us], by rw [va_up_self, pk_un (by decide)], fun j j1 j2 => by rw [va_up_self, pk_un j1], fun k k1 k2 k3 => by rw [va_up_ne _ _ k1]⟩
  have loop : ∀ (d : Nat) (S9 : Nat → Int32) (pl : Int32) (Mc : fk_M) (H : Heap) (locs : List Loc) (ls : Array Slot), d ≤ P → fk_C3 102 M Mc S9 (sl d) pl (M 102) → fk_rbg bf sp sl d S9 pl = fk_rbg bf sp sl P (M 109) (M 89 30) → fk_H g ov (Mc) s H locs → lv_has ls 9 [(2, .int (nI d - 1)), (0, .ref (fk_a g 89)), (1, .int (nI f))] → W p l e (fk_rm (2)) s m args below meth c H locs 0 0 (MQ below (va_Qv (fun (_ : Unit) => True) (fun _ t9 => fk_Wd g ov (fk_w3 102 M (fk_rbg bf sp sl P (M 109) (M 89 30)).1 0 (if (fk_rbg bf sp sl P (M 109) (M 89 30)).1 0 = nI 1 then fk_nt (fk_rbg bf sp sl P (M 109) (M 89 30)).2 0 else (fk_rbg bf sp sl P (M 109) (M 89 30)).2) (M 102)) t9) (fk_A g)) args s 0 0 (fk_A g)) (F0 m 14 ls []) := by
    intro d
    induction d with
    | zero =>
      intro S9 pl Mc H locs ls hv0 hv1 hv2 G hl
      rw [hsl0] at hv1
      obtain ⟨c1, c2, c3, c4, c5, c6⟩ := id hv1
      have cc90 : Mc 90 = M 90 := c6 90 (by decide) (by decide) (by decide)
      have cc91 : Mc 91 = M 91 := c6 91 (by decide) (by decide) (by decide)
      have cc92 : Mc 92 = M 92 := c6 92 (by decide) (by decide) (by decide)
      have cc94 : Mc 94 = M 94 := c6 94 (by decide) (by decide) (by decide)
      have cc99 : Mc 99 = M 99 := c6 99 (by decide) (by decide) (by decide)
      have cc100 : Mc 100 = M 100 := c6 100 (by decide) (by decide) (by decide)
      have cc101 : Mc 101 = M 101 := c6 101 (by decide) (by decide) (by decide)
      have cc103 : Mc 103 = M 103 := c6 103 (by decide) (by decide) (by decide)
      have cc105 : Mc 105 = M 105 := c6 105 (by decide) (by decide) (by decide)
      refine lv_iload_n S.1 S.2.1 d_M_beginnings_14 rfl (lv_at hl 0 rfl) ?_
      refine lv_if_lt (tgt := 168) S.1 S.2.1 d_M_beginnings_15 rfl (fun hc2 => ?_) (fun hc2 => ?_)
      · refine lv_aload_n S.1 S.2.1 d_M_beginnings_168 rfl (lv_at hl 1 rfl) ?_
        refine fk_cvi S E G 89 (by decide) (congrArg (fk_ce g ov 89 (Mc 89)) kd_89) rfl (rest := []) (show fk_CI _ _ _ _ _ _ _ _ _ _ _ (S9 0) from by have h9 := c_M_pop l g ov Mc 0 c3 (by omega); rw [c1] at h9; exact h9) m_M_pop i_753 ⟨rfl, rfl⟩ ⟨by decide, by decide⟩ rfl rfl hl.1 (Nat.le_of_ble_eq_true rfl) d_M_beginnings_169 ⟨Nat.zero_le _, Nat.zero_le _⟩ (fun H locs G => ?_)
        obtain ⟨Mp, hMp⟩ : ∃ z : fk_M, z = fk_po Mc 0 := ⟨_, rfl⟩
        rw [← hMp] at G
        have hcp : fk_C3 102 M Mp S9 0 pl (M 102) := by rw [hMp]; exact hv1.pop (show (102 : Nat) ≠ 89 ∧ (102 : Nat) ≠ 109 by decide)
        have hv2 : (S9, pl) = fk_rbg bf sp sl P (M 109) (M 89 30) := hv2
        rw [← hv2]
        refine lv_iconst (v := nI 1) S.1 S.2.1 d_M_beginnings_172 (by decide +kernel) ?_
        refine lv_icmp_ne (tgt := 181) S.1 S.2.1 d_M_beginnings_173 rfl (fun hc3 => ?_) (fun hc3 => ?_)
        · exact fk_vret S hr hlk E G (by show Mp = fk_w3 102 M S9 0 (if S9 0 = nI 1 then fk_nt pl 0 else pl) (M 102); rw [if_neg hc3]; exact hcp.eq) d_M_beginnings_181
        · refine lv_aload_n S.1 S.2.1 d_M_beginnings_176 rfl (lv_at hl 1 rfl) ?_
          refine lv_iconst (v := nI 0) S.1 S.2.1 d_M_beginnings_177 (by decide +kernel) ?_
          refine fk_cvv S E G 89 (by decide) (congrArg (fk_ce g ov 89 (Mp 89)) kd_89) rfl (rest := []) (c_M_note l g ov Mp 0) m_M_note i_787 ⟨rfl, rfl⟩ ⟨by decide, by decide⟩ rfl rfl hl.1 (Nat.le_of_ble_eq_true rfl) d_M_beginnings_178 ⟨Nat.zero_le _, Nat.zero_le _⟩ (fun H locs G => ?_)
          exact fk_vret S hr hlk E G (by show fk_nm9 Mp 0 = fk_w3 102 M S9 0 (if S9 0 = nI 1 then fk_nt pl 0 else pl) (M 102); rw [if_pos hc3]; exact (hcp.note (show (102 : Nat) ≠ 89 ∧ (102 : Nat) ≠ 109 by decide) 0).eq) d_M_beginnings_181
      · exact absurd (by decide +kernel) hc2
    | succ d ih =>
      intro S9 pl Mc H locs ls hv0 hv1 hv2 G hl
      rw [nI_pred] at hl
      obtain ⟨hok, hs1, hs2, hs3⟩ := hRF d (by omega)
      obtain ⟨u, hu⟩ : ∃ u, sl d = u + 1 := ⟨sl d - 1, by omega⟩
      obtain ⟨i, hi⟩ : ∃ z, z = sp d := ⟨_, rfl⟩
      rw [fk_rbg_S, hu, Nat.add_sub_cancel, ← hi] at hv2
      rw [← hi] at hok hs3
      have hin := hok.1
      have hk18 := hok.2.1
      have hil := hok.2.2.1
      have har := fk_ar_le (bf i)
      have hhp := fk_hd_pos (bf i)
      obtain ⟨c1, c2, c3, c4, c5, c6⟩ := id hv1
      have cc90 : Mc 90 = M 90 := c6 90 (by decide) (by decide) (by decide)
      have cc91 : Mc 91 = M 91 := c6 91 (by decide) (by decide) (by decide)
      have cc92 : Mc 92 = M 92 := c6 92 (by decide) (by decide) (by decide)
      have cc94 : Mc 94 = M 94 := c6 94 (by decide) (by decide) (by decide)
      have cc99 : Mc 99 = M 99 := c6 99 (by decide) (by decide) (by decide)
      have cc100 : Mc 100 = M 100 := c6 100 (by decide) (by decide) (by decide)
      have cc101 : Mc 101 = M 101 := c6 101 (by decide) (by decide) (by decide)
      have cc103 : Mc 103 = M 103 := c6 103 (by decide) (by decide) (by decide)
      have cc105 : Mc 105 = M 105 := c6 105 (by decide) (by decide) (by decide)
      refine lv_iload_n S.1 S.2.1 d_M_beginnings_14 rfl (lv_at hl 0 rfl) ?_
      refine lv_if_lt (tgt := 168) S.1 S.2.1 d_M_beginnings_15 rfl (fun hc4 => ?_) (fun hc4 => ?_)
      · exact absurd hc4 (nI_pos (by omega))
      · refine lv_aload_n S.1 S.2.1 d_M_beginnings_18 rfl (lv_at hl 1 rfl) ?_
        refine fk_gf S E G 89 (by decide) (v := .ref (fk_a g 101)) (congrArg (fk_ce g ov 89 (Mc 89)) kd_89) rfl 13 (by decide) rfl i_635 rfl d_M_beginnings_19 ?_
        refine lv_bipush (v := nI 40) S.1 S.2.1 d_M_beginnings_22 (by decide +kernel) ?_
        refine lv_iload_n S.1 S.2.1 d_M_beginnings_24 rfl (lv_at hl 2 rfl) ?_
        refine fk_imul S.1 S.2.1 d_M_beginnings_25 ?_
        refine lv_iload_n S.1 S.2.1 d_M_beginnings_26 rfl (lv_at hl 0 rfl) ?_
        refine fk_iadd S.1 S.2.1 d_M_beginnings_27 ?_
        refine fk_ia S E G 101 (by decide) (congrArg (fk_ce g ov 101 (Mc 101)) kd_101) ((40 * f) + d) rfl (by omega) (by decide) (v := nI i) (by rw [cc101, hbg d (by omega), hi]) d_M_beginnings_28 ?_
        refine lv_istore_n (lv' := [(3, .int (nI i)), (2, .int (nI d)), (0, .ref (fk_a g 89)), (1, .int (nI f))]) S.1 S.2.1 d_M_beginnings_29 rfl hl (by decide) rfl (fun ls hl => ?_)
        refine lv_aload_n S.1 S.2.1 d_M_beginnings_30 rfl (lv_at hl 2 rfl) ?_
        refine fk_gf S E G 89 (by decide) (v := .ref (fk_a g 100)) (congrArg (fk_ce g ov 89 (Mc 89)) kd_89) rfl 12 (by decide) rfl i_634 rfl d_M_beginnings_31 ?_
        refine lv_bipush (v := nI 40) S.1 S.2.1 d_M_beginnings_34 (by decide +kernel) ?_
        refine lv_iload_n S.1 S.2.1 d_M_beginnings_36 rfl (lv_at hl 3 rfl) ?_
        refine fk_imul S.1 S.2.1 d_M_beginnings_37 ?_
        refine lv_iload_n S.1 S.2.1 d_M_beginnings_38 rfl (lv_at hl 0 rfl) ?_
        refine fk_iadd S.1 S.2.1 d_M_beginnings_39 ?_
        refine fk_ia S E G 100 (by decide) (congrArg (fk_ce g ov 100 (Mc 100)) kd_100) ((40 * f) + i) rfl (by omega) (by decide) (v := nI (bf i)) (by rw [cc100]; exact hby i (by omega)) d_M_beginnings_40 ?_
        refine lv_istore (lv' := [(4, .int (nI (bf i))), (3, .int (nI i)), (2, .int (nI d)), (0, .ref (fk_a g 89)), (1, .int (nI f))]) S.1 S.2.1 d_M_beginnings_41 hl (by decide) rfl (fun ls hl => ?_)
        refine lv_iconst (v := nI 0) S.1 S.2.1 d_M_beginnings_43 (by decide +kernel) ?_
        refine lv_istore (lv' := [(5, .int (nI 0)), (4, .int (nI (bf i))), (3, .int (nI i)), (2, .int (nI d)), (0, .ref (fk_a g 89)), (1, .int (nI f))]) S.1 S.2.1 d_M_beginnings_44 hl (by decide) rfl (fun ls hl => ?_)
        refine lv_iconst (v := nI 0) S.1 S.2.1 d_M_beginnings_46 (by decide +kernel) ?_
        refine lv_istore (lv' := [(6, .int (nI 0)), (5, .int (nI 0)), (4, .int (nI (bf i))), (3, .int (nI i)), (2, .int (nI d)), (0, .ref (fk_a g 89)), (1, .int (nI f))]) S.1 S.2.1 d_M_beginnings_47 hl (by decide) rfl (fun ls hl => ?_)
        refine lv_iconst (v := nI 0) S.1 S.2.1 d_M_beginnings_49 (by decide +kernel) ?_
        refine lv_istore (lv' := [(7, .int (nI 0)), (6, .int (nI 0)), (5, .int (nI 0)), (4, .int (nI (bf i))), (3, .int (nI i)), (2, .int (nI d)), (0, .ref (fk_a g 89)), (1, .int (nI f))]) S.1 S.2.1 d_M_beginnings_50 hl (by decide) rfl (fun ls hl => ?_)
        obtain ⟨RB, hRB⟩ : ∃ z, z = (fk_bo S9 (fk_ar (bf i)) 0 (sl (d + 1)) (nI 0) (nI 0)) := ⟨_, rfl⟩
        rw [← hRB] at hv2
        have j130 : ∀ (Md : fk_M) (H : Heap) (locs : List Loc) (ls : Array Slot), fk_C3 102 M Md S9 u (if (bf i = 14 ∨ bf i = 15) ∧ RB.1 = nI 1 then fk_nt pl i else pl) (M 102) → fk_H g ov (Md) s H locs → lv_has ls 9 [(6, .int RB.2), (5, .int RB.1), (4, .int (nI (bf i))), (3, .int (nI i)), (2, .int (nI d)), (0, .ref (fk_a g 89)), (1, .int (nI f))] → W p l e (fk_rm (2)) s m args below meth c H locs 0 0 (MQ below (va_Qv (fun (_ : Unit) => True) (fun _ t9 => fk_Wd g ov (fk_w3 102 M (fk_rbg bf sp sl P (M 109) (M 89 30)).1 0 (if (fk_rbg bf sp sl P (M 109) (M 89 30)).1 0 = nI 1 then fk_nt (fk_rbg bf sp sl P (M 109) (M 89 30)).2 0 else (fk_rbg bf sp sl P (M 109) (M 89 30)).2) (M 102)) t9) (fk_A g)) args s 0 0 (fk_A g)) (F0 m 130 ls []) := by
          intro Md H locs ls hv0 G hl
          have hz0 := hv0
          refine lv_aload_n S.1 S.2.1 d_M_beginnings_130 rfl (lv_at hl 5 rfl) ?_
          refine lv_iload S.1 S.2.1 d_M_beginnings_131 (lv_at hl 2 rfl) ?_
          refine lv_bipush (v := nI 14) S.1 S.2.1 d_M_beginnings_133 (by decide +kernel) ?_
          refine fk_cne (tgt := 142) S.1 S.2.1 (by omega) (by omega) d_M_beginnings_135 rfl (fun hc5 => ?_) (fun hc5 => ?_)
          · refine lv_iload S.1 S.2.1 d_M_beginnings_142 (lv_at hl 2 rfl) ?_
            refine lv_bipush (v := nI 15) S.1 S.2.1 d_M_beginnings_144 (by decide +kernel) ?_
            refine fk_cne (tgt := 154) S.1 S.2.1 (by omega) (by omega) d_M_beginnings_146 rfl (fun hc6 => ?_) (fun hc6 => ?_)
            · refine lv_iload S.1 S.2.1 d_M_beginnings_154 (lv_at hl 1 rfl) ?_
              refine lv_iload S.1 S.2.1 d_M_beginnings_156 (lv_at hl 0 rfl) ?_
              refine lv_ior S.1 S.2.1 d_M_beginnings_158 ?_
              have hE : fk_bv (bf i) RB.1 RB.2 = RB.1 ||| RB.2 := by
                unfold fk_bv
                rw [if_neg hc5, if_neg hc6]
              rw [hE] at hv2
              refine fk_cvv S E G 89 (by decide) (congrArg (fk_ce g ov 89 (Md 89)) kd_89) rfl (rest := []) (c_M_push l g ov Md u hz0.2.2.1 (by omega) (RB.1 ||| RB.2)) m_M_push i_749 ⟨rfl, rfl⟩ ⟨by decide, by decide⟩ rfl rfl hl.1 (Nat.le_of_ble_eq_true rfl) d_M_beginnings_159 ⟨Nat.zero_le _, Nat.zero_le _⟩ (fun H locs G => ?_)
              refine lv_iinc (k := 4) (v := nI d - 1) (lv' := [(2, .int (nI d - 1)), (6, .int RB.2), (5, .int RB.1), (4, .int (nI (bf i))), (3, .int (nI i)), (0, .ref (fk_a g 89)), (1, .int (nI f))]) S.1 S.2.1 d_M_beginnings_162 hl rfl (fk_dec _) (by decide) rfl (fun ls hl => ?_)
              refine lv_goto (tgt := 14) S.1 S.2.1 d_M_beginnings_165 rfl ?_
              exact ih _ (if (bf i = 14 ∨ bf i = 15) ∧ RB.1 = nI 1 then fk_nt pl i else pl) _ H locs ls (by omega) (by rw [hu]; exact hz0.push (show (102 : Nat) ≠ 89 ∧ (102 : Nat) ≠ 109 by decide) _) hv2 G (lv_sub hl [0, 5, 6] rfl)
            · refine lv_iload S.1 S.2.1 d_M_beginnings_149 (lv_at hl 1 rfl) ?_
              refine lv_goto (tgt := 159) S.1 S.2.1 d_M_beginnings_151 rfl ?_
              have hE : fk_bv (bf i) RB.1 RB.2 = RB.1 := by
                unfold fk_bv
                rw [if_neg hc5, if_pos hc6]
              rw [hE] at hv2
              refine fk_cvv S E G 89 (by decide) (congrArg (fk_ce g ov 89 (Md 89)) kd_89) rfl (rest := []) (c_M_push l g ov Md u hz0.2.2.1 (by omega) (RB.1)) m_M_push i_749 ⟨rfl, rfl⟩ ⟨by decide, by decide⟩ rfl rfl hl.1 (Nat.le_of_ble_eq_true rfl) d_M_beginnings_159 ⟨Nat.zero_le _, Nat.zero_le _⟩ (fun H locs G => ?_)
              refine lv_iinc (k := 4) (v := nI d - 1) (lv' := [(2, .int (nI d - 1)), (6, .int RB.2), (5, .int RB.1), (4, .int (nI (bf i))), (3, .int (nI i)), (0, .ref (fk_a g 89)), (1, .int (nI f))]) S.1 S.2.1 d_M_beginnings_162 hl rfl (fk_dec _) (by decide) rfl (fun ls hl => ?_)
              refine lv_goto (tgt := 14) S.1 S.2.1 d_M_beginnings_165 rfl ?_
              exact ih _ (if (bf i = 14 ∨ bf i = 15) ∧ RB.1 = nI 1 then fk_nt pl i else pl) _ H locs ls (by omega) (by rw [hu]; exact hz0.push (show (102 : Nat) ≠ 89 ∧ (102 : Nat) ≠ 109 by decide) _) hv2 G (lv_sub hl [0, 5, 6] rfl)
          · refine lv_iconst (v := nI 1) S.1 S.2.1 d_M_beginnings_138 (by decide +kernel) ?_
            refine lv_goto (tgt := 159) S.1 S.2.1 d_M_beginnings_139 rfl ?_
            have hE : fk_bv (bf i) RB.1 RB.2 = nI 1 := by
              unfold fk_bv
              rw [if_pos hc5]
            rw [hE] at hv2
            refine fk_cvv S E G 89 (by decide) (congrArg (fk_ce g ov 89 (Md 89)) kd_89) rfl (rest := []) (c_M_push l g ov Md u hz0.2.2.1 (by omega) (nI 1)) m_M_push i_749 ⟨rfl, rfl⟩ ⟨by decide, by decide⟩ rfl rfl hl.1 (Nat.le_of_ble_eq_true rfl) d_M_beginnings_159 ⟨Nat.zero_le _, Nat.zero_le _⟩ (fun H locs G => ?_)
            refine lv_iinc (k := 4) (v := nI d - 1) (lv' := [(2, .int (nI d - 1)), (6, .int RB.2), (5, .int RB.1), (4, .int (nI (bf i))), (3, .int (nI i)), (0, .ref (fk_a g 89)), (1, .int (nI f))]) S.1 S.2.1 d_M_beginnings_162 hl rfl (fk_dec _) (by decide) rfl (fun ls hl => ?_)
            refine lv_goto (tgt := 14) S.1 S.2.1 d_M_beginnings_165 rfl ?_
            exact ih _ (if (bf i = 14 ∨ bf i = 15) ∧ RB.1 = nI 1 then fk_nt pl i else pl) _ H locs ls (by omega) (by rw [hu]; exact hz0.push (show (102 : Nat) ≠ 89 ∧ (102 : Nat) ≠ 109 by decide) _) hv2 G (lv_sub hl [0, 5, 6] rfl)
        have j105 : ∀ (Md : fk_M) (H : Heap) (locs : List Loc) (ls : Array Slot), fk_C3 102 M Md S9 u pl (M 102) → fk_H g ov (Md) s H locs → lv_has ls 9 [(6, .int RB.2), (5, .int RB.1), (4, .int (nI (bf i))), (3, .int (nI i)), (2, .int (nI d)), (0, .ref (fk_a g 89)), (1, .int (nI f))] → W p l e (fk_rm (2)) s m args below meth c H locs 0 0 (MQ below (va_Qv (fun (_ : Unit) => True) (fun _ t9 => fk_Wd g ov (fk_w3 102 M (fk_rbg bf sp sl P (M 109) (M 89 30)).1 0 (if (fk_rbg bf sp sl P (M 109) (M 89 30)).1 0 = nI 1 then fk_nt (fk_rbg bf sp sl P (M 109) (M 89 30)).2 0 else (fk_rbg bf sp sl P (M 109) (M 89 30)).2) (M 102)) t9) (fk_A g)) args s 0 0 (fk_A g)) (F0 m 105 ls []) := by
          intro Md H locs ls hv0 G hl
          have hz0 := hv0
          refine lv_iload S.1 S.2.1 d_M_beginnings_105 (lv_at hl 2 rfl) ?_
          refine lv_bipush (v := nI 14) S.1 S.2.1 d_M_beginnings_107 (by decide +kernel) ?_
          refine fk_ceq (tgt := 119) S.1 S.2.1 (by omega) (by omega) d_M_beginnings_109 rfl (fun hc7 => ?_) (fun hc7 => ?_)
          · refine lv_iload S.1 S.2.1 d_M_beginnings_119 (lv_at hl 1 rfl) ?_
            refine lv_iconst (v := nI 1) S.1 S.2.1 d_M_beginnings_121 (by decide +kernel) ?_
            refine lv_icmp_ne (tgt := 130) S.1 S.2.1 d_M_beginnings_122 rfl (fun hc8 => ?_) (fun hc8 => ?_)
            · have hcn := hz0
              rw [show pl = (if (bf i = 14 ∨ bf i = 15) ∧ RB.1 = nI 1 then fk_nt pl i else pl) from (if_neg (fun q => hc8 q.2)).symm] at hcn
              exact j130 Md H locs ls hcn G (lv_sub hl [0, 1, 2, 3, 4, 5, 6] rfl)
            · refine lv_aload_n S.1 S.2.1 d_M_beginnings_125 rfl (lv_at hl 5 rfl) ?_
              refine lv_iload_n S.1 S.2.1 d_M_beginnings_126 rfl (lv_at hl 3 rfl) ?_
              refine fk_cvv S E G 89 (by decide) (congrArg (fk_ce g ov 89 (Md 89)) kd_89) rfl (rest := []) (c_M_note l g ov Md i) m_M_note i_787 ⟨rfl, rfl⟩ ⟨by decide, by decide⟩ rfl rfl hl.1 (Nat.le_of_ble_eq_true rfl) d_M_beginnings_127 ⟨Nat.zero_le _, Nat.zero_le _⟩ (fun H locs G => ?_)
              have hcn := hz0.note (show (102 : Nat) ≠ 89 ∧ (102 : Nat) ≠ 109 by decide) i
              rw [show fk_nt pl i = (if (bf i = 14 ∨ bf i = 15) ∧ RB.1 = nI 1 then fk_nt pl i else pl) from (if_pos ⟨Or.inl hc7, hc8⟩).symm] at hcn
              exact j130 _ H locs ls hcn G (lv_sub hl [0, 1, 2, 3, 4, 5, 6] rfl)
          · refine lv_iload S.1 S.2.1 d_M_beginnings_112 (lv_at hl 2 rfl) ?_
            refine lv_bipush (v := nI 15) S.1 S.2.1 d_M_beginnings_114 (by decide +kernel) ?_
            refine fk_cne (tgt := 130) S.1 S.2.1 (by omega) (by omega) d_M_beginnings_116 rfl (fun hc9 => ?_) (fun hc9 => ?_)
            · have hcn := hz0
              rw [show pl = (if (bf i = 14 ∨ bf i = 15) ∧ RB.1 = nI 1 then fk_nt pl i else pl) from (if_neg (fun q => q.1.elim hc7 hc9)).symm] at hcn
              exact j130 Md H locs ls hcn G (lv_sub hl [0, 1, 2, 3, 4, 5, 6] rfl)
            · refine lv_iload S.1 S.2.1 d_M_beginnings_119 (lv_at hl 1 rfl) ?_
              refine lv_iconst (v := nI 1) S.1 S.2.1 d_M_beginnings_121 (by decide +kernel) ?_
              refine lv_icmp_ne (tgt := 130) S.1 S.2.1 d_M_beginnings_122 rfl (fun hc10 => ?_) (fun hc10 => ?_)
              · have hcn := hz0
                rw [show pl = (if (bf i = 14 ∨ bf i = 15) ∧ RB.1 = nI 1 then fk_nt pl i else pl) from (if_neg (fun q => hc10 q.2)).symm] at hcn
                exact j130 Md H locs ls hcn G (lv_sub hl [0, 1, 2, 3, 4, 5, 6] rfl)
              · refine lv_aload_n S.1 S.2.1 d_M_beginnings_125 rfl (lv_at hl 5 rfl) ?_
                refine lv_iload_n S.1 S.2.1 d_M_beginnings_126 rfl (lv_at hl 3 rfl) ?_
                refine fk_cvv S E G 89 (by decide) (congrArg (fk_ce g ov 89 (Md 89)) kd_89) rfl (rest := []) (c_M_note l g ov Md i) m_M_note i_787 ⟨rfl, rfl⟩ ⟨by decide, by decide⟩ rfl rfl hl.1 (Nat.le_of_ble_eq_true rfl) d_M_beginnings_127 ⟨Nat.zero_le _, Nat.zero_le _⟩ (fun H locs G => ?_)
                have hcn := hz0.note (show (102 : Nat) ≠ 89 ∧ (102 : Nat) ≠ 109 by decide) i
                rw [show fk_nt pl i = (if (bf i = 14 ∨ bf i = 15) ∧ RB.1 = nI 1 then fk_nt pl i else pl) from (if_pos ⟨Or.inr hc9, hc10⟩).symm] at hcn
                exact j130 _ H locs ls hcn G (lv_sub hl [0, 1, 2, 3, 4, 5, 6] rfl)
        have inner : ∀ (d2 q tt : Nat) (fi ot : Int32) (Md : fk_M) (H : Heap) (locs : List Loc) (ls : Array Slot), q + d2 = fk_ar (bf i) → tt + q = sl (d + 1) → fk_C3 102 M Md S9 tt pl (M 102) → fk_bo S9 d2 q tt fi ot = RB → fk_H g ov Md s H locs → lv_has ls 9 [(7, .int (nI q)), (6, .int ot), (5, .int fi), (4, .int (nI (bf i))), (3, .int (nI i)), (2, .int (nI d)), (0, .ref (fk_a g 89)), (1, .int (nI f))] → W p l e (fk_rm (2)) s m args below meth c H locs 0 0 (MQ below (va_Qv (fun (_ : Unit) => True) (fun _ t9 => fk_Wd g ov (fk_w3 102 M (fk_rbg bf sp sl P (M 109) (M 89 30)).1 0 (if (fk_rbg bf sp sl P (M 109) (M 89 30)).1 0 = nI 1 then fk_nt (fk_rbg bf sp sl P (M 109) (M 89 30)).2 0 else (fk_rbg bf sp sl P (M 109) (M 89 30)).2) (M 102)) t9) (fk_A g)) args s 0 0 (fk_A g)) (F0 m 52 ls []) := by
          intro d2
          induction d2 with
          | zero =>
            intro q tt fi ot Md H locs ls hy0 hy1 hy2 hy3 G hl
            refine lv_iload S.1 S.2.1 d_M_beginnings_52 (lv_at hl 0 rfl) ?_
            refine lv_iload S.1 S.2.1 d_M_beginnings_54 (lv_at hl 3 rfl) ?_
            refine fk_csi S E G (rest := [.int (nI q)]) (c_M_many l g ov Md (bf i) (by omega)) m_M_many i_757 ⟨rfl, rfl⟩ ⟨by decide, by decide⟩ rfl rfl hl.1 (Nat.le_of_ble_eq_true rfl) d_M_beginnings_56 ⟨Nat.zero_le _, Nat.zero_le _⟩ (fun H locs G => ?_)
            refine fk_cge (tgt := 105) S.1 S.2.1 (by omega) (by omega) d_M_beginnings_59 rfl (fun hc11 => ?_) (fun hc11 => ?_)
            · have hy3 : (fi, ot) = RB := hy3
              have htt : tt = u := by omega
              rw [htt] at hy2
              exact j105 Md H locs ls hy2 G (lv_sub hl [1, 2, 3, 4, 5, 6, 7] (by rw [← hy3] <;> rfl))
            · exact absurd hy0 (by omega)
          | succ d2 ih2 =>
            intro q tt fi ot Md H locs ls hy0 hy1 hy2 hy3 G hl
            obtain ⟨t2, ht2⟩ : ∃ t2, tt = t2 + 1 := ⟨tt - 1, by omega⟩
            rw [fk_bo_S, ht2, Nat.add_sub_cancel] at hy3
            rw [ht2] at hy2
            obtain ⟨e1, e2, e3, e4, e5, e6⟩ := id hy2
            have ec90 : Md 90 = M 90 := e6 90 (by decide) (by decide) (by decide)
            have ec91 : Md 91 = M 91 := e6 91 (by decide) (by decide) (by decide)
            have ec92 : Md 92 = M 92 := e6 92 (by decide) (by decide) (by decide)
            have ec94 : Md 94 = M 94 := e6 94 (by decide) (by decide) (by decide)
            have ec99 : Md 99 = M 99 := e6 99 (by decide) (by decide) (by decide)
            have ec100 : Md 100 = M 100 := e6 100 (by decide) (by decide) (by decide)
            have ec101 : Md 101 = M 101 := e6 101 (by decide) (by decide) (by decide)
            have ec103 : Md 103 = M 103 := e6 103 (by decide) (by decide) (by decide)
            have ec105 : Md 105 = M 105 := e6 105 (by decide) (by decide) (by decide)
            refine lv_iload S.1 S.2.1 d_M_beginnings_52 (lv_at hl 0 rfl) ?_
            refine lv_iload S.1 S.2.1 d_M_beginnings_54 (lv_at hl 3 rfl) ?_
            refine fk_csi S E G (rest := [.int (nI q)]) (c_M_many l g ov Md (bf i) (by omega)) m_M_many i_757 ⟨rfl, rfl⟩ ⟨by decide, by decide⟩ rfl rfl hl.1 (Nat.le_of_ble_eq_true rfl) d_M_beginnings_56 ⟨Nat.zero_le _, Nat.zero_le _⟩ (fun H locs G => ?_)
            refine fk_cge (tgt := 105) S.1 S.2.1 (by omega) (by omega) d_M_beginnings_59 rfl (fun hc12 => ?_) (fun hc12 => ?_)
            · exact absurd hy0 (by omega)
            · refine lv_aload_n S.1 S.2.1 d_M_beginnings_62 rfl (lv_at hl 6 rfl) ?_
              refine fk_cvi S E G 89 (by decide) (congrArg (fk_ce g ov 89 (Md 89)) kd_89) rfl (rest := []) (show fk_CI _ _ _ _ _ _ _ _ _ _ _ (S9 t2) from by have h9 := c_M_pop l g ov Md t2 e3 (by omega); rw [e1] at h9; exact h9) m_M_pop i_753 ⟨rfl, rfl⟩ ⟨by decide, by decide⟩ rfl rfl hl.1 (Nat.le_of_ble_eq_true rfl) d_M_beginnings_63 ⟨Nat.zero_le _, Nat.zero_le _⟩ (fun H locs G => ?_)
              obtain ⟨Mq, hMq⟩ : ∃ z : fk_M, z = fk_po Md t2 := ⟨_, rfl⟩
              rw [← hMq] at G
              have hcq : fk_C3 102 M Mq S9 t2 pl (M 102) := by rw [hMq]; exact hy2.pop (show (102 : Nat) ≠ 89 ∧ (102 : Nat) ≠ 109 by decide)
              refine lv_istore (lv' := [(8, .int (S9 t2)), (7, .int (nI q)), (6, .int ot), (5, .int fi), (4, .int (nI (bf i))), (3, .int (nI i)), (2, .int (nI d)), (0, .ref (fk_a g 89)), (1, .int (nI f))]) S.1 S.2.1 d_M_beginnings_66 hl (by decide) rfl (fun ls hl => ?_)
              refine lv_iload S.1 S.2.1 d_M_beginnings_68 (lv_at hl 1 rfl) ?_
              refine fk_zne (tgt := 78) S.1 S.2.1 (by omega) d_M_beginnings_70 rfl (fun hc13 => ?_) (fun hc13 => ?_)
              · refine lv_iload S.1 S.2.1 d_M_beginnings_78 (lv_at hl 3 rfl) ?_
                refine lv_istore (lv' := [(5, .int fi), (8, .int (S9 t2)), (7, .int (nI q)), (6, .int ot), (4, .int (nI (bf i))), (3, .int (nI i)), (2, .int (nI d)), (0, .ref (fk_a g 89)), (1, .int (nI f))]) S.1 S.2.1 d_M_beginnings_80 hl (by decide) rfl (fun ls hl => ?_)
                refine lv_iload S.1 S.2.1 d_M_beginnings_82 (lv_at hl 2 rfl) ?_
                refine fk_zle (tgt := 95) S.1 S.2.1 (by omega) d_M_beginnings_84 rfl (fun hc14 => ?_) (fun hc14 => ?_)
                · exact absurd hc14 (by omega)
                · refine lv_iload S.1 S.2.1 d_M_beginnings_87 (lv_at hl 3 rfl) ?_
                  refine lv_iload S.1 S.2.1 d_M_beginnings_89 (lv_at hl 1 rfl) ?_
                  refine lv_ior S.1 S.2.1 d_M_beginnings_91 ?_
                  refine lv_goto (tgt := 97) S.1 S.2.1 d_M_beginnings_92 rfl ?_
                  refine lv_istore (lv' := [(6, .int (ot ||| (S9 t2))), (5, .int fi), (8, .int (S9 t2)), (7, .int (nI q)), (4, .int (nI (bf i))), (3, .int (nI i)), (2, .int (nI d)), (0, .ref (fk_a g 89)), (1, .int (nI f))]) S.1 S.2.1 d_M_beginnings_97 hl (by decide) rfl (fun ls hl => ?_)
                  refine lv_iinc (k := 3) (v := nI (q + 1)) (lv' := [(7, .int (nI (q + 1))), (6, .int (ot ||| (S9 t2))), (5, .int fi), (8, .int (S9 t2)), (4, .int (nI (bf i))), (3, .int (nI i)), (2, .int (nI d)), (0, .ref (fk_a g 89)), (1, .int (nI f))]) S.1 S.2.1 d_M_beginnings_99 hl rfl (nI_1 q) (by decide) rfl (fun ls hl => ?_)
                  refine lv_goto (tgt := 52) S.1 S.2.1 d_M_beginnings_102 rfl ?_
                  rw [if_neg (show ¬ q = 0 by omega), if_neg (show ¬ q = 0 by omega)] at hy3
                  exact ih2 (q + 1) t2 _ _ Mq H locs ls (by omega) (by omega) hcq hy3 G (lv_sub hl [0, 1, 2, 4, 5, 6, 7, 8] rfl)
              · refine lv_iload S.1 S.2.1 d_M_beginnings_73 (lv_at hl 0 rfl) ?_
                refine lv_goto (tgt := 80) S.1 S.2.1 d_M_beginnings_75 rfl ?_
                refine lv_istore (lv' := [(5, .int (S9 t2)), (8, .int (S9 t2)), (7, .int (nI q)), (6, .int ot), (4, .int (nI (bf i))), (3, .int (nI i)), (2, .int (nI d)), (0, .ref (fk_a g 89)), (1, .int (nI f))]) S.1 S.2.1 d_M_beginnings_80 hl (by decide) rfl (fun ls hl => ?_)
                refine lv_iload S.1 S.2.1 d_M_beginnings_82 (lv_at hl 2 rfl) ?_
                refine fk_zle (tgt := 95) S.1 S.2.1 (by omega) d_M_beginnings_84 rfl (fun hc15 => ?_) (fun hc15 => ?_)
                · refine lv_iload S.1 S.2.1 d_M_beginnings_95 (lv_at hl 3 rfl) ?_
                  refine lv_istore (lv' := [(6, .int ot), (5, .int (S9 t2)), (8, .int (S9 t2)), (7, .int (nI q)), (4, .int (nI (bf i))), (3, .int (nI i)), (2, .int (nI d)), (0, .ref (fk_a g 89)), (1, .int (nI f))]) S.1 S.2.1 d_M_beginnings_97 hl (by decide) rfl (fun ls hl => ?_)
                  refine lv_iinc (k := 3) (v := nI (q + 1)) (lv' := [(7, .int (nI (q + 1))), (6, .int ot), (5, .int (S9 t2)), (8, .int (S9 t2)), (4, .int (nI (bf i))), (3, .int (nI i)), (2, .int (nI d)), (0, .ref (fk_a g 89)), (1, .int (nI f))]) S.1 S.2.1 d_M_beginnings_99 hl rfl (nI_1 q) (by decide) rfl (fun ls hl => ?_)
                  refine lv_goto (tgt := 52) S.1 S.2.1 d_M_beginnings_102 rfl ?_
                  rw [if_pos hc13, if_pos hc13] at hy3
                  exact ih2 (q + 1) t2 _ _ Mq H locs ls (by omega) (by omega) hcq hy3 G (lv_sub hl [0, 1, 2, 4, 5, 6, 7, 8] rfl)
                · exact absurd hc15 (by omega)
        exact inner (fk_ar (bf i)) 0 (sl (d + 1)) (nI 0) (nI 0) Mc _ _ ls (by omega) (by omega) hv1 hRB.symm G (lv_sub hl [0, 1, 2, 3, 4, 5, 6, 7] rfl)
  refine lv_aload_n S.1 S.2.1 d_M_beginnings_5 rfl (lv_at hl 0 rfl) ?_
  refine fk_gf S E G 89 (by decide) (v := .ref (fk_a g 99)) (congrArg (fk_ce g ov 89 (M1 89)) kd_89) rfl 11 (by decide) rfl i_633 rfl d_M_beginnings_6 ?_
  refine lv_iload_n S.1 S.2.1 d_M_beginnings_9 rfl (lv_at hl 1 rfl) ?_
  refine fk_ia S E G 99 (by decide) (congrArg (fk_ce g ov 99 (M1 99)) kd_99) f rfl (by omega) (by decide) (v := nI P) (by rw [hc0.2.2.2.2.2 99 (by decide) (by decide) (by decide)]; exact hpt) d_M_beginnings_10 ?_
  refine lv_iconst (v := nI 1) S.1 S.2.1 d_M_beginnings_11 (by decide +kernel) ?_
  refine lv_isub S.1 S.2.1 d_M_beginnings_12 ?_
  refine lv_istore_n (lv' := [(2, .int ((nI P) - (nI 1))), (0, .ref (fk_a g 89)), (1, .int (nI f))]) S.1 S.2.1 d_M_beginnings_13 rfl hl (by decide) rfl (fun ls hl => ?_)
  exact loop P (M 109) (M 89 30) _ H locs ls (Nat.le_refl _) (by rw [hslP]; exact hc0) rfl G hl
