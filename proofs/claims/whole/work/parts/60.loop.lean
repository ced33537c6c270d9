/-! The law: its loop. Written by wip/gen/s_law2.py. -/
theorem fk_and15 (x : Int32) : ∃ q : Nat, x &&& nI 15 = nI q ∧ q < 16 := by
  refine ⟨x.toBitVec.toNat &&& 15, ?_, ?_⟩
  · apply Int32.toBitVec_inj.mp
    apply BitVec.eq_of_toNat_eq
    show (x &&& nI 15).toBitVec.toNat = (Int32.ofNat (x.toBitVec.toNat &&& 15)).toBitVec.toNat
    rw [Int32.toBitVec_and, BitVec.toNat_and, Int32.toBitVec_ofNat', BitVec.toNat_ofNat]
    have h1 : (nI 15).toBitVec.toNat = 15 := by decide +kernel
    rw [h1]
    have h2 : x.toBitVec.toNat &&& 15 ≤ 15 := Nat.and_le_right
    rw [Nat.mod_eq_of_lt (by omega)]
  · have h2 : x.toBitVec.toNat &&& 15 ≤ 15 := Nat.and_le_right
    omega
/-- what holds of every call, for a relation Rr of memories -/
def fk_steps (l : Launch) (Rr : Nat → fk_M → Prop) : Prop := ∀ i, i ≤ 2048 → (∀ M, Rr i M → Rr (i + 4) M) ∧ fk_o_flow l (Rr i) ∧ fk_o_type l (Rr i) ∧ fk_o_equation l (Rr i) ∧ fk_o_check l (Rr i) ∧ fk_o_fault l (Rr i) ∧ fk_o_order l (Rr i) ∧ fk_o_set l (Rr i) ∧ fk_o_instants l (Rr i) (Rr (i + 4)) ∧ fk_o_time l (Rr i) ∧ fk_o_present l (Rr i) ∧ fk_o_value l (Rr i) ∧ fk_o_seen l (Rr i) ∧ fk_o_flows l (Rr i)
section FKL3
variable {p : Program} {l : Launch} {e : Env} {s : State} {m : MethodId} {below : List Frame} {meth : Method} {c : Code}
variable {g : fk_G} {b L : Nat} {xs : Nat → Int32} {Rr : Nat → fk_M → Prop}
set_option maxHeartbeats 4000000 in
set_option maxRecDepth 100000 in
theorem fk_loop (S : fk_S p m c code 7 s #[Value.ref b] "FlowDeskLaw") (hr : meth.sig.returnType = ret) (hlk : meth.locks = false) (E : fk_E g s s.heap) (Y : fk_ys g s s.heap) (hX : va_X b L xs s s.heap) (hbl : b < s.heap.size) (hg0 : g.2.2.2.1 = s.heap.size) (hL : L ≤ 2048) (hst : fk_steps l Rr) :
    ∀ (d i : Nat) (ov : Int64) (M : fk_M) (H : Heap) (locs : List Loc) (ls : Array Slot) (cells slots : Nat), L < i + 4 + 4 * d → i ≤ 2048 → cells + d ≤ 601024 → slots + 6 * d ≤ 7293034 → Rr i M → fk_H g ov M s H locs → lv_has ls 7 (fk_lv g b i) →
      W p l e room_1 s m #[Value.ref b] below meth c H locs cells slots (lw_Z below #[Value.ref b] s) (F0 m 23 ls []) := by
  have hbA : ¬ fk_A g b := by show ¬ g.2.2.2.1 ≤ b; omega
  intro d
  induction d with
  | zero =>
    intro i ov M H locs ls cells slots hd hi hc1 hc2 hRel G hl
    refine lv_iload S.1 S.2.1 d_L_law_23 (lv_at hl 0 rfl) ?_
    refine lv_aload_n S.1 S.2.1 d_L_law_25 rfl (lv_at hl 4 rfl) ?_
    refine va_slen S.1 S.2.1 hX hbl hbA G.2.2 d_L_law_26 ?_
    refine lv_iconst (v := nI 4) S.1 S.2.1 d_L_law_27 (by decide +kernel) ?_
    refine lv_isub S.1 S.2.1 d_L_law_28 ?_
    refine lv_icmp_gt (tgt := 748) S.1 S.2.1 d_L_law_29 rfl (fun hc1 => ?_) (fun hc1 => ?_)
    · refine lv_iconst (v := nI 1) S.1 S.2.1 d_L_law_748 (by decide +kernel) ?_
      refine va_forget (fun q hq => ?_) (W.widen (k := 601024) (n := 7293034) (by omega) (by omega) ?_)
      · have h9 : g.2.2.2.1 ≤ q.base := G.2.2.2.2 q hq
        omega
      · exact lw_ret S.1 S.2.1 hr hlk d_L_law_749
    · exact absurd ((fk_cmp4 hi hL).mpr (by omega)) hc1
  | succ d ih =>
    intro i ov M H locs ls cells slots hd hi hc1 hc2 hRel G hl
    refine lv_iload S.1 S.2.1 d_L_law_23 (lv_at hl 0 rfl) ?_
    refine lv_aload_n S.1 S.2.1 d_L_law_25 rfl (lv_at hl 4 rfl) ?_
    refine va_slen S.1 S.2.1 hX hbl hbA G.2.2 d_L_law_26 ?_
    refine lv_iconst (v := nI 4) S.1 S.2.1 d_L_law_27 (by decide +kernel) ?_
    refine lv_isub S.1 S.2.1 d_L_law_28 ?_
    refine lv_icmp_gt (tgt := 748) S.1 S.2.1 d_L_law_29 rfl (fun hc2 => ?_) (fun hc2 => ?_)
    · refine lv_iconst (v := nI 1) S.1 S.2.1 d_L_law_748 (by decide +kernel) ?_
      refine va_forget (fun q hq => ?_) (W.widen (k := 601024) (n := 7293034) (by omega) (by omega) ?_)
      · have h9 : g.2.2.2.1 ≤ q.base := G.2.2.2.2 q hq
        omega
      · exact lw_ret S.1 S.2.1 hr hlk d_L_law_749
    · have hi4 : i + 4 ≤ L := by
        have h9 := mt (fk_cmp4 hi hL).mpr hc2
        omega
      obtain ⟨hmo, hst⟩ := hst i hi
      have nx2 : fk_nx p l e s m below meth c g b i cells slots (Rr (i + 4)) := by
        intro ov2 M2 H2 locs2 ls2 k2 n2 hk2 hn2 hR2 G2 hl2
        refine lv_iinc (k := 0) (v := nI (i + 4)) (lv' := fk_lv g b (i + 4)) S.1 S.2.1 d_L_law_742 hl2 rfl (nI_add i 4) (by decide) rfl (fun ls3 hl3 => ?_)
        refine lv_goto (tgt := 23) S.1 S.2.1 d_L_law_745 rfl ?_
        exact ih (i + 4) ov2 M2 H2 locs2 ls3 k2 n2 (by omega) (by omega) (by omega) (by omega) hR2 G2 hl3
      have nx : fk_nx p l e s m below meth c g b i cells slots (Rr i) := fun ov2 M2 H2 locs2 ls2 k2 n2 hk2 hn2 hR2 G2 hl2 => nx2 ov2 M2 H2 locs2 ls2 k2 n2 hk2 hn2 (hmo M2 hR2) G2 hl2
      have lc : fk_lc p s m c g b L i cells slots xs := ⟨S, E, Y, hX, hbl, hbA, hi4, hL, by show cells + 1 ≤ 601024; omega, by show slots + 6 ≤ 7293034; omega⟩
      refine lv_aload_n S.1 S.2.1 d_L_law_32 rfl (lv_at hl 4 rfl) ?_
      refine lv_iload S.1 S.2.1 d_L_law_33 (lv_at hl 0 rfl) ?_
      refine fk_sl S hX hbl hbA G (i) (by omega) hL d_L_law_35 ?_
      refine lv_bipush (v := nI 15) S.1 S.2.1 d_L_law_36 (by decide +kernel) ?_
      refine lv_iand S.1 S.2.1 d_L_law_38 ?_
      obtain ⟨q, hq, hq16⟩ := fk_and15 (xs i)
      rw [hq]
      rcases (by omega : q = 0 ∨ q = 1 ∨ q = 2 ∨ q = 3 ∨ q = 4 ∨ q = 5 ∨ q = 6 ∨ q = 7 ∨ q = 8 ∨ q = 9 ∨ q = 10 ∨ q = 11 ∨ q = 12 ∨ q = 13 ∨ q = 14 ∨ q = 15) with rfl | rfl | rfl | rfl | rfl | rfl | rfl | rfl | rfl | rfl | rfl | rfl | rfl | rfl | rfl | rfl
      · refine lv_tableIn (tgt := 104) S.1 S.2.1 d_L_law_39 (by decide) (by decide) (off := 65) (by decide +kernel) rfl ?_
        exact l_flow lc hRel G (lv_sub hl [0, 1, 2, 3, 4] rfl) hst.1 nx
      · refine lv_tableIn (tgt := 216) S.1 S.2.1 d_L_law_39 (by decide) (by decide) (off := 177) (by decide +kernel) rfl ?_
        exact l_type lc hRel G (lv_sub hl [0, 1, 2, 3, 4] rfl) hst.2.1 nx
      · refine lv_tableIn (tgt := 296) S.1 S.2.1 d_L_law_39 (by decide) (by decide) (off := 257) (by decide +kernel) rfl ?_
        exact l_equation lc hRel G (lv_sub hl [0, 1, 2, 3, 4] rfl) hst.2.2.1 nx
      · refine lv_tableIn (tgt := 332) S.1 S.2.1 d_L_law_39 (by decide) (by decide) (off := 293) (by decide +kernel) rfl ?_
        exact l_check lc hRel G (lv_sub hl [0, 1, 2, 3, 4] rfl) hst.2.2.2.1 nx
      · refine lv_tableIn (tgt := 345) S.1 S.2.1 d_L_law_39 (by decide) (by decide) (off := 306) (by decide +kernel) rfl ?_
        exact l_fault lc hRel G (lv_sub hl [0, 1, 2, 3, 4] rfl) hst.2.2.2.2.1 nx
      · refine lv_tableIn (tgt := 401) S.1 S.2.1 d_L_law_39 (by decide) (by decide) (off := 362) (by decide +kernel) rfl ?_
        exact l_order lc hRel G (lv_sub hl [0, 1, 2, 3, 4] rfl) hst.2.2.2.2.2.1 nx
      · refine lv_tableIn (tgt := 457) S.1 S.2.1 d_L_law_39 (by decide) (by decide) (off := 418) (by decide +kernel) rfl ?_
        exact l_set lc hRel G (lv_sub hl [0, 1, 2, 3, 4] rfl) hst.2.2.2.2.2.2.1 nx
      · refine lv_tableIn (tgt := 505) S.1 S.2.1 d_L_law_39 (by decide) (by decide) (off := 466) (by decide +kernel) rfl ?_
        exact l_instants lc hRel G (lv_sub hl [0, 1, 2, 3, 4] rfl) hst.2.2.2.2.2.2.2.1 nx2
      · refine lv_tableIn (tgt := 541) S.1 S.2.1 d_L_law_39 (by decide) (by decide) (off := 502) (by decide +kernel) rfl ?_
        exact l_time lc hRel G (lv_sub hl [0, 1, 2, 3, 4] rfl) hst.2.2.2.2.2.2.2.2.1 nx
      · refine lv_tableIn (tgt := 554) S.1 S.2.1 d_L_law_39 (by decide) (by decide) (off := 515) (by decide +kernel) rfl ?_
        exact l_present lc hRel G (lv_sub hl [0, 1, 2, 3, 4] rfl) hst.2.2.2.2.2.2.2.2.2.1 nx
      · refine lv_tableIn (tgt := 617) S.1 S.2.1 d_L_law_39 (by decide) (by decide) (off := 578) (by decide +kernel) rfl ?_
        exact l_value lc hRel G (lv_sub hl [0, 1, 2, 3, 4] rfl) hst.2.2.2.2.2.2.2.2.2.2.1 nx
      · refine lv_tableIn (tgt := 673) S.1 S.2.1 d_L_law_39 (by decide) (by decide) (off := 634) (by decide +kernel) rfl ?_
        exact l_seen lc hRel G (lv_sub hl [0, 1, 2, 3, 4] rfl) hst.2.2.2.2.2.2.2.2.2.2.2.1 nx
      · refine lv_tableIn (tgt := 729) S.1 S.2.1 d_L_law_39 (by decide) (by decide) (off := 690) (by decide +kernel) rfl ?_
        exact l_flows lc hRel G (lv_sub hl [0, 1, 2, 3, 4] rfl) hst.2.2.2.2.2.2.2.2.2.2.2.2 nx
      · refine lv_tableOut (tgt := 742) S.1 S.2.1 d_L_law_39 (by decide) rfl ?_
        exact nx ov M H locs ls _ _ (Nat.le_succ _) (Nat.le_add_right _ _) hRel G (lv_sub hl [0, 1, 2, 3, 4] rfl)
      · refine lv_tableOut (tgt := 742) S.1 S.2.1 d_L_law_39 (by decide) rfl ?_
        exact nx ov M H locs ls _ _ (Nat.le_succ _) (Nat.le_add_right _ _) hRel G (lv_sub hl [0, 1, 2, 3, 4] rfl)
      · refine lv_tableOut (tgt := 742) S.1 S.2.1 d_L_law_39 (by decide) rfl ?_
        exact nx ov M H locs ls _ _ (Nat.le_succ _) (Nat.le_add_right _ _) hRel G (lv_sub hl [0, 1, 2, 3, 4] rfl)
end FKL3
