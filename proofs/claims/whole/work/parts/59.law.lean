/-! The law: its thirteen cases, over what the class and the reference do at each call. Written by wip/gen/s_law.py. -/
def fk_lw (a b : Int32) : Int64 := (a.toInt64 <<< ((nI 32).toInt64 &&& 63)) ||| (b.toInt64 &&& 4294967295)
def fk_o_flow (l : Launch) (Rr : fk_M → Prop) : Prop := ∀ (g : fk_G) (ov : Int64) (M : fk_M), Rr M → ∀ (vb v vi : Int32), (vb = 0 ∨ vb = 1) → (vi = 0 ∨ vi = 1) → ∃ (k9 n9 : Nat) (M8 M9 : fk_M) (ov9 : Int64) (b9 : Int32), k9 < 3 ∧ n9 ≤ 1000 ∧ fk_CH l y_L_flow b_L_flow 6 [(0, 12, 15, 13), (0, 12, 19, 15)] (fk_rx 40) g ov ov9 M M8 [.ref (fk_a g 0), .int vb, .int v, .int vi, .ref (fk_a g 110)] (nI k9) ∧ fk_CI l y_M_flow b_M_flow 6 (some .int) (fk_rm n9) g ov9 M8 M9 [.ref (fk_a g 89), .int vb, .int v, .int vi] b9 ∧ M9 89 0 = nI k9 ∧ (k9 = 0 → ov9 = b9.toInt64) ∧ Rr M9
def fk_o_type (l : Launch) (Rr : fk_M → Prop) : Prop := ∀ (g : fk_G) (ov : Int64) (M : fk_M), Rr M → ∀ (w : Int64) (v : Int32), ∃ (k9 n9 : Nat) (M8 M9 : fk_M) (ov9 : Int64) (b9 : Int32), k9 < 3 ∧ n9 ≤ 1000 ∧ fk_CH l y_L_type b_L_type 5 [(0, 6, 9, 13), (0, 6, 13, 15)] (fk_rx 40) g ov ov9 M M8 [.ref (fk_a g 0), .long w, .int v] (nI k9) ∧ fk_CV l y_M_type b_M_type 6 (fk_rm n9) g ov9 M8 M9 [.ref (fk_a g 89), .long w, .int v] ∧ M9 89 0 = nI k9 ∧ Rr M9
def fk_o_equation (l : Launch) (Rr : fk_M → Prop) : Prop := ∀ (g : fk_G) (ov : Int64) (M : fk_M), Rr M → ∀ (v : Int32), ∃ (k9 n9 : Nat) (M8 M9 : fk_M) (ov9 : Int64) (b9 : Int32), k9 < 3 ∧ n9 ≤ 1000 ∧ fk_CH l y_L_equation b_L_equation 3 [(0, 5, 8, 13)] (fk_rx 40) g ov ov9 M M8 [.ref (fk_a g 0), .int v] (nI k9) ∧ fk_CV l y_M_equation b_M_equation 5 (fk_rm n9) g ov9 M8 M9 [.ref (fk_a g 89), .int v] ∧ M9 89 0 = nI k9 ∧ Rr M9
def fk_o_fault (l : Launch) (Rr : fk_M → Prop) : Prop := ∀ (g : fk_G) (ov : Int64) (M : fk_M), Rr M → ∀ (v : Int32), ∃ (k9 n9 : Nat) (M8 M9 : fk_M) (ov9 : Int64) (b9 : Int32), k9 < 3 ∧ n9 ≤ 1000 ∧ fk_CH l y_L_fault b_L_fault 4 [(0, 9, 12, 13)] (fk_rx 40) g ov ov9 M M8 [.ref (fk_a g 0), .int v, .ref (fk_a g 110)] (nI k9) ∧ fk_CI l y_M_fault b_M_fault 2 (some .int) (fk_rm n9) g ov9 M8 M9 [.ref (fk_a g 89), .int v] b9 ∧ M9 89 0 = nI k9 ∧ (k9 = 0 → ov9 = b9.toInt64) ∧ Rr M9
def fk_o_order (l : Launch) (Rr : fk_M → Prop) : Prop := ∀ (g : fk_G) (ov : Int64) (M : fk_M), Rr M → ∀ (v : Int32), ∃ (k9 n9 : Nat) (M8 M9 : fk_M) (ov9 : Int64) (b9 : Int32), k9 < 3 ∧ n9 ≤ 1000 ∧ fk_CH l y_L_order b_L_order 4 [(0, 9, 12, 15), (0, 9, 15, 32)] (fk_rx 40) g ov ov9 M M8 [.ref (fk_a g 0), .int v, .ref (fk_a g 110)] (nI k9) ∧ fk_CI l y_M_order b_M_order 2 (some .int) (fk_rm n9) g ov9 M8 M9 [.ref (fk_a g 89), .int v] b9 ∧ M9 89 0 = nI k9 ∧ (k9 = 0 → ov9 = b9.toInt64) ∧ Rr M9
def fk_o_set (l : Launch) (Rr : fk_M → Prop) : Prop := ∀ (g : fk_G) (ov : Int64) (M : fk_M), Rr M → ∀ (v w : Int32), ∃ (k9 n9 : Nat) (M8 M9 : fk_M) (ov9 : Int64) (b9 : Int32), k9 < 3 ∧ n9 ≤ 1000 ∧ fk_CH l y_L_set b_L_set 4 [(0, 6, 9, 13)] (fk_rx 40) g ov ov9 M M8 [.ref (fk_a g 0), .int v, .int w] (nI k9) ∧ fk_CV l y_M_set b_M_set 3 (fk_rm n9) g ov9 M8 M9 [.ref (fk_a g 89), .int v, .int w] ∧ M9 89 0 = nI k9 ∧ Rr M9
def fk_o_instants (l : Launch) (Rr Rs : fk_M → Prop) : Prop := ∀ (g : fk_G) (ov : Int64) (M : fk_M), Rr M → ∀ (v : Int32), ∃ (k9 n9 : Nat) (M8 M9 : fk_M) (ov9 : Int64) (b9 : Int32), k9 < 3 ∧ n9 ≤ 1000 ∧ fk_CH l y_L_instants b_L_instants 3 [(0, 5, 8, 13), (0, 5, 11, 15)] (fk_rx 40) g ov ov9 M M8 [.ref (fk_a g 0), .int v] (nI k9) ∧ fk_CV l y_M_instants b_M_instants 3 (fk_rm n9) g ov9 M8 M9 [.ref (fk_a g 89), .int v] ∧ M9 89 0 = nI k9 ∧ Rs M9
def fk_o_present (l : Launch) (Rr : fk_M → Prop) : Prop := ∀ (g : fk_G) (ov : Int64) (M : fk_M), Rr M → ∀ (v : Int32), ∃ (k9 n9 : Nat) (M8 M9 : fk_M) (ov9 : Int64) (b9 : Int32), k9 < 3 ∧ n9 ≤ 1000 ∧ fk_CH l y_L_present b_L_present 4 [(0, 16, 19, 13)] (fk_rx 40) g ov ov9 M M8 [.ref (fk_a g 0), .int v, .ref (fk_a g 110)] (nI k9) ∧ fk_CI l y_M_present b_M_present 2 (some .boolean) (fk_rm n9) g ov9 M8 M9 [.ref (fk_a g 89), .int v] b9 ∧ M9 89 0 = nI k9 ∧ (k9 = 0 → ov9 = b9.toInt64) ∧ (b9 = 0 ∨ b9 = 1) ∧ Rr M9
def fk_o_value (l : Launch) (Rr : fk_M → Prop) : Prop := ∀ (g : fk_G) (ov : Int64) (M : fk_M), Rr M → ∀ (v : Int32), ∃ (k9 n9 : Nat) (M8 M9 : fk_M) (ov9 : Int64) (b9 : Int32), k9 < 3 ∧ n9 ≤ 1000 ∧ fk_CH l y_L_value b_L_value 4 [(0, 9, 12, 13), (0, 9, 15, 32)] (fk_rx 40) g ov ov9 M M8 [.ref (fk_a g 0), .int v, .ref (fk_a g 110)] (nI k9) ∧ fk_CI l y_M_value b_M_value 3 (some .int) (fk_rm n9) g ov9 M8 M9 [.ref (fk_a g 89), .int v] b9 ∧ M9 89 0 = nI k9 ∧ (k9 = 0 → ov9 = b9.toInt64) ∧ Rr M9
def fk_o_seen (l : Launch) (Rr : fk_M → Prop) : Prop := ∀ (g : fk_G) (ov : Int64) (M : fk_M), Rr M → ∀ (v : Int32), ∃ (k9 n9 : Nat) (M8 M9 : fk_M) (ov9 : Int64) (b9 : Int32), k9 < 3 ∧ n9 ≤ 1000 ∧ fk_CH l y_L_seen b_L_seen 4 [(0, 9, 12, 13)] (fk_rx 40) g ov ov9 M M8 [.ref (fk_a g 0), .int v, .ref (fk_a g 110)] (nI k9) ∧ fk_CI l y_M_seen b_M_seen 2 (some .int) (fk_rm n9) g ov9 M8 M9 [.ref (fk_a g 89), .int v] b9 ∧ M9 89 0 = nI k9 ∧ (k9 = 0 → ov9 = b9.toInt64) ∧ Rr M9
def fk_o_check (l : Launch) (Rr : fk_M → Prop) : Prop := ∀ (g : fk_G) (ov : Int64) (M : fk_M), Rr M → ∃ (n8 n9 : Nat) (M8 M9 : fk_M) (b9 : Int32), n8 ≤ 1000 ∧ n9 ≤ 1000 ∧ fk_CI l y_D_check b_D_check 1 (some .int) (fk_rm n8) g ov M M8 [.ref (fk_a g 0)] b9 ∧ fk_CI l y_M_check b_M_check 3 (some .int) (fk_rm n9) g ov M8 M9 [.ref (fk_a g 89)] b9 ∧ Rr M9
def fk_o_time (l : Launch) (Rr : fk_M → Prop) : Prop := ∀ (g : fk_G) (ov : Int64) (M : fk_M), Rr M → ∃ (n8 n9 : Nat) (M8 M9 : fk_M) (b9 : Int32), n8 ≤ 1000 ∧ n9 ≤ 1000 ∧ fk_CI l y_D_time b_D_time 1 (some .int) (fk_rm n8) g ov M M8 [.ref (fk_a g 0)] b9 ∧ fk_CI l y_M_time b_M_time 1 (some .int) (fk_rm n9) g ov M8 M9 [.ref (fk_a g 89)] b9 ∧ Rr M9
def fk_o_flows (l : Launch) (Rr : fk_M → Prop) : Prop := ∀ (g : fk_G) (ov : Int64) (M : fk_M), Rr M → ∃ (n8 n9 : Nat) (M8 M9 : fk_M) (b9 : Int32), n8 ≤ 1000 ∧ n9 ≤ 1000 ∧ fk_CI l y_D_flows b_D_flows 1 (some .int) (fk_rm n8) g ov M M8 [.ref (fk_a g 0)] b9 ∧ fk_CI l y_M_flows b_M_flows 1 (some .int) (fk_rm n9) g ov M8 M9 [.ref (fk_a g 89)] b9 ∧ Rr M9
section FKL2
variable {p : Program} {l : Launch} {e : Env} {s : State} {m : MethodId} {below : List Frame} {meth : Method} {c : Code} {H : Heap} {locs : List Loc} {cells slots : Nat}
variable {ls : Array Slot} {g : fk_G} {ov : Int64} {M : fk_M} {b L i : Nat} {xs : Nat → Int32} {Rr : fk_M → Prop}
abbrev fk_lv (g : fk_G) (b i : Nat) : List (Nat × Value) := [(4, .int (nI i)), (3, .ref (fk_a g 110)), (2, .ref (fk_a g 89)), (1, .ref (fk_a g 0)), (0, .ref b)]
/-- behind a case: the loop's step -/
def fk_nx (p : Program) (l : Launch) (e : Env) (s : State) (m : MethodId) (below : List Frame) (meth : Method) (c : Code) (g : fk_G) (b i cells slots : Nat) (Rr : fk_M → Prop) : Prop :=
  ∀ (ov : Int64) (M : fk_M) (H : Heap) (locs : List Loc) (ls : Array Slot) (k n : Nat), k ≤ cells + 1 → n ≤ slots + 6 → Rr M → fk_H g ov M s H locs → lv_has ls 7 (fk_lv g b i) → W p l e room_1 s m #[Value.ref b] below meth c H locs k n (lw_Z below #[Value.ref b] s) (F0 m 742 ls [])
def fk_lc (p : Program) (s : State) (m : MethodId) (c : Code) (g : fk_G) (b L i cells slots : Nat) (xs : Nat → Int32) : Prop :=
  fk_S p m c code 7 s #[Value.ref b] "FlowDeskLaw" ∧ fk_E g s s.heap ∧ fk_ys g s s.heap ∧ va_X b L xs s s.heap ∧ b < s.heap.size ∧ ¬ fk_A g b ∧ i + 4 ≤ L ∧ L ≤ 2048 ∧ cells + 1 ≤ room_1.cells ∧ slots + 6 ≤ room_1.slots
theorem w_L_flow : Cond.codeWith y_L_flow b_L_flow 6 (some .int) [(0, 12, 15, 13), (0, 12, 19, 15)] ∈ fk_ALL := fk_mt (List.mem_of_getElem? (i := 354) (by decide +kernel)) (by decide +kernel)
theorem w_L_type : Cond.codeWith y_L_type b_L_type 5 (some .int) [(0, 6, 9, 13), (0, 6, 13, 15)] ∈ fk_ALL := fk_mt (List.mem_of_getElem? (i := 465) (by decide +kernel)) (by decide +kernel)
theorem w_L_equation : Cond.codeWith y_L_equation b_L_equation 3 (some .int) [(0, 5, 8, 13)] ∈ fk_ALL := fk_mt (List.mem_of_getElem? (i := 478) (by decide +kernel)) (by decide +kernel)
theorem w_L_fault : Cond.codeWith y_L_fault b_L_fault 4 (some .int) [(0, 9, 12, 13)] ∈ fk_ALL := fk_mt (List.mem_of_getElem? (i := 498) (by decide +kernel)) (by decide +kernel)
theorem w_L_order : Cond.codeWith y_L_order b_L_order 4 (some .int) [(0, 9, 12, 15), (0, 9, 15, 32)] ∈ fk_ALL := fk_mt (List.mem_of_getElem? (i := 506) (by decide +kernel)) (by decide +kernel)
theorem w_L_set : Cond.codeWith y_L_set b_L_set 4 (some .int) [(0, 6, 9, 13)] ∈ fk_ALL := fk_mt (List.mem_of_getElem? (i := 531) (by decide +kernel)) (by decide +kernel)
theorem w_L_instants : Cond.codeWith y_L_instants b_L_instants 3 (some .int) [(0, 5, 8, 13), (0, 5, 11, 15)] ∈ fk_ALL := fk_mt (List.mem_of_getElem? (i := 539) (by decide +kernel)) (by decide +kernel)
theorem w_L_present : Cond.codeWith y_L_present b_L_present 4 (some .int) [(0, 16, 19, 13)] ∈ fk_ALL := fk_mt (List.mem_of_getElem? (i := 591) (by decide +kernel)) (by decide +kernel)
theorem w_L_value : Cond.codeWith y_L_value b_L_value 4 (some .int) [(0, 9, 12, 13), (0, 9, 15, 32)] ∈ fk_ALL := fk_mt (List.mem_of_getElem? (i := 599) (by decide +kernel)) (by decide +kernel)
theorem w_L_seen : Cond.codeWith y_L_seen b_L_seen 4 (some .int) [(0, 9, 12, 13)] ∈ fk_ALL := fk_mt (List.mem_of_getElem? (i := 611) (by decide +kernel)) (by decide +kernel)
set_option maxHeartbeats 4000000 in
set_option maxRecDepth 100000 in
theorem l_flow (hq9 : fk_lc p s m c g b L i cells slots xs) (hRel : Rr M) (G : fk_H g ov M s H locs) (hl : lv_has ls 7 (fk_lv g b i)) (ho : fk_o_flow l Rr) (nx : fk_nx p l e s m below meth c g b i cells slots Rr) : W p l e room_1 s m #[Value.ref b] below meth c H locs cells slots (lw_Z below #[Value.ref b] s) (F0 m 104 ls []) := by
  obtain ⟨S, E, Y, hX, hbl, hbA, hi, hL, hf1, hf2⟩ := hq9
  by_cases h1 : xs (i + 1) = 0
  · by_cases h3 : xs (i + 3) = 0
    · obtain ⟨k9, n9, M8, M9, ov9, b9, hk3, hn9, hq8, hq9, hth, hans, hRn⟩ := ho g ov M hRel (nI 0) (xs (i + 2)) (nI 0) (by decide) (by decide)
      refine lv_aload_n S.1 S.2.1 d_L_law_104 rfl (lv_at hl 3 rfl) ?_
      refine lv_aload_n S.1 S.2.1 d_L_law_105 rfl (lv_at hl 4 rfl) ?_
      refine lv_iload S.1 S.2.1 d_L_law_106 (lv_at hl 0 rfl) ?_
      refine lv_iconst (v := nI 1) S.1 S.2.1 d_L_law_108 (by decide +kernel) ?_
      refine fk_iadd S.1 S.2.1 d_L_law_109 ?_
      refine fk_sl S hX hbl hbA G (i + 1) (by omega) hL d_L_law_110 ?_
      refine lv_if_eq (tgt := 118) S.1 S.2.1 d_L_law_111 rfl (fun hc1 => ?_) (fun hc1 => ?_)
      · refine lv_iconst (v := nI 0) S.1 S.2.1 d_L_law_118 (by decide +kernel) ?_
        refine lv_aload_n S.1 S.2.1 d_L_law_119 rfl (lv_at hl 4 rfl) ?_
        refine lv_iload S.1 S.2.1 d_L_law_120 (lv_at hl 0 rfl) ?_
        refine lv_iconst (v := nI 2) S.1 S.2.1 d_L_law_122 (by decide +kernel) ?_
        refine fk_iadd S.1 S.2.1 d_L_law_123 ?_
        refine fk_sl S hX hbl hbA G (i + 2) (by omega) hL d_L_law_124 ?_
        refine lv_aload_n S.1 S.2.1 d_L_law_125 rfl (lv_at hl 4 rfl) ?_
        refine lv_iload S.1 S.2.1 d_L_law_126 (lv_at hl 0 rfl) ?_
        refine lv_iconst (v := nI 3) S.1 S.2.1 d_L_law_128 (by decide +kernel) ?_
        refine fk_iadd S.1 S.2.1 d_L_law_129 ?_
        refine fk_sl S hX hbl hbA G (i + 3) (by omega) hL d_L_law_130 ?_
        refine lv_if_eq (tgt := 138) S.1 S.2.1 d_L_law_131 rfl (fun hc2 => ?_) (fun hc2 => ?_)
        · refine lv_iconst (v := nI 0) S.1 S.2.1 d_L_law_138 (by decide +kernel) ?_
          refine lv_aload_n S.1 S.2.1 d_L_law_139 rfl (lv_at hl 1 rfl) ?_
          refine fk_csw S E Y G (rest := []) (n := 5) hq8 w_L_flow i_353 i_0 (by decide +kernel) i_352 ⟨rfl, rfl⟩ ⟨by decide, by decide⟩ rfl rfl hl.1 (Nat.le_of_ble_eq_true rfl) d_L_law_140 ⟨hf1, hf2⟩ (fun H locs G => ?_)
          refine lv_istore (lv' := [(5, .int (nI k9)), (4, .int (nI i)), (3, .ref (fk_a g 110)), (2, .ref (fk_a g 89)), (1, .ref (fk_a g 0)), (0, .ref b)]) S.1 S.2.1 d_L_law_143 hl (by decide) rfl (fun ls hl => ?_)
          refine lv_aload_n S.1 S.2.1 d_L_law_145 rfl (lv_at hl 3 rfl) ?_
          refine lv_aload_n S.1 S.2.1 d_L_law_146 rfl (lv_at hl 5 rfl) ?_
          refine lv_iload S.1 S.2.1 d_L_law_147 (lv_at hl 1 rfl) ?_
          refine lv_iconst (v := nI 1) S.1 S.2.1 d_L_law_149 (by decide +kernel) ?_
          refine fk_iadd S.1 S.2.1 d_L_law_150 ?_
          refine fk_sl S hX hbl hbA G (i + 1) (by omega) hL d_L_law_151 ?_
          refine lv_if_eq (tgt := 159) S.1 S.2.1 d_L_law_152 rfl (fun hc3 => ?_) (fun hc3 => ?_)
          · refine lv_iconst (v := nI 0) S.1 S.2.1 d_L_law_159 (by decide +kernel) ?_
            refine lv_aload_n S.1 S.2.1 d_L_law_160 rfl (lv_at hl 5 rfl) ?_
            refine lv_iload S.1 S.2.1 d_L_law_161 (lv_at hl 1 rfl) ?_
            refine lv_iconst (v := nI 2) S.1 S.2.1 d_L_law_163 (by decide +kernel) ?_
            refine fk_iadd S.1 S.2.1 d_L_law_164 ?_
            refine fk_sl S hX hbl hbA G (i + 2) (by omega) hL d_L_law_165 ?_
            refine lv_aload_n S.1 S.2.1 d_L_law_166 rfl (lv_at hl 5 rfl) ?_
            refine lv_iload S.1 S.2.1 d_L_law_167 (lv_at hl 1 rfl) ?_
            refine lv_iconst (v := nI 3) S.1 S.2.1 d_L_law_169 (by decide +kernel) ?_
            refine fk_iadd S.1 S.2.1 d_L_law_170 ?_
            refine fk_sl S hX hbl hbA G (i + 3) (by omega) hL d_L_law_171 ?_
            refine lv_if_eq (tgt := 179) S.1 S.2.1 d_L_law_172 rfl (fun hc4 => ?_) (fun hc4 => ?_)
            · refine lv_iconst (v := nI 0) S.1 S.2.1 d_L_law_179 (by decide +kernel) ?_
              refine fk_cvi S E G 89 (by decide) (congrArg (fk_ce g ov9 89 (M8 89)) kd_89) rfl (rest := []) hq9 m_M_flow i_720 ⟨rfl, rfl⟩ ⟨by show n9 + 1 ≤ 2048; omega, by show 8 + (6 + 11) + 64 * n9 ≤ 84000; omega⟩ rfl rfl hl.1 (Nat.le_of_ble_eq_true rfl) d_L_law_180 ⟨Nat.le_trans (Nat.le_refl _) hf1, Nat.le_trans (Nat.le_refl _) hf2⟩ (fun H locs G => ?_)
              refine lv_istore (lv' := [(6, .int b9), (5, .int (nI k9)), (4, .int (nI i)), (3, .ref (fk_a g 110)), (2, .ref (fk_a g 89)), (1, .ref (fk_a g 0)), (0, .ref b)]) S.1 S.2.1 d_L_law_183 hl (by decide) rfl (fun ls hl => ?_)
              refine lv_aload_n S.1 S.2.1 d_L_law_185 rfl (lv_at hl 4 rfl) ?_
              refine fk_cvi S E G 89 (by decide) (congrArg (fk_ce g ov9 89 (M9 89)) kd_89) rfl (rest := []) (c_M_thrown l g ov9 M9) m_M_thrown i_716 ⟨rfl, rfl⟩ ⟨by decide, by decide⟩ rfl rfl hl.1 (Nat.le_of_ble_eq_true rfl) d_L_law_186 ⟨Nat.le_trans (Nat.le_refl _) hf1, Nat.le_trans (Nat.le_refl _) hf2⟩ (fun H locs G => ?_)
              rw [hth]
              refine lv_iload S.1 S.2.1 d_L_law_189 (lv_at hl 1 rfl) ?_
              refine fk_ceq (tgt := 196) S.1 S.2.1 (by omega) (by omega) d_L_law_191 rfl (fun hc5 => ?_) (fun hc5 => ?_)
              · refine lv_iload S.1 S.2.1 d_L_law_196 (lv_at hl 1 rfl) ?_
                refine fk_zne (tgt := 213) S.1 S.2.1 (by omega) d_L_law_198 rfl (fun hc6 => ?_) (fun hc6 => ?_)
                · refine lv_goto (tgt := 742) S.1 S.2.1 d_L_law_213 rfl ?_
                  exact nx ov9 M9 H locs ls _ _ (Nat.le_refl _) (Nat.le_refl _) hRn G (lv_sub hl [2, 3, 4, 5, 6] rfl)
                · refine lv_aload_n S.1 S.2.1 d_L_law_201 rfl (lv_at hl 3 rfl) ?_
                  refine lv_iconst (v := nI 0) S.1 S.2.1 d_L_law_202 (by decide +kernel) ?_
                  refine fk_ll S E G d_L_law_203 ?_
                  refine lv_iload S.1 S.2.1 d_L_law_204 (lv_at hl 0 rfl) ?_
                  refine lv_i2l (v := (b9).toInt64) S.1 S.2.1 d_L_law_206 rfl ?_
                  refine W.lcmp S.1 S.2.1 d_L_law_207 ?_
                  have hz : lg_cmp ov9 ((b9).toInt64) = 0 := by
                    rw [hans hc6]
                    simp [lg_cmp]
                  rw [hz]
                  refine lv_if_eq (tgt := 213) S.1 S.2.1 d_L_law_208 rfl (fun hc7 => ?_) (fun hc7 => ?_)
                  · refine lv_goto (tgt := 742) S.1 S.2.1 d_L_law_213 rfl ?_
                    exact nx ov9 M9 H locs ls _ _ (Nat.le_refl _) (Nat.le_refl _) hRn G (lv_sub hl [2, 3, 4, 5, 6] rfl)
                  · exact absurd rfl hc7
              · exact absurd rfl hc5
            · exact absurd h3 hc4
          · exact absurd h1 hc3
        · exact absurd h3 hc2
      · exact absurd h1 hc1
    · obtain ⟨k9, n9, M8, M9, ov9, b9, hk3, hn9, hq8, hq9, hth, hans, hRn⟩ := ho g ov M hRel (nI 0) (xs (i + 2)) (nI 1) (by decide) (by decide)
      refine lv_aload_n S.1 S.2.1 d_L_law_104 rfl (lv_at hl 3 rfl) ?_
      refine lv_aload_n S.1 S.2.1 d_L_law_105 rfl (lv_at hl 4 rfl) ?_
      refine lv_iload S.1 S.2.1 d_L_law_106 (lv_at hl 0 rfl) ?_
      refine lv_iconst (v := nI 1) S.1 S.2.1 d_L_law_108 (by decide +kernel) ?_
      refine fk_iadd S.1 S.2.1 d_L_law_109 ?_
      refine fk_sl S hX hbl hbA G (i + 1) (by omega) hL d_L_law_110 ?_
      refine lv_if_eq (tgt := 118) S.1 S.2.1 d_L_law_111 rfl (fun hc8 => ?_) (fun hc8 => ?_)
      · refine lv_iconst (v := nI 0) S.1 S.2.1 d_L_law_118 (by decide +kernel) ?_
        refine lv_aload_n S.1 S.2.1 d_L_law_119 rfl (lv_at hl 4 rfl) ?_
        refine lv_iload S.1 S.2.1 d_L_law_120 (lv_at hl 0 rfl) ?_
        refine lv_iconst (v := nI 2) S.1 S.2.1 d_L_law_122 (by decide +kernel) ?_
        refine fk_iadd S.1 S.2.1 d_L_law_123 ?_
        refine fk_sl S hX hbl hbA G (i + 2) (by omega) hL d_L_law_124 ?_
        refine lv_aload_n S.1 S.2.1 d_L_law_125 rfl (lv_at hl 4 rfl) ?_
        refine lv_iload S.1 S.2.1 d_L_law_126 (lv_at hl 0 rfl) ?_
        refine lv_iconst (v := nI 3) S.1 S.2.1 d_L_law_128 (by decide +kernel) ?_
        refine fk_iadd S.1 S.2.1 d_L_law_129 ?_
        refine fk_sl S hX hbl hbA G (i + 3) (by omega) hL d_L_law_130 ?_
        refine lv_if_eq (tgt := 138) S.1 S.2.1 d_L_law_131 rfl (fun hc9 => ?_) (fun hc9 => ?_)
        · exact absurd hc9 h3
        · refine lv_iconst (v := nI 1) S.1 S.2.1 d_L_law_134 (by decide +kernel) ?_
          refine lv_goto (tgt := 139) S.1 S.2.1 d_L_law_135 rfl ?_
          refine lv_aload_n S.1 S.2.1 d_L_law_139 rfl (lv_at hl 1 rfl) ?_
          refine fk_csw S E Y G (rest := []) (n := 5) hq8 w_L_flow i_353 i_0 (by decide +kernel) i_352 ⟨rfl, rfl⟩ ⟨by decide, by decide⟩ rfl rfl hl.1 (Nat.le_of_ble_eq_true rfl) d_L_law_140 ⟨hf1, hf2⟩ (fun H locs G => ?_)
          refine lv_istore (lv' := [(5, .int (nI k9)), (4, .int (nI i)), (3, .ref (fk_a g 110)), (2, .ref (fk_a g 89)), (1, .ref (fk_a g 0)), (0, .ref b)]) S.1 S.2.1 d_L_law_143 hl (by decide) rfl (fun ls hl => ?_)
          refine lv_aload_n S.1 S.2.1 d_L_law_145 rfl (lv_at hl 3 rfl) ?_
          refine lv_aload_n S.1 S.2.1 d_L_law_146 rfl (lv_at hl 5 rfl) ?_
          refine lv_iload S.1 S.2.1 d_L_law_147 (lv_at hl 1 rfl) ?_
          refine lv_iconst (v := nI 1) S.1 S.2.1 d_L_law_149 (by decide +kernel) ?_
          refine fk_iadd S.1 S.2.1 d_L_law_150 ?_
          refine fk_sl S hX hbl hbA G (i + 1) (by omega) hL d_L_law_151 ?_
          refine lv_if_eq (tgt := 159) S.1 S.2.1 d_L_law_152 rfl (fun hc10 => ?_) (fun hc10 => ?_)
          · refine lv_iconst (v := nI 0) S.1 S.2.1 d_L_law_159 (by decide +kernel) ?_
            refine lv_aload_n S.1 S.2.1 d_L_law_160 rfl (lv_at hl 5 rfl) ?_
            refine lv_iload S.1 S.2.1 d_L_law_161 (lv_at hl 1 rfl) ?_
            refine lv_iconst (v := nI 2) S.1 S.2.1 d_L_law_163 (by decide +kernel) ?_
            refine fk_iadd S.1 S.2.1 d_L_law_164 ?_
            refine fk_sl S hX hbl hbA G (i + 2) (by omega) hL d_L_law_165 ?_
            refine lv_aload_n S.1 S.2.1 d_L_law_166 rfl (lv_at hl 5 rfl) ?_
            refine lv_iload S.1 S.2.1 d_L_law_167 (lv_at hl 1 rfl) ?_
            refine lv_iconst (v := nI 3) S.1 S.2.1 d_L_law_169 (by decide +kernel) ?_
            refine fk_iadd S.1 S.2.1 d_L_law_170 ?_
            refine fk_sl S hX hbl hbA G (i + 3) (by omega) hL d_L_law_171 ?_
            refine lv_if_eq (tgt := 179) S.1 S.2.1 d_L_law_172 rfl (fun hc11 => ?_) (fun hc11 => ?_)
            · exact absurd hc11 h3
            · refine lv_iconst (v := nI 1) S.1 S.2.1 d_L_law_175 (by decide +kernel) ?_
              refine lv_goto (tgt := 180) S.1 S.2.1 d_L_law_176 rfl ?_
              refine fk_cvi S E G 89 (by decide) (congrArg (fk_ce g ov9 89 (M8 89)) kd_89) rfl (rest := []) hq9 m_M_flow i_720 ⟨rfl, rfl⟩ ⟨by show n9 + 1 ≤ 2048; omega, by show 8 + (6 + 11) + 64 * n9 ≤ 84000; omega⟩ rfl rfl hl.1 (Nat.le_of_ble_eq_true rfl) d_L_law_180 ⟨Nat.le_trans (Nat.le_refl _) hf1, Nat.le_trans (Nat.le_refl _) hf2⟩ (fun H locs G => ?_)
              refine lv_istore (lv' := [(6, .int b9), (5, .int (nI k9)), (4, .int (nI i)), (3, .ref (fk_a g 110)), (2, .ref (fk_a g 89)), (1, .ref (fk_a g 0)), (0, .ref b)]) S.1 S.2.1 d_L_law_183 hl (by decide) rfl (fun ls hl => ?_)
              refine lv_aload_n S.1 S.2.1 d_L_law_185 rfl (lv_at hl 4 rfl) ?_
              refine fk_cvi S E G 89 (by decide) (congrArg (fk_ce g ov9 89 (M9 89)) kd_89) rfl (rest := []) (c_M_thrown l g ov9 M9) m_M_thrown i_716 ⟨rfl, rfl⟩ ⟨by decide, by decide⟩ rfl rfl hl.1 (Nat.le_of_ble_eq_true rfl) d_L_law_186 ⟨Nat.le_trans (Nat.le_refl _) hf1, Nat.le_trans (Nat.le_refl _) hf2⟩ (fun H locs G => ?_)
              rw [hth]
              refine lv_iload S.1 S.2.1 d_L_law_189 (lv_at hl 1 rfl) ?_
              refine fk_ceq (tgt := 196) S.1 S.2.1 (by omega) (by omega) d_L_law_191 rfl (fun hc12 => ?_) (fun hc12 => ?_)
              · refine lv_iload S.1 S.2.1 d_L_law_196 (lv_at hl 1 rfl) ?_
                refine fk_zne (tgt := 213) S.1 S.2.1 (by omega) d_L_law_198 rfl (fun hc13 => ?_) (fun hc13 => ?_)
                · refine lv_goto (tgt := 742) S.1 S.2.1 d_L_law_213 rfl ?_
                  exact nx ov9 M9 H locs ls _ _ (Nat.le_refl _) (Nat.le_refl _) hRn G (lv_sub hl [2, 3, 4, 5, 6] rfl)
                · refine lv_aload_n S.1 S.2.1 d_L_law_201 rfl (lv_at hl 3 rfl) ?_
                  refine lv_iconst (v := nI 0) S.1 S.2.1 d_L_law_202 (by decide +kernel) ?_
                  refine fk_ll S E G d_L_law_203 ?_
                  refine lv_iload S.1 S.2.1 d_L_law_204 (lv_at hl 0 rfl) ?_
                  refine lv_i2l (v := (b9).toInt64) S.1 S.2.1 d_L_law_206 rfl ?_
                  refine W.lcmp S.1 S.2.1 d_L_law_207 ?_
                  have hz : lg_cmp ov9 ((b9).toInt64) = 0 := by
                    rw [hans hc13]
                    simp [lg_cmp]
                  rw [hz]
                  refine lv_if_eq (tgt := 213) S.1 S.2.1 d_L_law_208 rfl (fun hc14 => ?_) (fun hc14 => ?_)
                  · refine lv_goto (tgt := 742) S.1 S.2.1 d_L_law_213 rfl ?_
                    exact nx ov9 M9 H locs ls _ _ (Nat.le_refl _) (Nat.le_refl _) hRn G (lv_sub hl [2, 3, 4, 5, 6] rfl)
                  · exact absurd rfl hc14
              · exact absurd rfl hc12
          · exact absurd h1 hc10
      · exact absurd h1 hc8
  · by_cases h3 : xs (i + 3) = 0
    · obtain ⟨k9, n9, M8, M9, ov9, b9, hk3, hn9, hq8, hq9, hth, hans, hRn⟩ := ho g ov M hRel (nI 1) (xs (i + 2)) (nI 0) (by decide) (by decide)
      refine lv_aload_n S.1 S.2.1 d_L_law_104 rfl (lv_at hl 3 rfl) ?_
      refine lv_aload_n S.1 S.2.1 d_L_law_105 rfl (lv_at hl 4 rfl) ?_
      refine lv_iload S.1 S.2.1 d_L_law_106 (lv_at hl 0 rfl) ?_
      refine lv_iconst (v := nI 1) S.1 S.2.1 d_L_law_108 (by decide +kernel) ?_
      refine fk_iadd S.1 S.2.1 d_L_law_109 ?_
      refine fk_sl S hX hbl hbA G (i + 1) (by omega) hL d_L_law_110 ?_
      refine lv_if_eq (tgt := 118) S.1 S.2.1 d_L_law_111 rfl (fun hc15 => ?_) (fun hc15 => ?_)
      · exact absurd hc15 h1
      · refine lv_iconst (v := nI 1) S.1 S.2.1 d_L_law_114 (by decide +kernel) ?_
        refine lv_goto (tgt := 119) S.1 S.2.1 d_L_law_115 rfl ?_
        refine lv_aload_n S.1 S.2.1 d_L_law_119 rfl (lv_at hl 4 rfl) ?_
        refine lv_iload S.1 S.2.1 d_L_law_120 (lv_at hl 0 rfl) ?_
        refine lv_iconst (v := nI 2) S.1 S.2.1 d_L_law_122 (by decide +kernel) ?_
        refine fk_iadd S.1 S.2.1 d_L_law_123 ?_
        refine fk_sl S hX hbl hbA G (i + 2) (by omega) hL d_L_law_124 ?_
        refine lv_aload_n S.1 S.2.1 d_L_law_125 rfl (lv_at hl 4 rfl) ?_
        refine lv_iload S.1 S.2.1 d_L_law_126 (lv_at hl 0 rfl) ?_
        refine lv_iconst (v := nI 3) S.1 S.2.1 d_L_law_128 (by decide +kernel) ?_
        refine fk_iadd S.1 S.2.1 d_L_law_129 ?_
        refine fk_sl S hX hbl hbA G (i + 3) (by omega) hL d_L_law_130 ?_
        refine lv_if_eq (tgt := 138) S.1 S.2.1 d_L_law_131 rfl (fun hc16 => ?_) (fun hc16 => ?_)
        · refine lv_iconst (v := nI 0) S.1 S.2.1 d_L_law_138 (by decide +kernel) ?_
          refine lv_aload_n S.1 S.2.1 d_L_law_139 rfl (lv_at hl 1 rfl) ?_
          refine fk_csw S E Y G (rest := []) (n := 5) hq8 w_L_flow i_353 i_0 (by decide +kernel) i_352 ⟨rfl, rfl⟩ ⟨by decide, by decide⟩ rfl rfl hl.1 (Nat.le_of_ble_eq_true rfl) d_L_law_140 ⟨hf1, hf2⟩ (fun H locs G => ?_)
          refine lv_istore (lv' := [(5, .int (nI k9)), (4, .int (nI i)), (3, .ref (fk_a g 110)), (2, .ref (fk_a g 89)), (1, .ref (fk_a g 0)), (0, .ref b)]) S.1 S.2.1 d_L_law_143 hl (by decide) rfl (fun ls hl => ?_)
          refine lv_aload_n S.1 S.2.1 d_L_law_145 rfl (lv_at hl 3 rfl) ?_
          refine lv_aload_n S.1 S.2.1 d_L_law_146 rfl (lv_at hl 5 rfl) ?_
          refine lv_iload S.1 S.2.1 d_L_law_147 (lv_at hl 1 rfl) ?_
          refine lv_iconst (v := nI 1) S.1 S.2.1 d_L_law_149 (by decide +kernel) ?_
          refine fk_iadd S.1 S.2.1 d_L_law_150 ?_
          refine fk_sl S hX hbl hbA G (i + 1) (by omega) hL d_L_law_151 ?_
          refine lv_if_eq (tgt := 159) S.1 S.2.1 d_L_law_152 rfl (fun hc17 => ?_) (fun hc17 => ?_)
          · exact absurd hc17 h1
          · refine lv_iconst (v := nI 1) S.1 S.2.1 d_L_law_155 (by decide +kernel) ?_
            refine lv_goto (tgt := 160) S.1 S.2.1 d_L_law_156 rfl ?_
            refine lv_aload_n S.1 S.2.1 d_L_law_160 rfl (lv_at hl 5 rfl) ?_
            refine lv_iload S.1 S.2.1 d_L_law_161 (lv_at hl 1 rfl) ?_
            refine lv_iconst (v := nI 2) S.1 S.2.1 d_L_law_163 (by decide +kernel) ?_
            refine fk_iadd S.1 S.2.1 d_L_law_164 ?_
            refine fk_sl S hX hbl hbA G (i + 2) (by omega) hL d_L_law_165 ?_
            refine lv_aload_n S.1 S.2.1 d_L_law_166 rfl (lv_at hl 5 rfl) ?_
            refine lv_iload S.1 S.2.1 d_L_law_167 (lv_at hl 1 rfl) ?_
            refine lv_iconst (v := nI 3) S.1 S.2.1 d_L_law_169 (by decide +kernel) ?_
            refine fk_iadd S.1 S.2.1 d_L_law_170 ?_
            refine fk_sl S hX hbl hbA G (i + 3) (by omega) hL d_L_law_171 ?_
            refine lv_if_eq (tgt := 179) S.1 S.2.1 d_L_law_172 rfl (fun hc18 => ?_) (fun hc18 => ?_)
            · refine lv_iconst (v := nI 0) S.1 S.2.1 d_L_law_179 (by decide +kernel) ?_
              refine fk_cvi S E G 89 (by decide) (congrArg (fk_ce g ov9 89 (M8 89)) kd_89) rfl (rest := []) hq9 m_M_flow i_720 ⟨rfl, rfl⟩ ⟨by show n9 + 1 ≤ 2048; omega, by show 8 + (6 + 11) + 64 * n9 ≤ 84000; omega⟩ rfl rfl hl.1 (Nat.le_of_ble_eq_true rfl) d_L_law_180 ⟨Nat.le_trans (Nat.le_refl _) hf1, Nat.le_trans (Nat.le_refl _) hf2⟩ (fun H locs G => ?_)
              refine lv_istore (lv' := [(6, .int b9), (5, .int (nI k9)), (4, .int (nI i)), (3, .ref (fk_a g 110)), (2, .ref (fk_a g 89)), (1, .ref (fk_a g 0)), (0, .ref b)]) S.1 S.2.1 d_L_law_183 hl (by decide) rfl (fun ls hl => ?_)
              refine lv_aload_n S.1 S.2.1 d_L_law_185 rfl (lv_at hl 4 rfl) ?_
              refine fk_cvi S E G 89 (by decide) (congrArg (fk_ce g ov9 89 (M9 89)) kd_89) rfl (rest := []) (c_M_thrown l g ov9 M9) m_M_thrown i_716 ⟨rfl, rfl⟩ ⟨by decide, by decide⟩ rfl rfl hl.1 (Nat.le_of_ble_eq_true rfl) d_L_law_186 ⟨Nat.le_trans (Nat.le_refl _) hf1, Nat.le_trans (Nat.le_refl _) hf2⟩ (fun H locs G => ?_)
              rw [hth]
              refine lv_iload S.1 S.2.1 d_L_law_189 (lv_at hl 1 rfl) ?_
              refine fk_ceq (tgt := 196) S.1 S.2.1 (by omega) (by omega) d_L_law_191 rfl (fun hc19 => ?_) (fun hc19 => ?_)
              · refine lv_iload S.1 S.2.1 d_L_law_196 (lv_at hl 1 rfl) ?_
                refine fk_zne (tgt := 213) S.1 S.2.1 (by omega) d_L_law_198 rfl (fun hc20 => ?_) (fun hc20 => ?_)
                · refine lv_goto (tgt := 742) S.1 S.2.1 d_L_law_213 rfl ?_
                  exact nx ov9 M9 H locs ls _ _ (Nat.le_refl _) (Nat.le_refl _) hRn G (lv_sub hl [2, 3, 4, 5, 6] rfl)
                · refine lv_aload_n S.1 S.2.1 d_L_law_201 rfl (lv_at hl 3 rfl) ?_
                  refine lv_iconst (v := nI 0) S.1 S.2.1 d_L_law_202 (by decide +kernel) ?_
                  refine fk_ll S E G d_L_law_203 ?_
                  refine lv_iload S.1 S.2.1 d_L_law_204 (lv_at hl 0 rfl) ?_
                  refine lv_i2l (v := (b9).toInt64) S.1 S.2.1 d_L_law_206 rfl ?_
                  refine W.lcmp S.1 S.2.1 d_L_law_207 ?_
                  have hz : lg_cmp ov9 ((b9).toInt64) = 0 := by
                    rw [hans hc20]
                    simp [lg_cmp]
                  rw [hz]
                  refine lv_if_eq (tgt := 213) S.1 S.2.1 d_L_law_208 rfl (fun hc21 => ?_) (fun hc21 => ?_)
                  · refine lv_goto (tgt := 742) S.1 S.2.1 d_L_law_213 rfl ?_
                    exact nx ov9 M9 H locs ls _ _ (Nat.le_refl _) (Nat.le_refl _) hRn G (lv_sub hl [2, 3, 4, 5, 6] rfl)
                  · exact absurd rfl hc21
              · exact absurd rfl hc19
            · exact absurd h3 hc18
        · exact absurd h3 hc16
    · obtain ⟨k9, n9, M8, M9, ov9, b9, hk3, hn9, hq8, hq9, hth, hans, hRn⟩ := ho g ov M hRel (nI 1) (xs (i + 2)) (nI 1) (by decide) (by decide)
      refine lv_aload_n S.1 S.2.1 d_L_law_104 rfl (lv_at hl 3 rfl) ?_
      refine lv_aload_n S.1 S.2.1 d_L_law_105 rfl (lv_at hl 4 rfl) ?_
      refine lv_iload S.1 S.2.1 d_L_law_106 (lv_at hl 0 rfl) ?_
      refine lv_iconst (v := nI 1) S.1 S.2.1 d_L_law_108 (by decide +kernel) ?_
      refine fk_iadd S.1 S.2.1 d_L_law_109 ?_
      refine fk_sl S hX hbl hbA G (i + 1) (by omega) hL d_L_law_110 ?_
      refine lv_if_eq (tgt := 118) S.1 S.2.1 d_L_law_111 rfl (fun hc22 => ?_) (fun hc22 => ?_)
      · exact absurd hc22 h1
      · refine lv_iconst (v := nI 1) S.1 S.2.1 d_L_law_114 (by decide +kernel) ?_
        refine lv_goto (tgt := 119) S.1 S.2.1 d_L_law_115 rfl ?_
        refine lv_aload_n S.1 S.2.1 d_L_law_119 rfl (lv_at hl 4 rfl) ?_
        refine lv_iload S.1 S.2.1 d_L_law_120 (lv_at hl 0 rfl) ?_
        refine lv_iconst (v := nI 2) S.1 S.2.1 d_L_law_122 (by decide +kernel) ?_
        refine fk_iadd S.1 S.2.1 d_L_law_123 ?_
        refine fk_sl S hX hbl hbA G (i + 2) (by omega) hL d_L_law_124 ?_
        refine lv_aload_n S.1 S.2.1 d_L_law_125 rfl (lv_at hl 4 rfl) ?_
        refine lv_iload S.1 S.2.1 d_L_law_126 (lv_at hl 0 rfl) ?_
        refine lv_iconst (v := nI 3) S.1 S.2.1 d_L_law_128 (by decide +kernel) ?_
        refine fk_iadd S.1 S.2.1 d_L_law_129 ?_
        refine fk_sl S hX hbl hbA G (i + 3) (by omega) hL d_L_law_130 ?_
        refine lv_if_eq (tgt := 138) S.1 S.2.1 d_L_law_131 rfl (fun hc23 => ?_) (fun hc23 => ?_)
        · exact absurd hc23 h3
        · refine lv_iconst (v := nI 1) S.1 S.2.1 d_L_law_134 (by decide +kernel) ?_
          refine lv_goto (tgt := 139) S.1 S.2.1 d_L_law_135 rfl ?_
          refine lv_aload_n S.1 S.2.1 d_L_law_139 rfl (lv_at hl 1 rfl) ?_
          refine fk_csw S E Y G (rest := []) (n := 5) hq8 w_L_flow i_353 i_0 (by decide +kernel) i_352 ⟨rfl, rfl⟩ ⟨by decide, by decide⟩ rfl rfl hl.1 (Nat.le_of_ble_eq_true rfl) d_L_law_140 ⟨hf1, hf2⟩ (fun H locs G => ?_)
          refine lv_istore (lv' := [(5, .int (nI k9)), (4, .int (nI i)), (3, .ref (fk_a g 110)), (2, .ref (fk_a g 89)), (1, .ref (fk_a g 0)), (0, .ref b)]) S.1 S.2.1 d_L_law_143 hl (by decide) rfl (fun ls hl => ?_)
          refine lv_aload_n S.1 S.2.1 d_L_law_145 rfl (lv_at hl 3 rfl) ?_
          refine lv_aload_n S.1 S.2.1 d_L_law_146 rfl (lv_at hl 5 rfl) ?_
          refine lv_iload S.1 S.2.1 d_L_law_147 (lv_at hl 1 rfl) ?_
          refine lv_iconst (v := nI 1) S.1 S.2.1 d_L_law_149 (by decide +kernel) ?_
          refine fk_iadd S.1 S.2.1 d_L_law_150 ?_
          refine fk_sl S hX hbl hbA G (i + 1) (by omega) hL d_L_law_151 ?_
          refine lv_if_eq (tgt := 159) S.1 S.2.1 d_L_law_152 rfl (fun hc24 => ?_) (fun hc24 => ?_)
          · exact absurd hc24 h1
          · refine lv_iconst (v := nI 1) S.1 S.2.1 d_L_law_155 (by decide +kernel) ?_
            refine lv_goto (tgt := 160) S.1 S.2.1 d_L_law_156 rfl ?_
            refine lv_aload_n S.1 S.2.1 d_L_law_160 rfl (lv_at hl 5 rfl) ?_
            refine lv_iload S.1 S.2.1 d_L_law_161 (lv_at hl 1 rfl) ?_
            refine lv_iconst (v := nI 2) S.1 S.2.1 d_L_law_163 (by decide +kernel) ?_
            refine fk_iadd S.1 S.2.1 d_L_law_164 ?_
            refine fk_sl S hX hbl hbA G (i + 2) (by omega) hL d_L_law_165 ?_
            refine lv_aload_n S.1 S.2.1 d_L_law_166 rfl (lv_at hl 5 rfl) ?_
            refine lv_iload S.1 S.2.1 d_L_law_167 (lv_at hl 1 rfl) ?_
            refine lv_iconst (v := nI 3) S.1 S.2.1 d_L_law_169 (by decide +kernel) ?_
            refine fk_iadd S.1 S.2.1 d_L_law_170 ?_
            refine fk_sl S hX hbl hbA G (i + 3) (by omega) hL d_L_law_171 ?_
            refine lv_if_eq (tgt := 179) S.1 S.2.1 d_L_law_172 rfl (fun hc25 => ?_) (fun hc25 => ?_)
            · exact absurd hc25 h3
            · refine lv_iconst (v := nI 1) S.1 S.2.1 d_L_law_175 (by decide +kernel) ?_
              refine lv_goto (tgt := 180) S.1 S.2.1 d_L_law_176 rfl ?_
              refine fk_cvi S E G 89 (by decide) (congrArg (fk_ce g ov9 89 (M8 89)) kd_89) rfl (rest := []) hq9 m_M_flow i_720 ⟨rfl, rfl⟩ ⟨by show n9 + 1 ≤ 2048; omega, by show 8 + (6 + 11) + 64 * n9 ≤ 84000; omega⟩ rfl rfl hl.1 (Nat.le_of_ble_eq_true rfl) d_L_law_180 ⟨Nat.le_trans (Nat.le_refl _) hf1, Nat.le_trans (Nat.le_refl _) hf2⟩ (fun H locs G => ?_)
              refine lv_istore (lv' := [(6, .int b9), (5, .int (nI k9)), (4, .int (nI i)), (3, .ref (fk_a g 110)), (2, .ref (fk_a g 89)), (1, .ref (fk_a g 0)), (0, .ref b)]) S.1 S.2.1 d_L_law_183 hl (by decide) rfl (fun ls hl => ?_)
              refine lv_aload_n S.1 S.2.1 d_L_law_185 rfl (lv_at hl 4 rfl) ?_
              refine fk_cvi S E G 89 (by decide) (congrArg (fk_ce g ov9 89 (M9 89)) kd_89) rfl (rest := []) (c_M_thrown l g ov9 M9) m_M_thrown i_716 ⟨rfl, rfl⟩ ⟨by decide, by decide⟩ rfl rfl hl.1 (Nat.le_of_ble_eq_true rfl) d_L_law_186 ⟨Nat.le_trans (Nat.le_refl _) hf1, Nat.le_trans (Nat.le_refl _) hf2⟩ (fun H locs G => ?_)
              rw [hth]
              refine lv_iload S.1 S.2.1 d_L_law_189 (lv_at hl 1 rfl) ?_
              refine fk_ceq (tgt := 196) S.1 S.2.1 (by omega) (by omega) d_L_law_191 rfl (fun hc26 => ?_) (fun hc26 => ?_)
              · refine lv_iload S.1 S.2.1 d_L_law_196 (lv_at hl 1 rfl) ?_
                refine fk_zne (tgt := 213) S.1 S.2.1 (by omega) d_L_law_198 rfl (fun hc27 => ?_) (fun hc27 => ?_)
                · refine lv_goto (tgt := 742) S.1 S.2.1 d_L_law_213 rfl ?_
                  exact nx ov9 M9 H locs ls _ _ (Nat.le_refl _) (Nat.le_refl _) hRn G (lv_sub hl [2, 3, 4, 5, 6] rfl)
                · refine lv_aload_n S.1 S.2.1 d_L_law_201 rfl (lv_at hl 3 rfl) ?_
                  refine lv_iconst (v := nI 0) S.1 S.2.1 d_L_law_202 (by decide +kernel) ?_
                  refine fk_ll S E G d_L_law_203 ?_
                  refine lv_iload S.1 S.2.1 d_L_law_204 (lv_at hl 0 rfl) ?_
                  refine lv_i2l (v := (b9).toInt64) S.1 S.2.1 d_L_law_206 rfl ?_
                  refine W.lcmp S.1 S.2.1 d_L_law_207 ?_
                  have hz : lg_cmp ov9 ((b9).toInt64) = 0 := by
                    rw [hans hc27]
                    simp [lg_cmp]
                  rw [hz]
                  refine lv_if_eq (tgt := 213) S.1 S.2.1 d_L_law_208 rfl (fun hc28 => ?_) (fun hc28 => ?_)
                  · refine lv_goto (tgt := 742) S.1 S.2.1 d_L_law_213 rfl ?_
                    exact nx ov9 M9 H locs ls _ _ (Nat.le_refl _) (Nat.le_refl _) hRn G (lv_sub hl [2, 3, 4, 5, 6] rfl)
                  · exact absurd rfl hc28
              · exact absurd rfl hc26
set_option maxHeartbeats 4000000 in
set_option maxRecDepth 100000 in
theorem l_type (hq9 : fk_lc p s m c g b L i cells slots xs) (hRel : Rr M) (G : fk_H g ov M s H locs) (hl : lv_has ls 7 (fk_lv g b i)) (ho : fk_o_type l Rr) (nx : fk_nx p l e s m below meth c g b i cells slots Rr) : W p l e room_1 s m #[Value.ref b] below meth c H locs cells slots (lw_Z below #[Value.ref b] s) (F0 m 216 ls []) := by
  obtain ⟨S, E, Y, hX, hbl, hbA, hi, hL, hf1, hf2⟩ := hq9
  obtain ⟨k9, n9, M8, M9, ov9, b9, hk3, hn9, hq8, hq9, hth, hRn⟩ := ho g ov M hRel (fk_lw (xs (i + 1)) (xs (i + 2))) (xs (i + 3))
  refine lv_aload_n S.1 S.2.1 d_L_law_216 rfl (lv_at hl 3 rfl) ?_
  refine lv_aload_n S.1 S.2.1 d_L_law_217 rfl (lv_at hl 4 rfl) ?_
  refine lv_iload S.1 S.2.1 d_L_law_218 (lv_at hl 0 rfl) ?_
  refine lv_iconst (v := nI 1) S.1 S.2.1 d_L_law_220 (by decide +kernel) ?_
  refine fk_iadd S.1 S.2.1 d_L_law_221 ?_
  refine fk_sl S hX hbl hbA G (i + 1) (by omega) hL d_L_law_222 ?_
  refine lv_i2l (v := (xs (i + 1)).toInt64) S.1 S.2.1 d_L_law_223 rfl ?_
  refine lv_bipush (v := nI 32) S.1 S.2.1 d_L_law_224 (by decide +kernel) ?_
  refine lv_lshl (v := ((xs (i + 1)).toInt64) <<< ((nI 32).toInt64 &&& 63)) S.1 S.2.1 d_L_law_226 rfl ?_
  refine lv_aload_n S.1 S.2.1 d_L_law_227 rfl (lv_at hl 4 rfl) ?_
  refine lv_iload S.1 S.2.1 d_L_law_228 (lv_at hl 0 rfl) ?_
  refine lv_iconst (v := nI 2) S.1 S.2.1 d_L_law_230 (by decide +kernel) ?_
  refine fk_iadd S.1 S.2.1 d_L_law_231 ?_
  refine fk_sl S hX hbl hbA G (i + 2) (by omega) hL d_L_law_232 ?_
  refine lv_i2l (v := (xs (i + 2)).toInt64) S.1 S.2.1 d_L_law_233 rfl ?_
  refine lv_ldc2 S.1 S.2.1 (v := 4294967295) S.2.2.2.1 (S.2.2.2.2 _ (fk_mt (List.mem_of_getElem? (i := 858) (by decide +kernel)) (by decide +kernel))) d_L_law_234 ?_
  refine lv_land S.1 S.2.1 d_L_law_237 ?_
  refine lv_lor S.1 S.2.1 d_L_law_238 ?_
  refine lv_aload_n S.1 S.2.1 d_L_law_239 rfl (lv_at hl 4 rfl) ?_
  refine lv_iload S.1 S.2.1 d_L_law_240 (lv_at hl 0 rfl) ?_
  refine lv_iconst (v := nI 3) S.1 S.2.1 d_L_law_242 (by decide +kernel) ?_
  refine fk_iadd S.1 S.2.1 d_L_law_243 ?_
  refine fk_sl S hX hbl hbA G (i + 3) (by omega) hL d_L_law_244 ?_
  refine fk_csw S E Y G (rest := []) (n := 3) hq8 w_L_type i_464 i_0 (by decide +kernel) i_463 ⟨rfl, rfl⟩ ⟨by decide, by decide⟩ rfl rfl hl.1 (Nat.le_of_ble_eq_true rfl) d_L_law_245 ⟨hf1, hf2⟩ (fun H locs G => ?_)
  refine lv_istore (lv' := [(5, .int (nI k9)), (4, .int (nI i)), (3, .ref (fk_a g 110)), (2, .ref (fk_a g 89)), (1, .ref (fk_a g 0)), (0, .ref b)]) S.1 S.2.1 d_L_law_248 hl (by decide) rfl (fun ls hl => ?_)
  refine lv_aload_n S.1 S.2.1 d_L_law_250 rfl (lv_at hl 3 rfl) ?_
  refine lv_aload_n S.1 S.2.1 d_L_law_251 rfl (lv_at hl 5 rfl) ?_
  refine lv_iload S.1 S.2.1 d_L_law_252 (lv_at hl 1 rfl) ?_
  refine lv_iconst (v := nI 1) S.1 S.2.1 d_L_law_254 (by decide +kernel) ?_
  refine fk_iadd S.1 S.2.1 d_L_law_255 ?_
  refine fk_sl S hX hbl hbA G (i + 1) (by omega) hL d_L_law_256 ?_
  refine lv_i2l (v := (xs (i + 1)).toInt64) S.1 S.2.1 d_L_law_257 rfl ?_
  refine lv_bipush (v := nI 32) S.1 S.2.1 d_L_law_258 (by decide +kernel) ?_
  refine lv_lshl (v := ((xs (i + 1)).toInt64) <<< ((nI 32).toInt64 &&& 63)) S.1 S.2.1 d_L_law_260 rfl ?_
  refine lv_aload_n S.1 S.2.1 d_L_law_261 rfl (lv_at hl 5 rfl) ?_
  refine lv_iload S.1 S.2.1 d_L_law_262 (lv_at hl 1 rfl) ?_
  refine lv_iconst (v := nI 2) S.1 S.2.1 d_L_law_264 (by decide +kernel) ?_
  refine fk_iadd S.1 S.2.1 d_L_law_265 ?_
  refine fk_sl S hX hbl hbA G (i + 2) (by omega) hL d_L_law_266 ?_
  refine lv_i2l (v := (xs (i + 2)).toInt64) S.1 S.2.1 d_L_law_267 rfl ?_
  refine lv_ldc2 S.1 S.2.1 (v := 4294967295) S.2.2.2.1 (S.2.2.2.2 _ (fk_mt (List.mem_of_getElem? (i := 858) (by decide +kernel)) (by decide +kernel))) d_L_law_268 ?_
  refine lv_land S.1 S.2.1 d_L_law_271 ?_
  refine lv_lor S.1 S.2.1 d_L_law_272 ?_
  refine lv_aload_n S.1 S.2.1 d_L_law_273 rfl (lv_at hl 5 rfl) ?_
  refine lv_iload S.1 S.2.1 d_L_law_274 (lv_at hl 1 rfl) ?_
  refine lv_iconst (v := nI 3) S.1 S.2.1 d_L_law_276 (by decide +kernel) ?_
  refine fk_iadd S.1 S.2.1 d_L_law_277 ?_
  refine fk_sl S hX hbl hbA G (i + 3) (by omega) hL d_L_law_278 ?_
  refine fk_cvv S E G 89 (by decide) (congrArg (fk_ce g ov9 89 (M8 89)) kd_89) rfl (rest := []) hq9 m_M_type i_736 ⟨rfl, rfl⟩ ⟨by show n9 + 1 ≤ 2048; omega, by show 8 + (6 + 11) + 64 * n9 ≤ 84000; omega⟩ rfl rfl hl.1 (Nat.le_of_ble_eq_true rfl) d_L_law_279 ⟨Nat.le_trans (Nat.le_refl _) hf1, Nat.le_trans (Nat.le_refl _) hf2⟩ (fun H locs G => ?_)
  refine lv_aload_n S.1 S.2.1 d_L_law_282 rfl (lv_at hl 3 rfl) ?_
  refine fk_cvi S E G 89 (by decide) (congrArg (fk_ce g ov9 89 (M9 89)) kd_89) rfl (rest := []) (c_M_thrown l g ov9 M9) m_M_thrown i_716 ⟨rfl, rfl⟩ ⟨by decide, by decide⟩ rfl rfl hl.1 (Nat.le_of_ble_eq_true rfl) d_L_law_283 ⟨Nat.le_trans (Nat.le_refl _) hf1, Nat.le_trans (Nat.le_refl _) hf2⟩ (fun H locs G => ?_)
  rw [hth]
  refine lv_iload S.1 S.2.1 d_L_law_286 (lv_at hl 0 rfl) ?_
  refine fk_ceq (tgt := 293) S.1 S.2.1 (by omega) (by omega) d_L_law_288 rfl (fun hc1 => ?_) (fun hc1 => ?_)
  · refine lv_goto (tgt := 742) S.1 S.2.1 d_L_law_293 rfl ?_
    exact nx ov9 M9 H locs ls _ _ (Nat.le_refl _) (Nat.le_refl _) hRn G (lv_sub hl [1, 2, 3, 4, 5] rfl)
  · exact absurd rfl hc1
set_option maxHeartbeats 4000000 in
set_option maxRecDepth 100000 in
theorem l_equation (hq9 : fk_lc p s m c g b L i cells slots xs) (hRel : Rr M) (G : fk_H g ov M s H locs) (hl : lv_has ls 7 (fk_lv g b i)) (ho : fk_o_equation l Rr) (nx : fk_nx p l e s m below meth c g b i cells slots Rr) : W p l e room_1 s m #[Value.ref b] below meth c H locs cells slots (lw_Z below #[Value.ref b] s) (F0 m 296 ls []) := by
  obtain ⟨S, E, Y, hX, hbl, hbA, hi, hL, hf1, hf2⟩ := hq9
  obtain ⟨k9, n9, M8, M9, ov9, b9, hk3, hn9, hq8, hq9, hth, hRn⟩ := ho g ov M hRel (xs (i + 1))
  refine lv_aload_n S.1 S.2.1 d_L_law_296 rfl (lv_at hl 3 rfl) ?_
  refine lv_aload_n S.1 S.2.1 d_L_law_297 rfl (lv_at hl 4 rfl) ?_
  refine lv_iload S.1 S.2.1 d_L_law_298 (lv_at hl 0 rfl) ?_
  refine lv_iconst (v := nI 1) S.1 S.2.1 d_L_law_300 (by decide +kernel) ?_
  refine fk_iadd S.1 S.2.1 d_L_law_301 ?_
  refine fk_sl S hX hbl hbA G (i + 1) (by omega) hL d_L_law_302 ?_
  refine fk_csw S E Y G (rest := []) (n := 2) hq8 w_L_equation i_477 i_0 (by decide +kernel) i_476 ⟨rfl, rfl⟩ ⟨by decide, by decide⟩ rfl rfl hl.1 (Nat.le_of_ble_eq_true rfl) d_L_law_303 ⟨hf1, hf2⟩ (fun H locs G => ?_)
  refine lv_istore (lv' := [(5, .int (nI k9)), (4, .int (nI i)), (3, .ref (fk_a g 110)), (2, .ref (fk_a g 89)), (1, .ref (fk_a g 0)), (0, .ref b)]) S.1 S.2.1 d_L_law_306 hl (by decide) rfl (fun ls hl => ?_)
  refine lv_aload_n S.1 S.2.1 d_L_law_308 rfl (lv_at hl 3 rfl) ?_
  refine lv_aload_n S.1 S.2.1 d_L_law_309 rfl (lv_at hl 5 rfl) ?_
  refine lv_iload S.1 S.2.1 d_L_law_310 (lv_at hl 1 rfl) ?_
  refine lv_iconst (v := nI 1) S.1 S.2.1 d_L_law_312 (by decide +kernel) ?_
  refine fk_iadd S.1 S.2.1 d_L_law_313 ?_
  refine fk_sl S hX hbl hbA G (i + 1) (by omega) hL d_L_law_314 ?_
  refine fk_cvv S E G 89 (by decide) (congrArg (fk_ce g ov9 89 (M8 89)) kd_89) rfl (rest := []) hq9 m_M_equation i_741 ⟨rfl, rfl⟩ ⟨by show n9 + 1 ≤ 2048; omega, by show 8 + (5 + 11) + 64 * n9 ≤ 84000; omega⟩ rfl rfl hl.1 (Nat.le_of_ble_eq_true rfl) d_L_law_315 ⟨Nat.le_trans (Nat.le_refl _) hf1, Nat.le_trans (Nat.le_refl _) hf2⟩ (fun H locs G => ?_)
  refine lv_aload_n S.1 S.2.1 d_L_law_318 rfl (lv_at hl 3 rfl) ?_
  refine fk_cvi S E G 89 (by decide) (congrArg (fk_ce g ov9 89 (M9 89)) kd_89) rfl (rest := []) (c_M_thrown l g ov9 M9) m_M_thrown i_716 ⟨rfl, rfl⟩ ⟨by decide, by decide⟩ rfl rfl hl.1 (Nat.le_of_ble_eq_true rfl) d_L_law_319 ⟨Nat.le_trans (Nat.le_refl _) hf1, Nat.le_trans (Nat.le_refl _) hf2⟩ (fun H locs G => ?_)
  rw [hth]
  refine lv_iload S.1 S.2.1 d_L_law_322 (lv_at hl 0 rfl) ?_
  refine fk_ceq (tgt := 329) S.1 S.2.1 (by omega) (by omega) d_L_law_324 rfl (fun hc1 => ?_) (fun hc1 => ?_)
  · refine lv_goto (tgt := 742) S.1 S.2.1 d_L_law_329 rfl ?_
    exact nx ov9 M9 H locs ls _ _ (Nat.le_refl _) (Nat.le_refl _) hRn G (lv_sub hl [1, 2, 3, 4, 5] rfl)
  · exact absurd rfl hc1
set_option maxHeartbeats 4000000 in
set_option maxRecDepth 100000 in
theorem l_fault (hq9 : fk_lc p s m c g b L i cells slots xs) (hRel : Rr M) (G : fk_H g ov M s H locs) (hl : lv_has ls 7 (fk_lv g b i)) (ho : fk_o_fault l Rr) (nx : fk_nx p l e s m below meth c g b i cells slots Rr) : W p l e room_1 s m #[Value.ref b] below meth c H locs cells slots (lw_Z below #[Value.ref b] s) (F0 m 345 ls []) := by
  obtain ⟨S, E, Y, hX, hbl, hbA, hi, hL, hf1, hf2⟩ := hq9
  obtain ⟨k9, n9, M8, M9, ov9, b9, hk3, hn9, hq8, hq9, hth, hans, hRn⟩ := ho g ov M hRel (xs (i + 1))
  refine lv_aload_n S.1 S.2.1 d_L_law_345 rfl (lv_at hl 3 rfl) ?_
  refine lv_aload_n S.1 S.2.1 d_L_law_346 rfl (lv_at hl 4 rfl) ?_
  refine lv_iload S.1 S.2.1 d_L_law_347 (lv_at hl 0 rfl) ?_
  refine lv_iconst (v := nI 1) S.1 S.2.1 d_L_law_349 (by decide +kernel) ?_
  refine fk_iadd S.1 S.2.1 d_L_law_350 ?_
  refine fk_sl S hX hbl hbA G (i + 1) (by omega) hL d_L_law_351 ?_
  refine lv_aload_n S.1 S.2.1 d_L_law_352 rfl (lv_at hl 1 rfl) ?_
  refine fk_csw S E Y G (rest := []) (n := 3) hq8 w_L_fault i_497 i_0 (by decide +kernel) i_496 ⟨rfl, rfl⟩ ⟨by decide, by decide⟩ rfl rfl hl.1 (Nat.le_of_ble_eq_true rfl) d_L_law_353 ⟨hf1, hf2⟩ (fun H locs G => ?_)
  refine lv_istore (lv' := [(5, .int (nI k9)), (4, .int (nI i)), (3, .ref (fk_a g 110)), (2, .ref (fk_a g 89)), (1, .ref (fk_a g 0)), (0, .ref b)]) S.1 S.2.1 d_L_law_356 hl (by decide) rfl (fun ls hl => ?_)
  refine lv_aload_n S.1 S.2.1 d_L_law_358 rfl (lv_at hl 3 rfl) ?_
  refine lv_aload_n S.1 S.2.1 d_L_law_359 rfl (lv_at hl 5 rfl) ?_
  refine lv_iload S.1 S.2.1 d_L_law_360 (lv_at hl 1 rfl) ?_
  refine lv_iconst (v := nI 1) S.1 S.2.1 d_L_law_362 (by decide +kernel) ?_
  refine fk_iadd S.1 S.2.1 d_L_law_363 ?_
  refine fk_sl S hX hbl hbA G (i + 1) (by omega) hL d_L_law_364 ?_
  refine fk_cvi S E G 89 (by decide) (congrArg (fk_ce g ov9 89 (M8 89)) kd_89) rfl (rest := []) hq9 m_M_fault i_803 ⟨rfl, rfl⟩ ⟨by show n9 + 1 ≤ 2048; omega, by show 8 + (2 + 11) + 64 * n9 ≤ 84000; omega⟩ rfl rfl hl.1 (Nat.le_of_ble_eq_true rfl) d_L_law_365 ⟨Nat.le_trans (Nat.le_refl _) hf1, Nat.le_trans (Nat.le_refl _) hf2⟩ (fun H locs G => ?_)
  refine lv_istore (lv' := [(6, .int b9), (5, .int (nI k9)), (4, .int (nI i)), (3, .ref (fk_a g 110)), (2, .ref (fk_a g 89)), (1, .ref (fk_a g 0)), (0, .ref b)]) S.1 S.2.1 d_L_law_368 hl (by decide) rfl (fun ls hl => ?_)
  refine lv_aload_n S.1 S.2.1 d_L_law_370 rfl (lv_at hl 4 rfl) ?_
  refine fk_cvi S E G 89 (by decide) (congrArg (fk_ce g ov9 89 (M9 89)) kd_89) rfl (rest := []) (c_M_thrown l g ov9 M9) m_M_thrown i_716 ⟨rfl, rfl⟩ ⟨by decide, by decide⟩ rfl rfl hl.1 (Nat.le_of_ble_eq_true rfl) d_L_law_371 ⟨Nat.le_trans (Nat.le_refl _) hf1, Nat.le_trans (Nat.le_refl _) hf2⟩ (fun H locs G => ?_)
  rw [hth]
  refine lv_iload S.1 S.2.1 d_L_law_374 (lv_at hl 1 rfl) ?_
  refine fk_ceq (tgt := 381) S.1 S.2.1 (by omega) (by omega) d_L_law_376 rfl (fun hc1 => ?_) (fun hc1 => ?_)
  · refine lv_iload S.1 S.2.1 d_L_law_381 (lv_at hl 1 rfl) ?_
    refine fk_zne (tgt := 398) S.1 S.2.1 (by omega) d_L_law_383 rfl (fun hc2 => ?_) (fun hc2 => ?_)
    · refine lv_goto (tgt := 742) S.1 S.2.1 d_L_law_398 rfl ?_
      exact nx ov9 M9 H locs ls _ _ (Nat.le_refl _) (Nat.le_refl _) hRn G (lv_sub hl [2, 3, 4, 5, 6] rfl)
    · refine lv_aload_n S.1 S.2.1 d_L_law_386 rfl (lv_at hl 3 rfl) ?_
      refine lv_iconst (v := nI 0) S.1 S.2.1 d_L_law_387 (by decide +kernel) ?_
      refine fk_ll S E G d_L_law_388 ?_
      refine lv_iload S.1 S.2.1 d_L_law_389 (lv_at hl 0 rfl) ?_
      refine lv_i2l (v := (b9).toInt64) S.1 S.2.1 d_L_law_391 rfl ?_
      refine W.lcmp S.1 S.2.1 d_L_law_392 ?_
      have hz : lg_cmp ov9 ((b9).toInt64) = 0 := by
        rw [hans hc2]
        simp [lg_cmp]
      rw [hz]
      refine lv_if_eq (tgt := 398) S.1 S.2.1 d_L_law_393 rfl (fun hc3 => ?_) (fun hc3 => ?_)
      · refine lv_goto (tgt := 742) S.1 S.2.1 d_L_law_398 rfl ?_
        exact nx ov9 M9 H locs ls _ _ (Nat.le_refl _) (Nat.le_refl _) hRn G (lv_sub hl [2, 3, 4, 5, 6] rfl)
      · exact absurd rfl hc3
  · exact absurd rfl hc1
set_option maxHeartbeats 4000000 in
set_option maxRecDepth 100000 in
theorem l_order (hq9 : fk_lc p s m c g b L i cells slots xs) (hRel : Rr M) (G : fk_H g ov M s H locs) (hl : lv_has ls 7 (fk_lv g b i)) (ho : fk_o_order l Rr) (nx : fk_nx p l e s m below meth c g b i cells slots Rr) : W p l e room_1 s m #[Value.ref b] below meth c H locs cells slots (lw_Z below #[Value.ref b] s) (F0 m 401 ls []) := by
  obtain ⟨S, E, Y, hX, hbl, hbA, hi, hL, hf1, hf2⟩ := hq9
  obtain ⟨k9, n9, M8, M9, ov9, b9, hk3, hn9, hq8, hq9, hth, hans, hRn⟩ := ho g ov M hRel (xs (i + 1))
  refine lv_aload_n S.1 S.2.1 d_L_law_401 rfl (lv_at hl 3 rfl) ?_
  refine lv_aload_n S.1 S.2.1 d_L_law_402 rfl (lv_at hl 4 rfl) ?_
  refine lv_iload S.1 S.2.1 d_L_law_403 (lv_at hl 0 rfl) ?_
  refine lv_iconst (v := nI 1) S.1 S.2.1 d_L_law_405 (by decide +kernel) ?_
  refine fk_iadd S.1 S.2.1 d_L_law_406 ?_
  refine fk_sl S hX hbl hbA G (i + 1) (by omega) hL d_L_law_407 ?_
  refine lv_aload_n S.1 S.2.1 d_L_law_408 rfl (lv_at hl 1 rfl) ?_
  refine fk_csw S E Y G (rest := []) (n := 3) hq8 w_L_order i_505 i_0 (by decide +kernel) i_504 ⟨rfl, rfl⟩ ⟨by decide, by decide⟩ rfl rfl hl.1 (Nat.le_of_ble_eq_true rfl) d_L_law_409 ⟨hf1, hf2⟩ (fun H locs G => ?_)
  refine lv_istore (lv' := [(5, .int (nI k9)), (4, .int (nI i)), (3, .ref (fk_a g 110)), (2, .ref (fk_a g 89)), (1, .ref (fk_a g 0)), (0, .ref b)]) S.1 S.2.1 d_L_law_412 hl (by decide) rfl (fun ls hl => ?_)
  refine lv_aload_n S.1 S.2.1 d_L_law_414 rfl (lv_at hl 3 rfl) ?_
  refine lv_aload_n S.1 S.2.1 d_L_law_415 rfl (lv_at hl 5 rfl) ?_
  refine lv_iload S.1 S.2.1 d_L_law_416 (lv_at hl 1 rfl) ?_
  refine lv_iconst (v := nI 1) S.1 S.2.1 d_L_law_418 (by decide +kernel) ?_
  refine fk_iadd S.1 S.2.1 d_L_law_419 ?_
  refine fk_sl S hX hbl hbA G (i + 1) (by omega) hL d_L_law_420 ?_
  refine fk_cvi S E G 89 (by decide) (congrArg (fk_ce g ov9 89 (M8 89)) kd_89) rfl (rest := []) hq9 m_M_order i_807 ⟨rfl, rfl⟩ ⟨by show n9 + 1 ≤ 2048; omega, by show 8 + (2 + 11) + 64 * n9 ≤ 84000; omega⟩ rfl rfl hl.1 (Nat.le_of_ble_eq_true rfl) d_L_law_421 ⟨Nat.le_trans (Nat.le_refl _) hf1, Nat.le_trans (Nat.le_refl _) hf2⟩ (fun H locs G => ?_)
  refine lv_istore (lv' := [(6, .int b9), (5, .int (nI k9)), (4, .int (nI i)), (3, .ref (fk_a g 110)), (2, .ref (fk_a g 89)), (1, .ref (fk_a g 0)), (0, .ref b)]) S.1 S.2.1 d_L_law_424 hl (by decide) rfl (fun ls hl => ?_)
  refine lv_aload_n S.1 S.2.1 d_L_law_426 rfl (lv_at hl 4 rfl) ?_
  refine fk_cvi S E G 89 (by decide) (congrArg (fk_ce g ov9 89 (M9 89)) kd_89) rfl (rest := []) (c_M_thrown l g ov9 M9) m_M_thrown i_716 ⟨rfl, rfl⟩ ⟨by decide, by decide⟩ rfl rfl hl.1 (Nat.le_of_ble_eq_true rfl) d_L_law_427 ⟨Nat.le_trans (Nat.le_refl _) hf1, Nat.le_trans (Nat.le_refl _) hf2⟩ (fun H locs G => ?_)
  rw [hth]
  refine lv_iload S.1 S.2.1 d_L_law_430 (lv_at hl 1 rfl) ?_
  refine fk_ceq (tgt := 437) S.1 S.2.1 (by omega) (by omega) d_L_law_432 rfl (fun hc1 => ?_) (fun hc1 => ?_)
  · refine lv_iload S.1 S.2.1 d_L_law_437 (lv_at hl 1 rfl) ?_
    refine fk_zne (tgt := 454) S.1 S.2.1 (by omega) d_L_law_439 rfl (fun hc2 => ?_) (fun hc2 => ?_)
    · refine lv_goto (tgt := 742) S.1 S.2.1 d_L_law_454 rfl ?_
      exact nx ov9 M9 H locs ls _ _ (Nat.le_refl _) (Nat.le_refl _) hRn G (lv_sub hl [2, 3, 4, 5, 6] rfl)
    · refine lv_aload_n S.1 S.2.1 d_L_law_442 rfl (lv_at hl 3 rfl) ?_
      refine lv_iconst (v := nI 0) S.1 S.2.1 d_L_law_443 (by decide +kernel) ?_
      refine fk_ll S E G d_L_law_444 ?_
      refine lv_iload S.1 S.2.1 d_L_law_445 (lv_at hl 0 rfl) ?_
      refine lv_i2l (v := (b9).toInt64) S.1 S.2.1 d_L_law_447 rfl ?_
      refine W.lcmp S.1 S.2.1 d_L_law_448 ?_
      have hz : lg_cmp ov9 ((b9).toInt64) = 0 := by
        rw [hans hc2]
        simp [lg_cmp]
      rw [hz]
      refine lv_if_eq (tgt := 454) S.1 S.2.1 d_L_law_449 rfl (fun hc3 => ?_) (fun hc3 => ?_)
      · refine lv_goto (tgt := 742) S.1 S.2.1 d_L_law_454 rfl ?_
        exact nx ov9 M9 H locs ls _ _ (Nat.le_refl _) (Nat.le_refl _) hRn G (lv_sub hl [2, 3, 4, 5, 6] rfl)
      · exact absurd rfl hc3
  · exact absurd rfl hc1
set_option maxHeartbeats 4000000 in
set_option maxRecDepth 100000 in
theorem l_set (hq9 : fk_lc p s m c g b L i cells slots xs) (hRel : Rr M) (G : fk_H g ov M s H locs) (hl : lv_has ls 7 (fk_lv g b i)) (ho : fk_o_set l Rr) (nx : fk_nx p l e s m below meth c g b i cells slots Rr) : W p l e room_1 s m #[Value.ref b] below meth c H locs cells slots (lw_Z below #[Value.ref b] s) (F0 m 457 ls []) := by
  obtain ⟨S, E, Y, hX, hbl, hbA, hi, hL, hf1, hf2⟩ := hq9
  obtain ⟨k9, n9, M8, M9, ov9, b9, hk3, hn9, hq8, hq9, hth, hRn⟩ := ho g ov M hRel (xs (i + 1)) (xs (i + 2))
  refine lv_aload_n S.1 S.2.1 d_L_law_457 rfl (lv_at hl 3 rfl) ?_
  refine lv_aload_n S.1 S.2.1 d_L_law_458 rfl (lv_at hl 4 rfl) ?_
  refine lv_iload S.1 S.2.1 d_L_law_459 (lv_at hl 0 rfl) ?_
  refine lv_iconst (v := nI 1) S.1 S.2.1 d_L_law_461 (by decide +kernel) ?_
  refine fk_iadd S.1 S.2.1 d_L_law_462 ?_
  refine fk_sl S hX hbl hbA G (i + 1) (by omega) hL d_L_law_463 ?_
  refine lv_aload_n S.1 S.2.1 d_L_law_464 rfl (lv_at hl 4 rfl) ?_
  refine lv_iload S.1 S.2.1 d_L_law_465 (lv_at hl 0 rfl) ?_
  refine lv_iconst (v := nI 2) S.1 S.2.1 d_L_law_467 (by decide +kernel) ?_
  refine fk_iadd S.1 S.2.1 d_L_law_468 ?_
  refine fk_sl S hX hbl hbA G (i + 2) (by omega) hL d_L_law_469 ?_
  refine fk_csw S E Y G (rest := []) (n := 3) hq8 w_L_set i_530 i_0 (by decide +kernel) i_529 ⟨rfl, rfl⟩ ⟨by decide, by decide⟩ rfl rfl hl.1 (Nat.le_of_ble_eq_true rfl) d_L_law_470 ⟨hf1, hf2⟩ (fun H locs G => ?_)
  refine lv_istore (lv' := [(5, .int (nI k9)), (4, .int (nI i)), (3, .ref (fk_a g 110)), (2, .ref (fk_a g 89)), (1, .ref (fk_a g 0)), (0, .ref b)]) S.1 S.2.1 d_L_law_473 hl (by decide) rfl (fun ls hl => ?_)
  refine lv_aload_n S.1 S.2.1 d_L_law_475 rfl (lv_at hl 3 rfl) ?_
  refine lv_aload_n S.1 S.2.1 d_L_law_476 rfl (lv_at hl 5 rfl) ?_
  refine lv_iload S.1 S.2.1 d_L_law_477 (lv_at hl 1 rfl) ?_
  refine lv_iconst (v := nI 1) S.1 S.2.1 d_L_law_479 (by decide +kernel) ?_
  refine fk_iadd S.1 S.2.1 d_L_law_480 ?_
  refine fk_sl S hX hbl hbA G (i + 1) (by omega) hL d_L_law_481 ?_
  refine lv_aload_n S.1 S.2.1 d_L_law_482 rfl (lv_at hl 5 rfl) ?_
  refine lv_iload S.1 S.2.1 d_L_law_483 (lv_at hl 1 rfl) ?_
  refine lv_iconst (v := nI 2) S.1 S.2.1 d_L_law_485 (by decide +kernel) ?_
  refine fk_iadd S.1 S.2.1 d_L_law_486 ?_
  refine fk_sl S hX hbl hbA G (i + 2) (by omega) hL d_L_law_487 ?_
  refine fk_cvv S E G 89 (by decide) (congrArg (fk_ce g ov9 89 (M8 89)) kd_89) rfl (rest := []) hq9 m_M_set i_811 ⟨rfl, rfl⟩ ⟨by show n9 + 1 ≤ 2048; omega, by show 8 + (3 + 11) + 64 * n9 ≤ 84000; omega⟩ rfl rfl hl.1 (Nat.le_of_ble_eq_true rfl) d_L_law_488 ⟨Nat.le_trans (Nat.le_refl _) hf1, Nat.le_trans (Nat.le_refl _) hf2⟩ (fun H locs G => ?_)
  refine lv_aload_n S.1 S.2.1 d_L_law_491 rfl (lv_at hl 3 rfl) ?_
  refine fk_cvi S E G 89 (by decide) (congrArg (fk_ce g ov9 89 (M9 89)) kd_89) rfl (rest := []) (c_M_thrown l g ov9 M9) m_M_thrown i_716 ⟨rfl, rfl⟩ ⟨by decide, by decide⟩ rfl rfl hl.1 (Nat.le_of_ble_eq_true rfl) d_L_law_492 ⟨Nat.le_trans (Nat.le_refl _) hf1, Nat.le_trans (Nat.le_refl _) hf2⟩ (fun H locs G => ?_)
  rw [hth]
  refine lv_iload S.1 S.2.1 d_L_law_495 (lv_at hl 0 rfl) ?_
  refine fk_ceq (tgt := 502) S.1 S.2.1 (by omega) (by omega) d_L_law_497 rfl (fun hc1 => ?_) (fun hc1 => ?_)
  · refine lv_goto (tgt := 742) S.1 S.2.1 d_L_law_502 rfl ?_
    exact nx ov9 M9 H locs ls _ _ (Nat.le_refl _) (Nat.le_refl _) hRn G (lv_sub hl [1, 2, 3, 4, 5] rfl)
  · exact absurd rfl hc1
set_option maxHeartbeats 4000000 in
set_option maxRecDepth 100000 in
theorem l_instants {Rs : fk_M → Prop} (hq9 : fk_lc p s m c g b L i cells slots xs) (hRel : Rr M) (G : fk_H g ov M s H locs) (hl : lv_has ls 7 (fk_lv g b i)) (ho : fk_o_instants l Rr Rs) (nx : fk_nx p l e s m below meth c g b i cells slots Rs) : W p l e room_1 s m #[Value.ref b] below meth c H locs cells slots (lw_Z below #[Value.ref b] s) (F0 m 505 ls []) := by
  obtain ⟨S, E, Y, hX, hbl, hbA, hi, hL, hf1, hf2⟩ := hq9
  obtain ⟨k9, n9, M8, M9, ov9, b9, hk3, hn9, hq8, hq9, hth, hRn⟩ := ho g ov M hRel (xs (i + 1))
  refine lv_aload_n S.1 S.2.1 d_L_law_505 rfl (lv_at hl 3 rfl) ?_
  refine lv_aload_n S.1 S.2.1 d_L_law_506 rfl (lv_at hl 4 rfl) ?_
  refine lv_iload S.1 S.2.1 d_L_law_507 (lv_at hl 0 rfl) ?_
  refine lv_iconst (v := nI 1) S.1 S.2.1 d_L_law_509 (by decide +kernel) ?_
  refine fk_iadd S.1 S.2.1 d_L_law_510 ?_
  refine fk_sl S hX hbl hbA G (i + 1) (by omega) hL d_L_law_511 ?_
  refine fk_csw S E Y G (rest := []) (n := 2) hq8 w_L_instants i_538 i_0 (by decide +kernel) i_537 ⟨rfl, rfl⟩ ⟨by decide, by decide⟩ rfl rfl hl.1 (Nat.le_of_ble_eq_true rfl) d_L_law_512 ⟨hf1, hf2⟩ (fun H locs G => ?_)
  refine lv_istore (lv' := [(5, .int (nI k9)), (4, .int (nI i)), (3, .ref (fk_a g 110)), (2, .ref (fk_a g 89)), (1, .ref (fk_a g 0)), (0, .ref b)]) S.1 S.2.1 d_L_law_515 hl (by decide) rfl (fun ls hl => ?_)
  refine lv_aload_n S.1 S.2.1 d_L_law_517 rfl (lv_at hl 3 rfl) ?_
  refine lv_aload_n S.1 S.2.1 d_L_law_518 rfl (lv_at hl 5 rfl) ?_
  refine lv_iload S.1 S.2.1 d_L_law_519 (lv_at hl 1 rfl) ?_
  refine lv_iconst (v := nI 1) S.1 S.2.1 d_L_law_521 (by decide +kernel) ?_
  refine fk_iadd S.1 S.2.1 d_L_law_522 ?_
  refine fk_sl S hX hbl hbA G (i + 1) (by omega) hL d_L_law_523 ?_
  refine fk_cvv S E G 89 (by decide) (congrArg (fk_ce g ov9 89 (M8 89)) kd_89) rfl (rest := []) hq9 m_M_instants i_815 ⟨rfl, rfl⟩ ⟨by show n9 + 1 ≤ 2048; omega, by show 8 + (3 + 11) + 64 * n9 ≤ 84000; omega⟩ rfl rfl hl.1 (Nat.le_of_ble_eq_true rfl) d_L_law_524 ⟨Nat.le_trans (Nat.le_refl _) hf1, Nat.le_trans (Nat.le_refl _) hf2⟩ (fun H locs G => ?_)
  refine lv_aload_n S.1 S.2.1 d_L_law_527 rfl (lv_at hl 3 rfl) ?_
  refine fk_cvi S E G 89 (by decide) (congrArg (fk_ce g ov9 89 (M9 89)) kd_89) rfl (rest := []) (c_M_thrown l g ov9 M9) m_M_thrown i_716 ⟨rfl, rfl⟩ ⟨by decide, by decide⟩ rfl rfl hl.1 (Nat.le_of_ble_eq_true rfl) d_L_law_528 ⟨Nat.le_trans (Nat.le_refl _) hf1, Nat.le_trans (Nat.le_refl _) hf2⟩ (fun H locs G => ?_)
  rw [hth]
  refine lv_iload S.1 S.2.1 d_L_law_531 (lv_at hl 0 rfl) ?_
  refine fk_ceq (tgt := 538) S.1 S.2.1 (by omega) (by omega) d_L_law_533 rfl (fun hc1 => ?_) (fun hc1 => ?_)
  · refine lv_goto (tgt := 742) S.1 S.2.1 d_L_law_538 rfl ?_
    exact nx ov9 M9 H locs ls _ _ (Nat.le_refl _) (Nat.le_refl _) hRn G (lv_sub hl [1, 2, 3, 4, 5] rfl)
  · exact absurd rfl hc1
set_option maxHeartbeats 4000000 in
set_option maxRecDepth 100000 in
theorem l_present (hq9 : fk_lc p s m c g b L i cells slots xs) (hRel : Rr M) (G : fk_H g ov M s H locs) (hl : lv_has ls 7 (fk_lv g b i)) (ho : fk_o_present l Rr) (nx : fk_nx p l e s m below meth c g b i cells slots Rr) : W p l e room_1 s m #[Value.ref b] below meth c H locs cells slots (lw_Z below #[Value.ref b] s) (F0 m 554 ls []) := by
  obtain ⟨S, E, Y, hX, hbl, hbA, hi, hL, hf1, hf2⟩ := hq9
  obtain ⟨k9, n9, M8, M9, ov9, b9, hk3, hn9, hq8, hq9, hth, hans, hb01, hRn⟩ := ho g ov M hRel (xs (i + 1))
  refine lv_aload_n S.1 S.2.1 d_L_law_554 rfl (lv_at hl 3 rfl) ?_
  refine lv_aload_n S.1 S.2.1 d_L_law_555 rfl (lv_at hl 4 rfl) ?_
  refine lv_iload S.1 S.2.1 d_L_law_556 (lv_at hl 0 rfl) ?_
  refine lv_iconst (v := nI 1) S.1 S.2.1 d_L_law_558 (by decide +kernel) ?_
  refine fk_iadd S.1 S.2.1 d_L_law_559 ?_
  refine fk_sl S hX hbl hbA G (i + 1) (by omega) hL d_L_law_560 ?_
  refine lv_aload_n S.1 S.2.1 d_L_law_561 rfl (lv_at hl 1 rfl) ?_
  refine fk_csw S E Y G (rest := []) (n := 3) hq8 w_L_present i_590 i_0 (by decide +kernel) i_589 ⟨rfl, rfl⟩ ⟨by decide, by decide⟩ rfl rfl hl.1 (Nat.le_of_ble_eq_true rfl) d_L_law_562 ⟨hf1, hf2⟩ (fun H locs G => ?_)
  refine lv_istore (lv' := [(5, .int (nI k9)), (4, .int (nI i)), (3, .ref (fk_a g 110)), (2, .ref (fk_a g 89)), (1, .ref (fk_a g 0)), (0, .ref b)]) S.1 S.2.1 d_L_law_565 hl (by decide) rfl (fun ls hl => ?_)
  refine lv_aload_n S.1 S.2.1 d_L_law_567 rfl (lv_at hl 3 rfl) ?_
  refine lv_aload_n S.1 S.2.1 d_L_law_568 rfl (lv_at hl 5 rfl) ?_
  refine lv_iload S.1 S.2.1 d_L_law_569 (lv_at hl 1 rfl) ?_
  refine lv_iconst (v := nI 1) S.1 S.2.1 d_L_law_571 (by decide +kernel) ?_
  refine fk_iadd S.1 S.2.1 d_L_law_572 ?_
  refine fk_sl S hX hbl hbA G (i + 1) (by omega) hL d_L_law_573 ?_
  refine fk_cvi S E G 89 (by decide) (congrArg (fk_ce g ov9 89 (M8 89)) kd_89) rfl (rest := []) hq9 m_M_present i_842 ⟨rfl, rfl⟩ ⟨by show n9 + 1 ≤ 2048; omega, by show 8 + (2 + 11) + 64 * n9 ≤ 84000; omega⟩ rfl rfl hl.1 (Nat.le_of_ble_eq_true rfl) d_L_law_574 ⟨Nat.le_trans (Nat.le_refl _) hf1, Nat.le_trans (Nat.le_refl _) hf2⟩ (fun H locs G => ?_)
  refine lv_istore (lv' := [(6, .int b9), (5, .int (nI k9)), (4, .int (nI i)), (3, .ref (fk_a g 110)), (2, .ref (fk_a g 89)), (1, .ref (fk_a g 0)), (0, .ref b)]) S.1 S.2.1 d_L_law_577 hl (by decide) rfl (fun ls hl => ?_)
  refine lv_aload_n S.1 S.2.1 d_L_law_579 rfl (lv_at hl 4 rfl) ?_
  refine fk_cvi S E G 89 (by decide) (congrArg (fk_ce g ov9 89 (M9 89)) kd_89) rfl (rest := []) (c_M_thrown l g ov9 M9) m_M_thrown i_716 ⟨rfl, rfl⟩ ⟨by decide, by decide⟩ rfl rfl hl.1 (Nat.le_of_ble_eq_true rfl) d_L_law_580 ⟨Nat.le_trans (Nat.le_refl _) hf1, Nat.le_trans (Nat.le_refl _) hf2⟩ (fun H locs G => ?_)
  rw [hth]
  refine lv_iload S.1 S.2.1 d_L_law_583 (lv_at hl 1 rfl) ?_
  refine fk_ceq (tgt := 590) S.1 S.2.1 (by omega) (by omega) d_L_law_585 rfl (fun hc1 => ?_) (fun hc1 => ?_)
  · refine lv_iload S.1 S.2.1 d_L_law_590 (lv_at hl 1 rfl) ?_
    refine fk_zne (tgt := 614) S.1 S.2.1 (by omega) d_L_law_592 rfl (fun hc2 => ?_) (fun hc2 => ?_)
    · refine lv_goto (tgt := 742) S.1 S.2.1 d_L_law_614 rfl ?_
      exact nx ov9 M9 H locs ls _ _ (Nat.le_refl _) (Nat.le_refl _) hRn G (lv_sub hl [2, 3, 4, 5, 6] rfl)
    · refine lv_aload_n S.1 S.2.1 d_L_law_595 rfl (lv_at hl 3 rfl) ?_
      refine lv_iconst (v := nI 0) S.1 S.2.1 d_L_law_596 (by decide +kernel) ?_
      refine fk_ll S E G d_L_law_597 ?_
      refine lv_iload S.1 S.2.1 d_L_law_598 (lv_at hl 0 rfl) ?_
      refine lv_if_eq (tgt := 607) S.1 S.2.1 d_L_law_600 rfl (fun hc3 => ?_) (fun hc3 => ?_)
      · refine lv_lconst (v := 0) S.1 S.2.1 d_L_law_607 (by decide +kernel) ?_
        refine W.lcmp S.1 S.2.1 d_L_law_608 ?_
        have hz : lg_cmp ov9 (0) = 0 := by
          rw [hans hc2, hc3, show Int32.toInt64 0 = 0 by decide +kernel]
          simp [lg_cmp]
        rw [hz]
        refine lv_if_eq (tgt := 614) S.1 S.2.1 d_L_law_609 rfl (fun hc4 => ?_) (fun hc4 => ?_)
        · refine lv_goto (tgt := 742) S.1 S.2.1 d_L_law_614 rfl ?_
          exact nx ov9 M9 H locs ls _ _ (Nat.le_refl _) (Nat.le_refl _) hRn G (lv_sub hl [2, 3, 4, 5, 6] rfl)
        · exact absurd rfl hc4
      · have hb1 : b9 = 1 := hb01.resolve_left hc3
        refine lv_lconst (v := 1) S.1 S.2.1 d_L_law_603 (by decide +kernel) ?_
        refine lv_goto (tgt := 608) S.1 S.2.1 d_L_law_604 rfl ?_
        refine W.lcmp S.1 S.2.1 d_L_law_608 ?_
        have hz : lg_cmp ov9 (1) = 0 := by
          rw [hans hc2, hb1, show Int32.toInt64 1 = 1 by decide +kernel]
          simp [lg_cmp]
        rw [hz]
        refine lv_if_eq (tgt := 614) S.1 S.2.1 d_L_law_609 rfl (fun hc5 => ?_) (fun hc5 => ?_)
        · refine lv_goto (tgt := 742) S.1 S.2.1 d_L_law_614 rfl ?_
          exact nx ov9 M9 H locs ls _ _ (Nat.le_refl _) (Nat.le_refl _) hRn G (lv_sub hl [2, 3, 4, 5, 6] rfl)
        · exact absurd rfl hc5
  · exact absurd rfl hc1
set_option maxHeartbeats 4000000 in
set_option maxRecDepth 100000 in
theorem l_value (hq9 : fk_lc p s m c g b L i cells slots xs) (hRel : Rr M) (G : fk_H g ov M s H locs) (hl : lv_has ls 7 (fk_lv g b i)) (ho : fk_o_value l Rr) (nx : fk_nx p l e s m below meth c g b i cells slots Rr) : W p l e room_1 s m #[Value.ref b] below meth c H locs cells slots (lw_Z below #[Value.ref b] s) (F0 m 617 ls []) := by
  obtain ⟨S, E, Y, hX, hbl, hbA, hi, hL, hf1, hf2⟩ := hq9
  obtain ⟨k9, n9, M8, M9, ov9, b9, hk3, hn9, hq8, hq9, hth, hans, hRn⟩ := ho g ov M hRel (xs (i + 1))
  refine lv_aload_n S.1 S.2.1 d_L_law_617 rfl (lv_at hl 3 rfl) ?_
  refine lv_aload_n S.1 S.2.1 d_L_law_618 rfl (lv_at hl 4 rfl) ?_
  refine lv_iload S.1 S.2.1 d_L_law_619 (lv_at hl 0 rfl) ?_
  refine lv_iconst (v := nI 1) S.1 S.2.1 d_L_law_621 (by decide +kernel) ?_
  refine fk_iadd S.1 S.2.1 d_L_law_622 ?_
  refine fk_sl S hX hbl hbA G (i + 1) (by omega) hL d_L_law_623 ?_
  refine lv_aload_n S.1 S.2.1 d_L_law_624 rfl (lv_at hl 1 rfl) ?_
  refine fk_csw S E Y G (rest := []) (n := 3) hq8 w_L_value i_598 i_0 (by decide +kernel) i_597 ⟨rfl, rfl⟩ ⟨by decide, by decide⟩ rfl rfl hl.1 (Nat.le_of_ble_eq_true rfl) d_L_law_625 ⟨hf1, hf2⟩ (fun H locs G => ?_)
  refine lv_istore (lv' := [(5, .int (nI k9)), (4, .int (nI i)), (3, .ref (fk_a g 110)), (2, .ref (fk_a g 89)), (1, .ref (fk_a g 0)), (0, .ref b)]) S.1 S.2.1 d_L_law_628 hl (by decide) rfl (fun ls hl => ?_)
  refine lv_aload_n S.1 S.2.1 d_L_law_630 rfl (lv_at hl 3 rfl) ?_
  refine lv_aload_n S.1 S.2.1 d_L_law_631 rfl (lv_at hl 5 rfl) ?_
  refine lv_iload S.1 S.2.1 d_L_law_632 (lv_at hl 1 rfl) ?_
  refine lv_iconst (v := nI 1) S.1 S.2.1 d_L_law_634 (by decide +kernel) ?_
  refine fk_iadd S.1 S.2.1 d_L_law_635 ?_
  refine fk_sl S hX hbl hbA G (i + 1) (by omega) hL d_L_law_636 ?_
  refine fk_cvi S E G 89 (by decide) (congrArg (fk_ce g ov9 89 (M8 89)) kd_89) rfl (rest := []) hq9 m_M_value i_846 ⟨rfl, rfl⟩ ⟨by show n9 + 1 ≤ 2048; omega, by show 8 + (3 + 11) + 64 * n9 ≤ 84000; omega⟩ rfl rfl hl.1 (Nat.le_of_ble_eq_true rfl) d_L_law_637 ⟨Nat.le_trans (Nat.le_refl _) hf1, Nat.le_trans (Nat.le_refl _) hf2⟩ (fun H locs G => ?_)
  refine lv_istore (lv' := [(6, .int b9), (5, .int (nI k9)), (4, .int (nI i)), (3, .ref (fk_a g 110)), (2, .ref (fk_a g 89)), (1, .ref (fk_a g 0)), (0, .ref b)]) S.1 S.2.1 d_L_law_640 hl (by decide) rfl (fun ls hl => ?_)
  refine lv_aload_n S.1 S.2.1 d_L_law_642 rfl (lv_at hl 4 rfl) ?_
  refine fk_cvi S E G 89 (by decide) (congrArg (fk_ce g ov9 89 (M9 89)) kd_89) rfl (rest := []) (c_M_thrown l g ov9 M9) m_M_thrown i_716 ⟨rfl, rfl⟩ ⟨by decide, by decide⟩ rfl rfl hl.1 (Nat.le_of_ble_eq_true rfl) d_L_law_643 ⟨Nat.le_trans (Nat.le_refl _) hf1, Nat.le_trans (Nat.le_refl _) hf2⟩ (fun H locs G => ?_)
  rw [hth]
  refine lv_iload S.1 S.2.1 d_L_law_646 (lv_at hl 1 rfl) ?_
  refine fk_ceq (tgt := 653) S.1 S.2.1 (by omega) (by omega) d_L_law_648 rfl (fun hc1 => ?_) (fun hc1 => ?_)
  · refine lv_iload S.1 S.2.1 d_L_law_653 (lv_at hl 1 rfl) ?_
    refine fk_zne (tgt := 670) S.1 S.2.1 (by omega) d_L_law_655 rfl (fun hc2 => ?_) (fun hc2 => ?_)
    · refine lv_goto (tgt := 742) S.1 S.2.1 d_L_law_670 rfl ?_
      exact nx ov9 M9 H locs ls _ _ (Nat.le_refl _) (Nat.le_refl _) hRn G (lv_sub hl [2, 3, 4, 5, 6] rfl)
    · refine lv_aload_n S.1 S.2.1 d_L_law_658 rfl (lv_at hl 3 rfl) ?_
      refine lv_iconst (v := nI 0) S.1 S.2.1 d_L_law_659 (by decide +kernel) ?_
      refine fk_ll S E G d_L_law_660 ?_
      refine lv_iload S.1 S.2.1 d_L_law_661 (lv_at hl 0 rfl) ?_
      refine lv_i2l (v := (b9).toInt64) S.1 S.2.1 d_L_law_663 rfl ?_
      refine W.lcmp S.1 S.2.1 d_L_law_664 ?_
      have hz : lg_cmp ov9 ((b9).toInt64) = 0 := by
        rw [hans hc2]
        simp [lg_cmp]
      rw [hz]
      refine lv_if_eq (tgt := 670) S.1 S.2.1 d_L_law_665 rfl (fun hc3 => ?_) (fun hc3 => ?_)
      · refine lv_goto (tgt := 742) S.1 S.2.1 d_L_law_670 rfl ?_
        exact nx ov9 M9 H locs ls _ _ (Nat.le_refl _) (Nat.le_refl _) hRn G (lv_sub hl [2, 3, 4, 5, 6] rfl)
      · exact absurd rfl hc3
  · exact absurd rfl hc1
set_option maxHeartbeats 4000000 in
set_option maxRecDepth 100000 in
theorem l_seen (hq9 : fk_lc p s m c g b L i cells slots xs) (hRel : Rr M) (G : fk_H g ov M s H locs) (hl : lv_has ls 7 (fk_lv g b i)) (ho : fk_o_seen l Rr) (nx : fk_nx p l e s m below meth c g b i cells slots Rr) : W p l e room_1 s m #[Value.ref b] below meth c H locs cells slots (lw_Z below #[Value.ref b] s) (F0 m 673 ls []) := by
  obtain ⟨S, E, Y, hX, hbl, hbA, hi, hL, hf1, hf2⟩ := hq9
  obtain ⟨k9, n9, M8, M9, ov9, b9, hk3, hn9, hq8, hq9, hth, hans, hRn⟩ := ho g ov M hRel (xs (i + 1))
  refine lv_aload_n S.1 S.2.1 d_L_law_673 rfl (lv_at hl 3 rfl) ?_
  refine lv_aload_n S.1 S.2.1 d_L_law_674 rfl (lv_at hl 4 rfl) ?_
  refine lv_iload S.1 S.2.1 d_L_law_675 (lv_at hl 0 rfl) ?_
  refine lv_iconst (v := nI 1) S.1 S.2.1 d_L_law_677 (by decide +kernel) ?_
  refine fk_iadd S.1 S.2.1 d_L_law_678 ?_
  refine fk_sl S hX hbl hbA G (i + 1) (by omega) hL d_L_law_679 ?_
  refine lv_aload_n S.1 S.2.1 d_L_law_680 rfl (lv_at hl 1 rfl) ?_
  refine fk_csw S E Y G (rest := []) (n := 3) hq8 w_L_seen i_610 i_0 (by decide +kernel) i_609 ⟨rfl, rfl⟩ ⟨by decide, by decide⟩ rfl rfl hl.1 (Nat.le_of_ble_eq_true rfl) d_L_law_681 ⟨hf1, hf2⟩ (fun H locs G => ?_)
  refine lv_istore (lv' := [(5, .int (nI k9)), (4, .int (nI i)), (3, .ref (fk_a g 110)), (2, .ref (fk_a g 89)), (1, .ref (fk_a g 0)), (0, .ref b)]) S.1 S.2.1 d_L_law_684 hl (by decide) rfl (fun ls hl => ?_)
  refine lv_aload_n S.1 S.2.1 d_L_law_686 rfl (lv_at hl 3 rfl) ?_
  refine lv_aload_n S.1 S.2.1 d_L_law_687 rfl (lv_at hl 5 rfl) ?_
  refine lv_iload S.1 S.2.1 d_L_law_688 (lv_at hl 1 rfl) ?_
  refine lv_iconst (v := nI 1) S.1 S.2.1 d_L_law_690 (by decide +kernel) ?_
  refine fk_iadd S.1 S.2.1 d_L_law_691 ?_
  refine fk_sl S hX hbl hbA G (i + 1) (by omega) hL d_L_law_692 ?_
  refine fk_cvi S E G 89 (by decide) (congrArg (fk_ce g ov9 89 (M8 89)) kd_89) rfl (rest := []) hq9 m_M_seen i_850 ⟨rfl, rfl⟩ ⟨by show n9 + 1 ≤ 2048; omega, by show 8 + (2 + 11) + 64 * n9 ≤ 84000; omega⟩ rfl rfl hl.1 (Nat.le_of_ble_eq_true rfl) d_L_law_693 ⟨Nat.le_trans (Nat.le_refl _) hf1, Nat.le_trans (Nat.le_refl _) hf2⟩ (fun H locs G => ?_)
  refine lv_istore (lv' := [(6, .int b9), (5, .int (nI k9)), (4, .int (nI i)), (3, .ref (fk_a g 110)), (2, .ref (fk_a g 89)), (1, .ref (fk_a g 0)), (0, .ref b)]) S.1 S.2.1 d_L_law_696 hl (by decide) rfl (fun ls hl => ?_)
  refine lv_aload_n S.1 S.2.1 d_L_law_698 rfl (lv_at hl 4 rfl) ?_
  refine fk_cvi S E G 89 (by decide) (congrArg (fk_ce g ov9 89 (M9 89)) kd_89) rfl (rest := []) (c_M_thrown l g ov9 M9) m_M_thrown i_716 ⟨rfl, rfl⟩ ⟨by decide, by decide⟩ rfl rfl hl.1 (Nat.le_of_ble_eq_true rfl) d_L_law_699 ⟨Nat.le_trans (Nat.le_refl _) hf1, Nat.le_trans (Nat.le_refl _) hf2⟩ (fun H locs G => ?_)
  rw [hth]
  refine lv_iload S.1 S.2.1 d_L_law_702 (lv_at hl 1 rfl) ?_
  refine fk_ceq (tgt := 709) S.1 S.2.1 (by omega) (by omega) d_L_law_704 rfl (fun hc1 => ?_) (fun hc1 => ?_)
  · refine lv_iload S.1 S.2.1 d_L_law_709 (lv_at hl 1 rfl) ?_
    refine fk_zne (tgt := 726) S.1 S.2.1 (by omega) d_L_law_711 rfl (fun hc2 => ?_) (fun hc2 => ?_)
    · refine lv_goto (tgt := 742) S.1 S.2.1 d_L_law_726 rfl ?_
      exact nx ov9 M9 H locs ls _ _ (Nat.le_refl _) (Nat.le_refl _) hRn G (lv_sub hl [2, 3, 4, 5, 6] rfl)
    · refine lv_aload_n S.1 S.2.1 d_L_law_714 rfl (lv_at hl 3 rfl) ?_
      refine lv_iconst (v := nI 0) S.1 S.2.1 d_L_law_715 (by decide +kernel) ?_
      refine fk_ll S E G d_L_law_716 ?_
      refine lv_iload S.1 S.2.1 d_L_law_717 (lv_at hl 0 rfl) ?_
      refine lv_i2l (v := (b9).toInt64) S.1 S.2.1 d_L_law_719 rfl ?_
      refine W.lcmp S.1 S.2.1 d_L_law_720 ?_
      have hz : lg_cmp ov9 ((b9).toInt64) = 0 := by
        rw [hans hc2]
        simp [lg_cmp]
      rw [hz]
      refine lv_if_eq (tgt := 726) S.1 S.2.1 d_L_law_721 rfl (fun hc3 => ?_) (fun hc3 => ?_)
      · refine lv_goto (tgt := 742) S.1 S.2.1 d_L_law_726 rfl ?_
        exact nx ov9 M9 H locs ls _ _ (Nat.le_refl _) (Nat.le_refl _) hRn G (lv_sub hl [2, 3, 4, 5, 6] rfl)
      · exact absurd rfl hc3
  · exact absurd rfl hc1
set_option maxHeartbeats 4000000 in
set_option maxRecDepth 100000 in
theorem l_check (hq9 : fk_lc p s m c g b L i cells slots xs) (hRel : Rr M) (G : fk_H g ov M s H locs) (hl : lv_has ls 7 (fk_lv g b i)) (ho : fk_o_check l Rr) (nx : fk_nx p l e s m below meth c g b i cells slots Rr) : W p l e room_1 s m #[Value.ref b] below meth c H locs cells slots (lw_Z below #[Value.ref b] s) (F0 m 332 ls []) := by
  obtain ⟨S, E, Y, hX, hbl, hbA, hi, hL, hf1, hf2⟩ := hq9
  obtain ⟨n8, n9, M8, M9, b9, hn8, hn9, hq8, hq9, hRn⟩ := ho g ov M hRel
  refine lv_aload_n S.1 S.2.1 d_L_law_332 rfl (lv_at hl 3 rfl) ?_
  refine fk_cvi S E G 0 (by decide) (congrArg (fk_ce g ov 0 (M 0)) kd_0) rfl (rest := []) hq8 m_D_check i_217 ⟨rfl, rfl⟩ ⟨by show n8 + 1 ≤ 2048; omega, by show 8 + (1 + 11) + 64 * n8 ≤ 84000; omega⟩ rfl rfl hl.1 (Nat.le_of_ble_eq_true rfl) d_L_law_333 ⟨Nat.le_of_succ_le hf1, Nat.le_trans (Nat.le_add_right _ _) hf2⟩ (fun H locs G => ?_)
  refine lv_aload_n S.1 S.2.1 d_L_law_336 rfl (lv_at hl 2 rfl) ?_
  refine fk_cvi S E G 89 (by decide) (congrArg (fk_ce g ov 89 (M8 89)) kd_89) rfl (rest := [.int b9]) hq9 m_M_check i_763 ⟨rfl, rfl⟩ ⟨by show n9 + 1 ≤ 2048; omega, by show 8 + (3 + 11) + 64 * n9 ≤ 84000; omega⟩ rfl rfl hl.1 (Nat.le_of_ble_eq_true rfl) d_L_law_337 ⟨Nat.le_of_succ_le hf1, Nat.le_trans (Nat.le_add_right _ _) hf2⟩ (fun H locs G => ?_)
  refine lv_icmp_eq (tgt := 742) S.1 S.2.1 d_L_law_340 rfl (fun hc1 => ?_) (fun hc1 => ?_)
  · exact nx ov M9 H locs ls _ _ (Nat.le_succ _) (Nat.le_add_right _ _) hRn G (lv_sub hl [0, 1, 2, 3, 4] rfl)
  · exact absurd rfl hc1
set_option maxHeartbeats 4000000 in
set_option maxRecDepth 100000 in
theorem l_time (hq9 : fk_lc p s m c g b L i cells slots xs) (hRel : Rr M) (G : fk_H g ov M s H locs) (hl : lv_has ls 7 (fk_lv g b i)) (ho : fk_o_time l Rr) (nx : fk_nx p l e s m below meth c g b i cells slots Rr) : W p l e room_1 s m #[Value.ref b] below meth c H locs cells slots (lw_Z below #[Value.ref b] s) (F0 m 541 ls []) := by
  obtain ⟨S, E, Y, hX, hbl, hbA, hi, hL, hf1, hf2⟩ := hq9
  obtain ⟨n8, n9, M8, M9, b9, hn8, hn9, hq8, hq9, hRn⟩ := ho g ov M hRel
  refine lv_aload_n S.1 S.2.1 d_L_law_541 rfl (lv_at hl 3 rfl) ?_
  refine fk_cvi S E G 0 (by decide) (congrArg (fk_ce g ov 0 (M 0)) kd_0) rfl (rest := []) hq8 m_D_time i_344 ⟨rfl, rfl⟩ ⟨by show n8 + 1 ≤ 2048; omega, by show 8 + (1 + 11) + 64 * n8 ≤ 84000; omega⟩ rfl rfl hl.1 (Nat.le_of_ble_eq_true rfl) d_L_law_542 ⟨Nat.le_of_succ_le hf1, Nat.le_trans (Nat.le_add_right _ _) hf2⟩ (fun H locs G => ?_)
  refine lv_aload_n S.1 S.2.1 d_L_law_545 rfl (lv_at hl 2 rfl) ?_
  refine fk_cvi S E G 89 (by decide) (congrArg (fk_ce g ov 89 (M8 89)) kd_89) rfl (rest := [.int b9]) hq9 m_M_time i_838 ⟨rfl, rfl⟩ ⟨by show n9 + 1 ≤ 2048; omega, by show 8 + (1 + 11) + 64 * n9 ≤ 84000; omega⟩ rfl rfl hl.1 (Nat.le_of_ble_eq_true rfl) d_L_law_546 ⟨Nat.le_of_succ_le hf1, Nat.le_trans (Nat.le_add_right _ _) hf2⟩ (fun H locs G => ?_)
  refine lv_icmp_eq (tgt := 742) S.1 S.2.1 d_L_law_549 rfl (fun hc1 => ?_) (fun hc1 => ?_)
  · exact nx ov M9 H locs ls _ _ (Nat.le_succ _) (Nat.le_add_right _ _) hRn G (lv_sub hl [0, 1, 2, 3, 4] rfl)
  · exact absurd rfl hc1
set_option maxHeartbeats 4000000 in
set_option maxRecDepth 100000 in
theorem l_flows (hq9 : fk_lc p s m c g b L i cells slots xs) (hRel : Rr M) (G : fk_H g ov M s H locs) (hl : lv_has ls 7 (fk_lv g b i)) (ho : fk_o_flows l Rr) (nx : fk_nx p l e s m below meth c g b i cells slots Rr) : W p l e room_1 s m #[Value.ref b] below meth c H locs cells slots (lw_Z below #[Value.ref b] s) (F0 m 729 ls []) := by
  obtain ⟨S, E, Y, hX, hbl, hbA, hi, hL, hf1, hf2⟩ := hq9
  obtain ⟨n8, n9, M8, M9, b9, hn8, hn9, hq8, hq9, hRn⟩ := ho g ov M hRel
  refine lv_aload_n S.1 S.2.1 d_L_law_729 rfl (lv_at hl 3 rfl) ?_
  refine fk_cvi S E G 0 (by decide) (congrArg (fk_ce g ov 0 (M 0)) kd_0) rfl (rest := []) hq8 m_D_flows i_348 ⟨rfl, rfl⟩ ⟨by show n8 + 1 ≤ 2048; omega, by show 8 + (1 + 11) + 64 * n8 ≤ 84000; omega⟩ rfl rfl hl.1 (Nat.le_of_ble_eq_true rfl) d_L_law_730 ⟨Nat.le_of_succ_le hf1, Nat.le_trans (Nat.le_add_right _ _) hf2⟩ (fun H locs G => ?_)
  refine lv_aload_n S.1 S.2.1 d_L_law_733 rfl (lv_at hl 2 rfl) ?_
  refine fk_cvi S E G 89 (by decide) (congrArg (fk_ce g ov 89 (M8 89)) kd_89) rfl (rest := [.int b9]) hq9 m_M_flows i_854 ⟨rfl, rfl⟩ ⟨by show n9 + 1 ≤ 2048; omega, by show 8 + (1 + 11) + 64 * n9 ≤ 84000; omega⟩ rfl rfl hl.1 (Nat.le_of_ble_eq_true rfl) d_L_law_734 ⟨Nat.le_of_succ_le hf1, Nat.le_trans (Nat.le_add_right _ _) hf2⟩ (fun H locs G => ?_)
  refine lv_icmp_eq (tgt := 742) S.1 S.2.1 d_L_law_737 rfl (fun hc1 => ?_) (fun hc1 => ?_)
  · exact nx ov M9 H locs ls _ _ (Nat.le_succ _) (Nat.le_add_right _ _) hRn G (lv_sub hl [0, 1, 2, 3, 4] rfl)
  · exact absurd rfl hc1
end FKL2
