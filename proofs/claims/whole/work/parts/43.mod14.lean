/-! The reference: instants. Written by wip/gen/s_mod14.py. -/
theorem fk_in_Ri {M M' : fk_M} (h : fk_Ri M M') (cnt : Nat) (cl : Nat → Nat) (P : Nat → Nat) (bb sp sl on : Nat → Nat → Nat) : fk_Ri M (fk_in cnt cl P bb sp sl on M') := by
  have hp : fk_Ri M (fk_p0 M' cnt) := h.up (by decide) _
  have h2 := fk_ig_Ri (fk_ie_Ri (fk_id_Ri (z := (nI 0, fk_p0 M' cnt)) hp cnt cl P bb sp sl cnt) P bb sp sl cnt) P bb sp sl on cnt
  unfold fk_in fk_tk
  exact ⟨h2.1.up89 (by decide) _, h2.2.1, h2.2.2.1, h2.2.2.2⟩
/-- k instants -/
def fk_its (cnt : Nat) (cl : Nat → Nat) (P : Nat → Nat) (bb sp sl on : Nat → Nat → Nat) (M : fk_M) : Nat → fk_M
  | 0 => M
  | k + 1 => fk_in cnt cl P bb sp sl on (fk_its cnt cl P bb sp sl on M k)
theorem fk_its_Ri {M M' : fk_M} (h : fk_Ri M M') (cnt : Nat) (cl : Nat → Nat) (P : Nat → Nat) (bb sp sl on : Nat → Nat → Nat) : ∀ k, fk_Ri M (fk_its cnt cl P bb sp sl on M' k) := by
  intro k
  induction k with
  | zero => exact h
  | succ k ih => exact fk_in_Ri ih _ _ _ _ _ _ _
def fk_inF (v : Int32) : Nat := (decide (v < nI 1 ∨ ¬ v ≤ nI 50)).toNat
theorem d_M_instants_0 : decode b_M_instants 0 = .ok (.aload_n 0, 1) := by decide +kernel
theorem d_M_instants_1 : decode b_M_instants 1 = .ok (.iload_n 1, 1) := by decide +kernel
theorem d_M_instants_2 : decode b_M_instants 2 = .ok (.iconst 1, 1) := by decide +kernel
theorem d_M_instants_3 : decode b_M_instants 3 = .ok (.if_icmp .lt 9, 3) := by decide +kernel
theorem d_M_instants_6 : decode b_M_instants 6 = .ok (.iload_n 1, 1) := by decide +kernel
theorem d_M_instants_7 : decode b_M_instants 7 = .ok (.bipush 50, 2) := by decide +kernel
theorem d_M_instants_9 : decode b_M_instants 9 = .ok (.if_icmp .le 7, 3) := by decide +kernel
theorem d_M_instants_12 : decode b_M_instants 12 = .ok (.iconst 1, 1) := by decide +kernel
theorem d_M_instants_13 : decode b_M_instants 13 = .ok (.goto 4, 3) := by decide +kernel
theorem d_M_instants_16 : decode b_M_instants 16 = .ok (.iconst 0, 1) := by decide +kernel
theorem d_M_instants_17 : decode b_M_instants 17 = .ok (.aload_n 0, 1) := by decide +kernel
theorem d_M_instants_18 : decode b_M_instants 18 = .ok (.getfield 87, 3) := by decide +kernel
theorem d_M_instants_21 : decode b_M_instants 21 = .ok (.ifCond .ne 7, 3) := by decide +kernel
theorem d_M_instants_24 : decode b_M_instants 24 = .ok (.iconst 1, 1) := by decide +kernel
theorem d_M_instants_25 : decode b_M_instants 25 = .ok (.goto 4, 3) := by decide +kernel
theorem d_M_instants_28 : decode b_M_instants 28 = .ok (.iconst 0, 1) := by decide +kernel
theorem d_M_instants_29 : decode b_M_instants 29 = .ok (.invokevirtual 97, 3) := by decide +kernel
theorem d_M_instants_32 : decode b_M_instants 32 = .ok (.ifCond .eq 4, 3) := by decide +kernel
theorem d_M_instants_35 : decode b_M_instants 35 = .ok (.return_, 1) := by decide +kernel
theorem d_M_instants_36 : decode b_M_instants 36 = .ok (.iconst 0, 1) := by decide +kernel
theorem d_M_instants_37 : decode b_M_instants 37 = .ok (.istore_n 2, 1) := by decide +kernel
theorem d_M_instants_38 : decode b_M_instants 38 = .ok (.iload_n 2, 1) := by decide +kernel
theorem d_M_instants_39 : decode b_M_instants 39 = .ok (.iload_n 1, 1) := by decide +kernel
theorem d_M_instants_40 : decode b_M_instants 40 = .ok (.if_icmp .ge 13, 3) := by decide +kernel
theorem d_M_instants_43 : decode b_M_instants 43 = .ok (.aload_n 0, 1) := by decide +kernel
theorem d_M_instants_44 : decode b_M_instants 44 = .ok (.invokevirtual 180, 3) := by decide +kernel
theorem d_M_instants_47 : decode b_M_instants 47 = .ok (.iinc 2 1, 3) := by decide +kernel
theorem d_M_instants_50 : decode b_M_instants 50 = .ok (.goto (-12), 3) := by decide +kernel
theorem d_M_instants_53 : decode b_M_instants 53 = .ok (.return_, 1) := by decide +kernel
theorem m_M_instants : fk_MI y_M_instants b_M_instants 3 none 1 := ⟨i_818, i_816, i_817, i_8, by decide +kernel⟩
set_option maxHeartbeats 4000000 in
set_option maxRecDepth 100000 in
theorem c_M_instants (l : Launch) (g : fk_G) (ov : Int64) (M : fk_M) (cnt : Nat) (cl N P : Nat → Nat) (bb sp sl : Nat → Nat → Nat) (hRS : fk_RS M cnt cl N P bb sp sl) (on : Nat → Nat → Nat) (hgood : ¬ M 89 23 = 0 → (∀ f, f < cnt → M 91 f = 0 → ¬ M 98 f = 0) ∧ (∀ f, f < cnt → M 91 f = 0 → ∀ q, q < P f → M 102 (40 * f + sp f q) = nI (on f q) ∧ on f q < 25)) (v : Int32) : fk_CV l y_M_instants b_M_instants 3 (fk_rm 4) g ov M (if 0 < fk_tc (fk_inF v) (decide (M 89 23 = 0)).toNat then fk_th M (fk_tc (fk_inF v) (decide (M 89 23 = 0)).toNat) else fk_its cnt cl P bb sp sl on (fk_th M 0) v.toNatClampNeg) [.ref (fk_a g 89), .int v] := by
  refine fk_ofV rfl (Nat.le_of_ble_eq_true rfl) ?_
  intro p e s m args below meth c ls S hr hlk E G hl
  have hl : lv_has ls 3 [(0, .ref (fk_a g 89)), (1, .int v)] := hl
  have hcnt := hRS.1
  refine lv_aload_n S.1 S.2.1 d_M_instants_0 rfl (lv_at hl 0 rfl) ?_
  refine lv_iload_n S.1 S.2.1 d_M_instants_1 rfl (lv_at hl 1 rfl) ?_
  refine lv_iconst (v := nI 1) S.1 S.2.1 d_M_instants_2 (by decide +kernel) ?_
  refine lv_icmp_lt (tgt := 12) S.1 S.2.1 d_M_instants_3 rfl (fun hc1 => ?_) (fun hc1 => ?_)
  · have hF : fk_inF v = 1 := by
      unfold fk_inF
      rw [decide_eq_true (Or.inl hc1)] <;> rfl
    rw [hF]
    refine lv_iconst (v := nI 1) S.1 S.2.1 d_M_instants_12 (by decide +kernel) ?_
    refine lv_goto (tgt := 17) S.1 S.2.1 d_M_instants_13 rfl ?_
    refine lv_aload_n S.1 S.2.1 d_M_instants_17 rfl (lv_at hl 0 rfl) ?_
    refine fk_gf S E G 89 (by decide) (v := .int (M 89 23)) (congrArg (fk_ce g ov 89 (M 89)) kd_89) rfl 23 (by decide) rfl i_645 rfl d_M_instants_18 ?_
    refine lv_if_ne (tgt := 28) S.1 S.2.1 d_M_instants_21 rfl (fun hc2 => ?_) (fun hc2 => ?_)
    · have hQ : (decide (M 89 23 = 0)).toNat = 0 := by rw [decide_eq_false hc2] <;> rfl
      rw [hQ]
      refine lv_iconst (v := nI 0) S.1 S.2.1 d_M_instants_28 (by decide +kernel) ?_
      refine fk_cvi S E G 89 (by decide) (congrArg (fk_ce g ov 89 (M 89)) kd_89) rfl (rest := []) (c_M_throwing l g ov M 1 0 (by decide) (by decide)) m_M_throwing i_724 ⟨rfl, rfl⟩ ⟨by decide, by decide⟩ rfl rfl hl.1 (Nat.le_of_ble_eq_true rfl) d_M_instants_29 ⟨Nat.zero_le _, Nat.zero_le _⟩ (fun H locs G => ?_)
      refine fk_zeq (tgt := 36) S.1 S.2.1 (fk_bl _) d_M_instants_32 rfl (fun hc3 => ?_) (fun hc3 => ?_)
      · exact absurd hc3 (by decide)
      · rw [if_pos (show 0 < fk_tc 1 0 by decide)]
        exact fk_vret S hr hlk E G rfl d_M_instants_35
    · have hQ : (decide (M 89 23 = 0)).toNat = 1 := by rw [decide_eq_true hc2] <;> rfl
      rw [hQ]
      refine lv_iconst (v := nI 1) S.1 S.2.1 d_M_instants_24 (by decide +kernel) ?_
      refine lv_goto (tgt := 29) S.1 S.2.1 d_M_instants_25 rfl ?_
      refine fk_cvi S E G 89 (by decide) (congrArg (fk_ce g ov 89 (M 89)) kd_89) rfl (rest := []) (c_M_throwing l g ov M 1 1 (by decide) (by decide)) m_M_throwing i_724 ⟨rfl, rfl⟩ ⟨by decide, by decide⟩ rfl rfl hl.1 (Nat.le_of_ble_eq_true rfl) d_M_instants_29 ⟨Nat.zero_le _, Nat.zero_le _⟩ (fun H locs G => ?_)
      refine fk_zeq (tgt := 36) S.1 S.2.1 (fk_bl _) d_M_instants_32 rfl (fun hc4 => ?_) (fun hc4 => ?_)
      · exact absurd hc4 (by decide)
      · rw [if_pos (show 0 < fk_tc 1 1 by decide)]
        exact fk_vret S hr hlk E G rfl d_M_instants_35
  · refine lv_iload_n S.1 S.2.1 d_M_instants_6 rfl (lv_at hl 1 rfl) ?_
    refine lv_bipush (v := nI 50) S.1 S.2.1 d_M_instants_7 (by decide +kernel) ?_
    refine lv_icmp_le (tgt := 16) S.1 S.2.1 d_M_instants_9 rfl (fun hc5 => ?_) (fun hc5 => ?_)
    · have hF : fk_inF v = 0 := by
        unfold fk_inF
        rw [decide_eq_false (fun q => q.elim hc1 (fun q => q hc5))] <;> rfl
      rw [hF]
      refine lv_iconst (v := nI 0) S.1 S.2.1 d_M_instants_16 (by decide +kernel) ?_
      refine lv_aload_n S.1 S.2.1 d_M_instants_17 rfl (lv_at hl 0 rfl) ?_
      refine fk_gf S E G 89 (by decide) (v := .int (M 89 23)) (congrArg (fk_ce g ov 89 (M 89)) kd_89) rfl 23 (by decide) rfl i_645 rfl d_M_instants_18 ?_
      refine lv_if_ne (tgt := 28) S.1 S.2.1 d_M_instants_21 rfl (fun hc6 => ?_) (fun hc6 => ?_)
      · have hQ : (decide (M 89 23 = 0)).toNat = 0 := by rw [decide_eq_false hc6] <;> rfl
        rw [hQ]
        refine lv_iconst (v := nI 0) S.1 S.2.1 d_M_instants_28 (by decide +kernel) ?_
        refine fk_cvi S E G 89 (by decide) (congrArg (fk_ce g ov 89 (M 89)) kd_89) rfl (rest := []) (c_M_throwing l g ov M 0 0 (by decide) (by decide)) m_M_throwing i_724 ⟨rfl, rfl⟩ ⟨by decide, by decide⟩ rfl rfl hl.1 (Nat.le_of_ble_eq_true rfl) d_M_instants_29 ⟨Nat.zero_le _, Nat.zero_le _⟩ (fun H locs G => ?_)
        refine fk_zeq (tgt := 36) S.1 S.2.1 (fk_bl _) d_M_instants_32 rfl (fun hc7 => ?_) (fun hc7 => ?_)
        · rw [if_neg (show ¬ 0 < fk_tc 0 0 by decide)]
          obtain ⟨n, hn1, hn2⟩ : ∃ j : Nat, j < 2 ^ 31 ∧ v = nI j := nI_of (fun q => hc1 (Int32.lt_trans q (by decide +kernel)))
          have hcl : v.toNatClampNeg = n := by rw [hn2, nI_clamp hn1]
          rw [hcl]
          obtain ⟨g1, g2⟩ := hgood hc6
          subst hn2
          change fk_H g ov (fk_th M 0) s H locs at G
          refine lv_iconst (v := nI 0) S.1 S.2.1 d_M_instants_36 (by decide +kernel) ?_
          refine lv_istore_n (lv' := [(2, .int (nI 0)), (0, .ref (fk_a g 89)), (1, .int (nI n))]) S.1 S.2.1 d_M_instants_37 rfl hl (by decide) rfl (fun ls hl => ?_)
          have hth : fk_Ri M (fk_th M 0) := ⟨fk_th_Rq (.refl M) 0, rfl, rfl, rfl⟩
          have loop : ∀ (d : Nat) (k9 : Nat) (H : Heap) (locs : List Loc) (ls : Array Slot), k9 + d = n → fk_H g ov (fk_its cnt cl P bb sp sl on (fk_th M 0) k9) s H locs → lv_has ls 3 [(2, .int (nI k9)), (1, .int (nI n)), (0, .ref (fk_a g 89))] → W p l e (fk_rm (4)) s m args below meth c H locs 0 0 (MQ below (va_Qv (fun (_ : Unit) => True) (fun _ t9 => fk_Wd g ov (fk_its cnt cl P bb sp sl on (fk_th M 0) n) t9) (fk_A g)) args s 0 0 (fk_A g)) (F0 m 38 ls []) := by
            intro d
            induction d with
            | zero =>
              intro k9 H locs ls hv0 G hl
              obtain ⟨Mi, hMi⟩ : ∃ z : fk_M, z = fk_its cnt cl P bb sp sl on (fk_th M 0) k9 := ⟨_, rfl⟩
              rw [← hMi] at G
              refine lv_iload_n S.1 S.2.1 d_M_instants_38 rfl (lv_at hl 0 rfl) ?_
              refine lv_iload_n S.1 S.2.1 d_M_instants_39 rfl (lv_at hl 1 rfl) ?_
              refine fk_cge (tgt := 53) S.1 S.2.1 (by omega) (by omega) d_M_instants_40 rfl (fun hc8 => ?_) (fun hc8 => ?_)
              · have hk9 : k9 = n := by omega
                exact fk_vret S hr hlk E G (by rw [hMi, hk9]) d_M_instants_53
              · exact absurd hv0 (by omega)
            | succ d ih =>
              intro k9 H locs ls hv0 G hl
              obtain ⟨Mi, hMi⟩ : ∃ z : fk_M, z = fk_its cnt cl P bb sp sl on (fk_th M 0) k9 := ⟨_, rfl⟩
              rw [← hMi] at G
              have hri : fk_Ri M Mi := by rw [hMi]; exact fk_its_Ri hth cnt cl P bb sp sl on k9
              refine lv_iload_n S.1 S.2.1 d_M_instants_38 rfl (lv_at hl 0 rfl) ?_
              refine lv_iload_n S.1 S.2.1 d_M_instants_39 rfl (lv_at hl 1 rfl) ?_
              refine fk_cge (tgt := 53) S.1 S.2.1 (by omega) (by omega) d_M_instants_40 rfl (fun hc9 => ?_) (fun hc9 => ?_)
              · exact absurd hv0 (by omega)
              · refine lv_aload_n S.1 S.2.1 d_M_instants_43 rfl (lv_at hl 2 rfl) ?_
                refine fk_cvv S E G 89 (by decide) (congrArg (fk_ce g ov 89 (Mi 89)) kd_89) rfl (rest := []) (c_M_instant l g ov Mi cnt cl N P bb sp sl (hRS.of hri.1) on (fun f hf h9 => by rw [hri.1.2.2.1] at h9; rw [hri.1.2.2.2.2.1]; exact g1 f hf h9) (fun f hf h9 q hq => by rw [hri.1.2.2.1] at h9; rw [hri.2.2.2]; exact g2 f hf h9 q hq)) m_M_instant i_819 ⟨rfl, rfl⟩ ⟨by decide, by decide⟩ rfl rfl hl.1 (Nat.le_of_ble_eq_true rfl) d_M_instants_44 ⟨Nat.zero_le _, Nat.zero_le _⟩ (fun H locs G => ?_)
                refine lv_iinc (k := 0) (v := nI (k9 + 1)) (lv' := [(2, .int (nI (k9 + 1))), (1, .int (nI n)), (0, .ref (fk_a g 89))]) S.1 S.2.1 d_M_instants_47 hl rfl (nI_1 k9) (by decide) rfl (fun ls hl => ?_)
                refine lv_goto (tgt := 38) S.1 S.2.1 d_M_instants_50 rfl ?_
                rw [hMi] at G
                exact ih (k9 + 1) H locs ls (by omega) G (lv_sub hl [0, 1, 2] rfl)
          exact loop n 0 H locs ls (by omega) G (lv_sub hl [0, 2, 1] rfl)
        · exact absurd hc7 (by decide)
      · have hQ : (decide (M 89 23 = 0)).toNat = 1 := by rw [decide_eq_true hc6] <;> rfl
        rw [hQ]
        refine lv_iconst (v := nI 1) S.1 S.2.1 d_M_instants_24 (by decide +kernel) ?_
        refine lv_goto (tgt := 29) S.1 S.2.1 d_M_instants_25 rfl ?_
        refine fk_cvi S E G 89 (by decide) (congrArg (fk_ce g ov 89 (M 89)) kd_89) rfl (rest := []) (c_M_throwing l g ov M 0 1 (by decide) (by decide)) m_M_throwing i_724 ⟨rfl, rfl⟩ ⟨by decide, by decide⟩ rfl rfl hl.1 (Nat.le_of_ble_eq_true rfl) d_M_instants_29 ⟨Nat.zero_le _, Nat.zero_le _⟩ (fun H locs G => ?_)
        refine fk_zeq (tgt := 36) S.1 S.2.1 (fk_bl _) d_M_instants_32 rfl (fun hc10 => ?_) (fun hc10 => ?_)
        · exact absurd hc10 (by decide)
        · rw [if_pos (show 0 < fk_tc 0 1 by decide)]
          exact fk_vret S hr hlk E G rfl d_M_instants_35
    · have hF : fk_inF v = 1 := by
        unfold fk_inF
        rw [decide_eq_true (Or.inr hc5)] <;> rfl
      rw [hF]
      refine lv_iconst (v := nI 1) S.1 S.2.1 d_M_instants_12 (by decide +kernel) ?_
      refine lv_goto (tgt := 17) S.1 S.2.1 d_M_instants_13 rfl ?_
      refine lv_aload_n S.1 S.2.1 d_M_instants_17 rfl (lv_at hl 0 rfl) ?_
      refine fk_gf S E G 89 (by decide) (v := .int (M 89 23)) (congrArg (fk_ce g ov 89 (M 89)) kd_89) rfl 23 (by decide) rfl i_645 rfl d_M_instants_18 ?_
      refine lv_if_ne (tgt := 28) S.1 S.2.1 d_M_instants_21 rfl (fun hc11 => ?_) (fun hc11 => ?_)
      · have hQ : (decide (M 89 23 = 0)).toNat = 0 := by rw [decide_eq_false hc11] <;> rfl
        rw [hQ]
        refine lv_iconst (v := nI 0) S.1 S.2.1 d_M_instants_28 (by decide +kernel) ?_
        refine fk_cvi S E G 89 (by decide) (congrArg (fk_ce g ov 89 (M 89)) kd_89) rfl (rest := []) (c_M_throwing l g ov M 1 0 (by decide) (by decide)) m_M_throwing i_724 ⟨rfl, rfl⟩ ⟨by decide, by decide⟩ rfl rfl hl.1 (Nat.le_of_ble_eq_true rfl) d_M_instants_29 ⟨Nat.zero_le _, Nat.zero_le _⟩ (fun H locs G => ?_)
        refine fk_zeq (tgt := 36) S.1 S.2.1 (fk_bl _) d_M_instants_32 rfl (fun hc12 => ?_) (fun hc12 => ?_)
        · exact absurd hc12 (by decide)
        · rw [if_pos (show 0 < fk_tc 1 0 by decide)]
          exact fk_vret S hr hlk E G rfl d_M_instants_35
      · have hQ : (decide (M 89 23 = 0)).toNat = 1 := by rw [decide_eq_true hc11] <;> rfl
        rw [hQ]
        refine lv_iconst (v := nI 1) S.1 S.2.1 d_M_instants_24 (by decide +kernel) ?_
        refine lv_goto (tgt := 29) S.1 S.2.1 d_M_instants_25 rfl ?_
        refine fk_cvi S E G 89 (by decide) (congrArg (fk_ce g ov 89 (M 89)) kd_89) rfl (rest := []) (c_M_throwing l g ov M 1 1 (by decide) (by decide)) m_M_throwing i_724 ⟨rfl, rfl⟩ ⟨by decide, by decide⟩ rfl rfl hl.1 (Nat.le_of_ble_eq_true rfl) d_M_instants_29 ⟨Nat.zero_le _, Nat.zero_le _⟩ (fun H locs G => ?_)
        refine fk_zeq (tgt := 36) S.1 S.2.1 (fk_bl _) d_M_instants_32 rfl (fun hc13 => ?_) (fun hc13 => ?_)
        · exact absurd hc13 (by decide)
        · rw [if_pos (show 0 < fk_tc 1 1 by decide)]
          exact fk_vret S hr hlk E G rfl d_M_instants_35
