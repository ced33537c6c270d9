/-! type: the bytes that both take out of a row. -/
theorem fk_255 (v : BitVec 64) (i : Nat) : (v &&& 255#64).getLsbD i = (decide (i < 8) && v.getLsbD i) := by
  rw [BitVec.getLsbD_and]
  have h : (255#64).getLsbD i = decide (i < 8) := by
    by_cases hi : i < 8
    · rcases (by omega : i = 0 ∨ i = 1 ∨ i = 2 ∨ i = 3 ∨ i = 4 ∨ i = 5 ∨ i = 6 ∨ i = 7) with rfl | rfl | rfl | rfl | rfl | rfl | rfl | rfl <;> decide
    · rw [show decide (i < 8) = false from decide_eq_false hi]
      rw [BitVec.getLsbD_ofNat]
      have h2 : Nat.testBit 255 i = false := Nat.testBit_lt_two_pow (Nat.lt_of_lt_of_le (by decide : 255 < 2 ^ 8) (Nat.pow_le_pow_right (by decide) (by omega)))
      simp [h2]
  rw [h, Bool.and_comm]
theorem fk_ssh {v : BitVec 64} {s : Nat} (hs : s ≤ 56) : v.sshiftRight s &&& 255#64 = (v >>> s) &&& 255#64 := by
  apply BitVec.eq_of_getLsbD_eq
  intro i hi
  rw [fk_255, fk_255]
  by_cases h : i < 8
  · rw [BitVec.getLsbD_sshiftRight, BitVec.getLsbD_ushiftRight]
    simp [h, show s + i < 64 by omega, show ¬ 64 ≤ i by omega]
  · simp [h]
theorem fk_yb_bv (w : Int64) {d : Nat} (hd : d < 8) : (fk_yb w d).toBitVec = ((w.toBitVec >>> (8 * d)) &&& 255#64).setWidth 32 := by
  have h : (w >>> ((nI (8 * d)).toInt64 &&& 63)).toBitVec = w.toBitVec.sshiftRight (8 * d) := by
    rw [Int64.toBitVec_shiftRight]
    rcases (by omega : d = 0 ∨ d = 1 ∨ d = 2 ∨ d = 3 ∨ d = 4 ∨ d = 5 ∨ d = 6 ∨ d = 7) with rfl | rfl | rfl | rfl | rfl | rfl | rfl | rfl <;> rfl
  unfold fk_yb
  rw [Int64.toBitVec_toInt32, Int64.toBitVec_and, h, BitVec.signExtend_eq_setWidth_of_le _ (by decide)]
  show BitVec.setWidth 32 (w.toBitVec.sshiftRight (8 * d) &&& 255#64) = _
  rw [fk_ssh (by omega)]
theorem fk_yc_bv (w : Int64) {d : Nat} (hd : d < 8) : (fk_yc w d).toBitVec = ((w.toBitVec >>> (8 * d)) &&& 255#64).setWidth 32 := by
  have h : ((w.toUInt64 >>> ((nI (8 * d)).toInt64.toUInt64 &&& Int64.toUInt64 63)).toInt64).toBitVec = w.toBitVec >>> (8 * d) := by
    show (w.toUInt64 >>> ((nI (8 * d)).toInt64.toUInt64 &&& Int64.toUInt64 63)).toBitVec = _
    rw [UInt64.toBitVec_shiftRight]
    rcases (by omega : d = 0 ∨ d = 1 ∨ d = 2 ∨ d = 3 ∨ d = 4 ∨ d = 5 ∨ d = 6 ∨ d = 7) with rfl | rfl | rfl | rfl | rfl | rfl | rfl | rfl <;> rfl
  unfold fk_yc
  rw [Int32.toBitVec_and, Int64.toBitVec_toInt32, h, BitVec.signExtend_eq_setWidth_of_le _ (by decide)]
  apply BitVec.eq_of_toNat_eq
  show (BitVec.setWidth 32 (w.toBitVec >>> (8 * d)) &&& 255#32).toNat = _
  rw [BitVec.toNat_and, BitVec.toNat_setWidth, BitVec.toNat_setWidth, BitVec.toNat_and]
  show (w.toBitVec >>> (8 * d)).toNat % 2 ^ 32 &&& 255 = ((w.toBitVec >>> (8 * d)).toNat &&& 255) % 2 ^ 32
  rw [Nat.and_mod_two_pow]
theorem fk_byte (w : Int64) {d : Nat} (hd : d < 8) : ∃ b, b < 256 ∧ fk_yc w d = nI b ∧ fk_yb w d = nI b := by
  have h1 : fk_yc w d = fk_yb w d := Int32.toBitVec_inj.mp (by rw [fk_yc_bv w hd, fk_yb_bv w hd])
  have h2 : (fk_yb w d).toBitVec.toNat < 256 := by
    rw [fk_yb_bv w hd, BitVec.toNat_setWidth, BitVec.toNat_and]
    have h3 : (w.toBitVec >>> (8 * d)).toNat &&& (255#64).toNat ≤ 255 := Nat.and_le_right
    exact Nat.lt_of_le_of_lt (Nat.mod_le _ _) (by omega)
  refine ⟨(fk_yb w d).toBitVec.toNat, h2, ?_, ?_⟩
  · rw [h1]
    apply Int32.toBitVec_inj.mp
    apply BitVec.eq_of_toNat_eq
    show _ = (Int32.ofNat _).toBitVec.toNat
    rw [Int32.toBitVec_ofNat', BitVec.toNat_ofNat, Nat.mod_eq_of_lt (by omega)]
  · apply Int32.toBitVec_inj.mp
    apply BitVec.eq_of_toNat_eq
    show _ = (Int32.ofNat _).toBitVec.toNat
    rw [Int32.toBitVec_ofNat', BitVec.toNat_ofNat, Nat.mod_eq_of_lt (by omega)]
/-- the draft after k bytes more -/
def fk_db (db : Nat → Nat) (w : Int64) (u : Nat) : Nat → Nat → Nat := fun k i => if u ≤ i ∧ i < u + k then (fk_yb w (u + k - 1 - i)).toNatClampNeg else db i
theorem fk_dty_at {x : Nat} (w : Int64) : ∀ (k u : Nat) (M : fk_M), k ≤ 8 → fk_dty x w k u M x = (if k = 0 then M x else upd (M x) 4 (nI (u + k))) ∧ (∀ i, fk_dty x w k u M (x + 1) i = if u ≤ i ∧ i < u + k then fk_yb w (u + k - 1 - i) else M (x + 1) i) ∧ ∀ q, q ≠ x → q ≠ x + 1 → fk_dty x w k u M q = M q := by
  intro k
  induction k with
  | zero =>
    intro u M _
    refine ⟨by rw [if_pos rfl]; rfl, fun i => ?_, fun _ _ _ => rfl⟩
    rw [if_neg (by omega)]
    rfl
  | succ k ih =>
    intro u M hk
    obtain ⟨h1, h2, h3⟩ := ih (u + 1) (fk_dap x u (fk_yc w k) M) (by omega)
    have e1 : fk_dap x u (fk_yc w k) M x = upd (M x) 4 (nI (u + 1)) := by unfold fk_dap; rw [va_up_self]
    have e2 : fk_dap x u (fk_yc w k) M (x + 1) = upd (M (x + 1)) u (fk_yc w k) := by unfold fk_dap; rw [va_up_ne _ _ (by omega), va_up_self]
    have hy : fk_yc w k = fk_yb w k := by obtain ⟨b, -, h4, h5⟩ := fk_byte w (d := k) (by omega); rw [h4, h5]
    refine ⟨?_, fun i => ?_, fun q a b => ?_⟩
    · show fk_dty x w k (u + 1) (fk_dap x u (fk_yc w k) M) x = _
      rw [h1, e1, if_neg (c := k + 1 = 0) (by omega)]
      by_cases hk0 : k = 0
      · subst hk0; rw [if_pos rfl]
      · rw [if_neg hk0, show u + 1 + k = u + (k + 1) by omega]
        funext j
        by_cases hj : j = 4
        · subst hj; rw [pk_us, pk_us]
        · rw [pk_un hj, pk_un hj, pk_un hj]
    · show fk_dty x w k (u + 1) (fk_dap x u (fk_yc w k) M) (x + 1) i = _
      rw [h2, e2]
      by_cases hi : i = u
      · subst hi
        rw [if_neg (by omega), if_pos (by omega), pk_us, hy]
        congr 1
        omega
      · by_cases hc : u + 1 ≤ i ∧ i < u + 1 + k
        · rw [if_pos hc, if_pos (by omega)]
          congr 1
          omega
        · rw [if_neg hc, if_neg (by omega), pk_un hi]
    · show fk_dty x w k (u + 1) (fk_dap x u (fk_yc w k) M) q = _
      rw [h3 q a b]
      unfold fk_dap
      rw [va_up_ne _ _ a, va_up_ne _ _ b]
theorem fk_mty_at (w : Int64) : ∀ (k u : Nat) (M : fk_M), fk_mty w k u M 89 = (if k = 0 then M 89 else upd (M 89) 19 (nI (u + k))) ∧ (∀ i, fk_mty w k u M 106 i = if u ≤ i ∧ i < u + k then fk_yb w (u + k - 1 - i) else M 106 i) ∧ ∀ q, q ≠ 89 → q ≠ 106 → fk_mty w k u M q = M q := by
  intro k
  induction k with
  | zero =>
    intro u M
    refine ⟨by rw [if_pos rfl]; rfl, fun i => ?_, fun _ _ _ => rfl⟩
    rw [if_neg (by omega)]
    rfl
  | succ k ih =>
    intro u M
    obtain ⟨h1, h2, h3⟩ := ih (u + 1) (va_up (va_up M 106 (upd (M 106) u (fk_yb w k))) 89 (upd (M 89) 19 (nI (u + 1))))
    refine ⟨?_, fun i => ?_, fun q a b => ?_⟩
    · show fk_mty w k (u + 1) (va_up (va_up M 106 (upd (M 106) u (fk_yb w k))) 89 (upd (M 89) 19 (nI (u + 1)))) 89 = _
      rw [h1, va_up_self, if_neg (c := k + 1 = 0) (by omega)]
      by_cases hk0 : k = 0
      · subst hk0; rw [if_pos rfl]
      · rw [if_neg hk0, show u + 1 + k = u + (k + 1) by omega]
        funext j
        by_cases hj : j = 19
        · subst hj; rw [pk_us, pk_us]
        · rw [pk_un hj, pk_un hj, pk_un hj]
    · show fk_mty w k (u + 1) (va_up (va_up M 106 (upd (M 106) u (fk_yb w k))) 89 (upd (M 89) 19 (nI (u + 1)))) 106 i = _
      rw [h2, va_up_ne _ _ (by decide), va_up_self]
      by_cases hi : i = u
      · subst hi
        rw [if_neg (by omega), if_pos (by omega), pk_us]
        congr 1
        omega
      · by_cases hc : u + 1 ≤ i ∧ i < u + 1 + k
        · rw [if_pos hc, if_pos (by omega)]
          congr 1
          omega
        · rw [if_neg hc, if_neg (by omega), pk_un hi]
    · show fk_mty w k (u + 1) (va_up (va_up M 106 (upd (M 106) u (fk_yb w k))) 89 (upd (M 89) 19 (nI (u + 1)))) q = _
      rw [h3 q a b, va_up_ne _ _ a, va_up_ne _ _ b]
