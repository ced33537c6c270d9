/-! The whole check, side by side. -/
section
variable {n : Nat} {ck P sz Np : Nat → Nat} {bb sp sl : Nat → Nat → Nat} {C0 R0 : fk_M}
theorem z_FR.rf (R : fk_M) : z_FR R R := ⟨fun _ _ _ _ => rfl, fun _ _ _ => rfl⟩
theorem z_fw {R : fk_M} : (∀ k, k ≠ 89 → k ≠ 97 → k ≠ 109 → fk_fw n ck Np bb sp sl R k = R k) ∧ ∀ t, t ≠ 29 → t ≠ 30 → fk_fw n ck Np bb sp sl R 89 t = R 89 t := by
  unfold fk_fw
  refine ⟨fun k a b c => ?_, fun t a b => ?_⟩
  · rw [va_up_ne _ _ b]; exact (z_f1 n).1 k a b c
  · rw [va_up_ne _ _ (by decide)]; exact (z_f1 n).2.1 t a b
/-- the check fails at flow f, byte i -/
def z_bad (n : Nat) (ck P sz Np : Nat → Nat) (bb sp sl : Nat → Nat → Nat) (C0 R0 : fk_M) : Prop := ∃ rule f i C' R', 1 ≤ rule ∧ rule ≤ 5 ∧ fk_ru n ck P sz bb 5 1 C0 = (rule, va_up C' 79 (upd (upd (C' 79) 5 (nI f)) 6 (nI i))) ∧ fk_kc n ck Np bb sp sl 5 1 R0 = (rule, va_up R' 89 (upd (upd (R' 89) 24 (nI f)) 25 (nI i))) ∧ fk_Sh n ck P sz bb C' ∧ z_FC P C0 C' ∧ z_FW R0 R'
/-- what a passed check has found, X the reference's clocks, A its masks, Y the class's clocks' memory -/
def z_gd (n : Nat) (ck P sz Np : Nat → Nat) (bb sp : Nat → Nat → Nat) (C0 C' R' : fk_M) : Prop := (∀ f, f < n → C0 (3 + 6 * f) 2 = 0 → 0 < sz f) ∧ (∀ f, f < n → C0 (3 + 6 * f) 2 = 0 → z_Ty (C0 90) (bb f) (C0 (P f + 2)) (sp f) (Np f) (nI (fk_ty1 C0 f))) ∧ (∀ f, f < n → z_F3 ck P Np bb sp C0 f C' R') ∧ z_Z n (R' 97) ∧ (∀ a, a < n → C0 76 a = R' 97 a) ∧ (∀ f, f < n → C0 (3 + 6 * f) 2 = 0 → z_Nm (bb f) (C0 (P f + 2)) (sp f) (Np f) (R' 97 f)) ∧ ∀ f, f < n → ck f ≠ 0 → fk_wf (R' 97 f) ((ck f - 1) / 2) = true
theorem z_check (hB : z_B n ck P sz Np bb sp sl C0 R0) (hck : ∀ f, f < n → ck f = 0 ∨ (ck f - 1) / 2 < f) {Cx : fk_M} (hE : ∀ f, f < n → Cx (P f + 2) = C0 (P f + 2)) (hC : C0 76 = fk_tr n ck P sz bb Cx 76) :
    z_bad n ck P sz Np bb sp sl C0 R0 ∨ ∃ C' R', fk_ru n ck P sz bb 5 1 C0 = (0, C') ∧ fk_kc n ck Np bb sp sl 5 1 R0 = (0, fk_am n (va_up R' 89 (upd (R' 89) 23 (nI 1)))) ∧ fk_Sh n ck P sz bb C' ∧ z_FC P C0 C' ∧ z_FW R0 R' ∧ z_gd n ck P sz Np bb sp C0 C' R' := by
  have hn := hB.1.2.1
  have I0 : z_I n ck P sz bb C0 R0 C0 R0 := ⟨hB.1, fun _ _ _ _ => rfl, z_FR.rf R0⟩
  rcases z_loop (rule := 1) (Inv := z_I n ck P sz bb C0 R0) (Φ := fun f _ _ => C0 (3 + 6 * f) 2 = 0 → 0 < sz f) hn (z_st1 hB) n 0 C0 R0 (by omega) I0 (fun f hf => by omega) with ⟨C1, R1, h1, k1, I1, hD⟩ | ⟨f, i, C1, R1, hf, h1, k1, v1, I1⟩
  · have r1 : fk_ru n ck P sz bb 5 1 C0 = fk_ru n ck P sz bb 4 2 C1 := z_ru_t h1
    have q1 : fk_kc n ck Np bb sp sl 5 1 R0 = fk_kc n ck Np bb sp sl 4 2 R1 := fk_kc_n Np bb sp sl k1
    rcases z_loop (rule := 2) (Inv := z_I n ck P sz bb C0 R0) (Φ := fun f _ _ => C0 (3 + 6 * f) 2 = 0 → z_Ty (C0 90) (bb f) (C0 (P f + 2)) (sp f) (Np f) (nI (fk_ty1 C0 f))) hn (z_st2 hB hD) n 0 C1 R1 (by omega) I1 (fun f hf => by omega) with ⟨C2, R2, h2, k2, I2, hT⟩ | ⟨f, i, C2, R2, hf, h2, k2, v2, I2⟩
    · have r2 : fk_ru n ck P sz bb 4 2 C1 = fk_ru n ck P sz bb 3 3 C2 := z_ru_t h2
      have q2 : fk_kc n ck Np bb sp sl 4 2 R1 = fk_kc n ck Np bb sp sl 3 3 R2 := fk_kc_n Np bb sp sl k2
      rcases z_loop (rule := 3) (Inv := z_I n ck P sz bb C0 R0) (Φ := z_F3 ck P Np bb sp C0) hn (z_st3 hB hD) n 0 C2 R2 (by omega) I2 (fun f hf => by omega) with ⟨C3, R3, h3, k3, I3, hF⟩ | ⟨f, i, C3, R3, hf, h3, k3, v3, I3⟩
      · have r3 : fk_ru n ck P sz bb 3 3 C2 = fk_ru n ck P sz bb 2 4 C3 := z_ru_t h3
        have q3 : fk_kc n ck Np bb sp sl 3 3 R2 = fk_kc n ck Np bb sp sl 2 4 R3 := fk_kc_n Np bb sp sl k3
        rcases z_loop (rule := 4) (Inv := z_I3 n ck P sz Np bb sp C0 R0) (Φ := fun _ _ _ => True) hn (z_st4 hB hD) n 0 C3 R3 (by omega) ⟨I3, hF⟩ (fun f hf => trivial) with ⟨C4, R4, h4, k4, I4, -⟩ | ⟨f, i, C4, R4, hf, h4, k4, v4, I4⟩
        · have r4 : fk_ru n ck P sz bb 2 4 C3 = fk_ru n ck P sz bb 1 5 C4 := z_ru_t h4
          have q4 : fk_kc n ck Np bb sp sl 2 4 R3 = fk_kc n ck Np bb sp sl 1 5 R4 := fk_kc_n Np bb sp sl k4
          obtain ⟨I4, hF4⟩ := I4
          obtain ⟨R5, hR5⟩ : ∃ z : fk_M, z = fk_fw n ck Np bb sp sl R4 := ⟨_, rfl⟩
          obtain ⟨w1, w2⟩ := z_fw (n := n) (ck := ck) (Np := Np) (bb := bb) (sp := sp) (sl := sl) (R := R4)
          rw [← hR5] at w1 w2
          have F4 := I4.2.2
          have k5 : ∀ k, k ≠ 89 → k ≠ 97 → k ≠ 102 → k ≠ 109 → R5 k = R0 k := fun k a b c d => (w1 k a b d).trans (F4.1 k a c d)
          have t5 : ∀ t, t ≠ 29 → t ≠ 30 → R5 89 t = R0 89 t := fun t a b => (w2 t a b).trans (F4.2 t a b)
          have hB5 : z_B n ck P sz Np bb sp sl C0 R5 := by
            refine ⟨hB.1, hB.2.1.of ⟨t5 1 (by decide) (by decide), k5 90 (by decide) (by decide) (by decide) (by decide), k5 91 (by decide) (by decide) (by decide) (by decide), k5 92 (by decide) (by decide) (by decide) (by decide), k5 98 (by decide) (by decide) (by decide) (by decide), k5 99 (by decide) (by decide) (by decide) (by decide), k5 100 (by decide) (by decide) (by decide) (by decide), k5 101 (by decide) (by decide) (by decide) (by decide)⟩, hB.2.2.1, hB.2.2.2.1, ?_, ?_⟩
            · rw [k5 90 (by decide) (by decide) (by decide) (by decide), k5 91 (by decide) (by decide) (by decide) (by decide), k5 98 (by decide) (by decide) (by decide) (by decide)]
              exact hB.2.2.2.2.1
            · rw [k5 90 (by decide) (by decide) (by decide) (by decide)]
              exact hB.2.2.2.2.2
          obtain ⟨a1, a2, a3, a4, a5, a6⟩ := z_waits hB hD hck hE (R := R4) (F4.1 91 (by decide) (by decide) (by decide)) hC (A := R5 97) (by rw [hR5])
          have I5 : z_I3 n ck P sz Np bb sp C0 R5 C4 R5 := ⟨⟨I4.1, I4.2.1, z_FR.rf R5⟩, fun f hf => by
            unfold z_F3
            rw [w1 102 (by decide) (by decide) (by decide)]
            exact hF4 f hf⟩
          rcases z_loop (rule := 5) (Inv := z_I3 n ck P sz Np bb sp C0 R5) (Φ := fun f _ _ => fk_wf (R5 97 f) f = false) hn (z_st5 hB5 a1) n 0 C4 R5 (by omega) I5 (fun f hf => by omega) with ⟨C6, R6, h6, k6, I6, hI⟩ | ⟨f, i, C6, R6, hf, h6, k6, v6, I6⟩
          · have r6 : fk_ru n ck P sz bb 1 5 C4 = fk_ru n ck P sz bb 0 6 C6 := z_ru_t h6
            have q6 : fk_kc n ck Np bb sp sl 1 5 R4 = fk_kc n ck Np bb sp sl 0 6 R6 := fk_kc_n Np bb sp sl (by rw [if_pos rfl, ← hR5]; exact k6)
            obtain ⟨I6, hF6⟩ := I6
            have e97 : R6 97 = R5 97 := I6.2.2.1 97 (by decide) (by decide) (by decide)
            refine Or.inr ⟨C6, R6, by rw [r1, r2, r3, r4, r6]; rfl, by rw [q1, q2, q3, q4, q6]; rfl, I6.1, I6.2.1, ⟨fun k a b c d => (I6.2.2.1 k a c d).trans (k5 k a b c d), fun t a b => (I6.2.2.2 t a b).trans (t5 t a b)⟩, hD, hT, hF6, ?_, ?_, ?_, ?_⟩
            · rw [e97]; exact ⟨a2, a3, hI, a4⟩
            · rw [e97]; exact a1
            · rw [e97]; exact a5
            · rw [e97]; exact a6
          · have q6 : fk_kc n ck Np bb sp sl 1 5 R4 = _ := fk_kc_s Np bb sp sl (by rw [if_pos rfl, ← hR5]; exact k6)
            rw [v6] at q6
            refine Or.inl ⟨5, f, i, C6, R6, by decide, by decide, by rw [r1, r2, r3, r4]; exact z_ru_f h6, by rw [q1, q2, q3, q4]; exact q6, I6.1.1, I6.1.2.1, ⟨fun k a b c d => (I6.1.2.2.1 k a c d).trans (k5 k a b c d), fun t a b => (I6.1.2.2.2 t a b).trans (t5 t a b)⟩⟩
        · have q4 : fk_kc n ck Np bb sp sl 2 4 R3 = _ := fk_kc_s Np bb sp sl k4
          rw [v4] at q4
          exact Or.inl ⟨4, f, i, C4, R4, by decide, by decide, by rw [r1, r2, r3]; exact z_ru_f h4, by rw [q1, q2, q3]; exact q4, I4.1.1, I4.1.2.1, I4.1.2.2.FW⟩
      · have q3 : fk_kc n ck Np bb sp sl 3 3 R2 = _ := fk_kc_s Np bb sp sl k3
        rw [v3] at q3
        exact Or.inl ⟨3, f, i, C3, R3, by decide, by decide, by rw [r1, r2]; exact z_ru_f h3, by rw [q1, q2]; exact q3, I3.1, I3.2.1, I3.2.2.FW⟩
    · have q2 : fk_kc n ck Np bb sp sl 4 2 R1 = _ := fk_kc_s Np bb sp sl k2
      rw [v2] at q2
      exact Or.inl ⟨2, f, i, C2, R2, by decide, by decide, by rw [r1]; exact z_ru_f h2, by rw [q1]; exact q2, I2.1, I2.2.1, I2.2.2.FW⟩
  · have q1 : fk_kc n ck Np bb sp sl 5 1 R0 = _ := fk_kc_s Np bb sp sl k1
    rw [v1] at q1
    exact Or.inl ⟨1, f, i, C1, R1, by decide, by decide, z_ru_f h1, q1, I1.1, I1.2.1, I1.2.2.FW⟩
end
