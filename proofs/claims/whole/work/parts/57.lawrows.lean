/-! Rows of the law's own walk: a call of a helper method, the script, the ends. -/
section FKL
variable {p : Program} {l : Launch} {e : Env} {R : Room} {s : State} {m : MethodId} {args : Array Value} {below : List Frame} {meth : Method} {c : Code} {H : Heap} {locs : List Loc} {cells slots : Nat} {Q : State → Prop}
variable {cc bytes : ByteArray} {nL maxL n index : Nat} {own : String} {pc : Nat} {ls : Array Slot} {rest st As : List Value} {g : fk_G} {ov ov' : Int64} {M M' : fk_M} {y : MethodName} {rm : Room} {v : Int32} {hh : List (Nat × Nat × Nat × Nat)}
theorem fk_csw (S : fk_S p m c cc nL s args own) (E : fk_E g s s.heap) (Y : fk_ys g s s.heap) (G : fk_H g ov M s H locs)
    (hM : fk_CH l y bytes maxL hh rm g ov ov' M M' As v) (hcode : Cond.codeWith y bytes maxL (some .int) hh ∈ fk_ALL) (hstat : Cond.static y ∈ fk_ALL) (hini : Cond.initialized y.cls ∈ fk_ALL) (hdes : y.cls ≠ "java/lang/invoke/MethodHandle" ∧ y.cls ≠ "java/lang/invoke/VarHandle" ∧ (parseMethodDescriptor y.desc).map (fun d => d.parameters.length) = some n) (hl : Cond.methodLink own index y ∈ fk_ALL) (hrm : rm.cells = 1 ∧ rm.slots = 6) (hR : rm.frames + 1 ≤ R.frames ∧ 8 + (maxL + 11) + rm.locals ≤ R.locals)
    (hn : As.length = n) (hst : st = As.reverse ++ rest) (hsz : ls.size = nL) (hroom : (rest.map fun v => v.category).sum ≤ 8) (hdg : decode cc pc = .ok (.invokestatic index, 3)) (hf : cells + 1 ≤ R.cells ∧ slots + 6 ≤ R.slots)
    (kk : ∀ (H : Heap) (locs : List Loc), fk_H g ov' M' s H locs → W p l e R s m args below meth c H locs (cells + 1) (slots + 6) Q (F0 m (pc + 3) ls (.int v :: rest))) : W p l e R s m args below meth c H locs cells slots Q (F0 m pc ls st) := by
  have hr : va_Run p l e R s m args below meth c H locs cells slots 1 6 (F0 m pc ls st) rest (va_Qi (fun r (_ : Unit) => r = v) (fun _ t => fk_Wd g ov' M' t) (fk_A g) As.toArray) (fk_A g) := by
    have hG := fk_gi (w := Cond.codeWith y bytes maxL (some .int) hh) hcode
    have hK : Back l R p e below s args y 3 8 (PreOf R 1 6 (va_Pc As (fun U => fk_Wd g ov M U ∧ fk_ys g U U.heap))) (PostOf (va_Qi (fun r (_ : Unit) => r = v) (fun _ t => fk_Wd g ov' M' t) (fk_A g)) 1 6 (fk_A g)) :=
      va_backW (hh := hh) (bytes := bytes) (maxL := maxL) (ret := some .int) hM fk_blindY hrm.1 hrm.2 hR.1 hR.2 (pay_in S.2.2.2.2 hG) List.mem_cons_self (fun a' U hW => word_at hW (good_of_word (fk_good _ hini)) (S.2.2.2.2 _ hini))
    obtain ⟨hx, hb, hml, ho, hts⟩ := S
    intro T hT X
    obtain ⟨mk, methM, cM, hnamed, hmethM, -, -, -, -, -, -, hsigM⟩ := Cond.codeWith_spec (hts _ hcode)
    have hstatic : methM.isStatic = true := Cond.static_spec hnamed hmethM (hts _ hstat)
    obtain ⟨kP, hkP, -⟩ := className_of_methodNamed hnamed
    have hinitP : kP.init = .initialized := Cond.initialized_spec (findClass_of_methodNamed hnamed) hkP (hts _ hini)
    have hlen : As.length = methM.sig.parameters.length := by
      have h2 := hdes.2.2
      rw [hsigM] at h2
      exact hn.trans (Option.some.inj h2).symm
    obtain ⟨vm₁, X₁, hstep₁⟩ := X.invokestatic hx ho (hts _ hl) hnamed hmethM hstatic hkP hinitP ⟨hdes.1, hdes.2.1⟩ (g := F0 m pc ls st) rfl (argsL := As) (rest := rest) hlen hst (by rw [hb]; exact hdg)
    obtain ⟨v2, ⟨U', l2, c2, s2⟩, X', ⟨g', mk', t, L, e1, e2, hq, h1, hL, h2, h3⟩, hsteps⟩ := hK m meth c ⟨T.setVm vm₁, locs, cells, slots⟩ (F0 m pc ls rest) (.invokestatic index) mk As.toArray X₁ rfl (hsz.trans hml.symm) (by rw [hb]; exact hdg) (lv_room (m := m) (pc := pc) (ls := ls) (rest := rest) hroom) (X₁.named hnamed)
      ⟨hf.1, hf.2, rfl, fk_pre E G hT X₁.warmed, Y.to G.2.2 hT X₁.warmed⟩
    dsimp only [Pt.U, Pt.locs, Pt.cells, Pt.slots] at X' e1 e2 h1 h2 h3 hsteps
    subst h1; subst h2; subst h3
    exact ⟨v2, (T.setVm vm₁).calling g' mk' As.toArray, t, U', L, hT, X', hL, e1, e2, hq, fun target h => hstep₁ _ fun acts => by rw [doInvoke_state]; exact hsteps.trans h⟩
  refine va_calli hr G.2.2 (fun _ _ h => h) (fun _ h => h) (fun r u t H1 locs1 ht hvm hp hB hz hk1 hS1 => ?_)
  subst hp
  exact kk H1 locs1 (fk_back ht hB hS1)
theorem fk_sl {b L : Nat} {xs : Nat → Int32} (S : fk_S p m c cc nL s args own) (hX : va_X b L xs s s.heap) (hbl : b < s.heap.size) (hbA : ¬ fk_A g b) (G : fk_H g ov M s H locs) (i : Nat) (hi : i < L) (hL : L ≤ 2048) (hdg : decode cc pc = .ok (.iaload, 1))
    (kk : W p l e R s m args below meth c H locs cells slots Q (F0 m (pc + 1) ls (.int (xs i) :: rest))) : W p l e R s m args below meth c H locs cells slots Q (F0 m pc ls (.int (nI i) :: .ref b :: rest)) := by
  refine va_sld S.1 S.2.1 hX hbl hbA G.2.2 (vp_in_nI hi (by omega)) hdg ?_
  rw [nI_clamp (by omega)]
  exact kk
theorem fk_cmp4 {i L : Nat} (hi : i ≤ 2048) (hL : L ≤ 2048) : (Int32.ofNat L - nI 4 < nI i) ↔ L < i + 4 := by
  show (nI L - nI 4 < nI i) ↔ L < i + 4
  by_cases h : 4 ≤ L
  · rw [pk_sub h, nI_ltI (by omega) (by omega)]
    omega
  · have h2 : (nI i).toInt = i := nI_toInt (by omega)
    have h4 : (nI L - nI 4).toInt < 0 := by
      rcases (by omega : L = 0 ∨ L = 1 ∨ L = 2 ∨ L = 3) with rfl | rfl | rfl | rfl <;> decide
    rw [Int32.lt_iff_toInt_lt]
    omega
end FKL
