/-! Catches: the search of a handler where the catch's class may be linked but not resolved; a call that throws and is caught; the law's long[1]; the law's helper methods as callees. -/
def fk_nc (C D : String) (U : State) : Prop := ∃ c d, U.vm.findClass C = some c ∧ U.vm.findClass D = some d ∧ U.vm.assignable c d = false
theorem fk_nc.moved {C D : String} {u U : State} (h : u.vm.Alike U.vm) (hn : fk_nc C D u) : fk_nc C D U := by
  obtain ⟨c, d, h1, h2, h3⟩ := hn
  exact ⟨c, d, by rw [h.findClass]; exact h1, by rw [h.findClass]; exact h2, by rw [h.assignable]; exact h3⟩
/-- a table of handlers, as this pc searches it: those of other classes first, then C's own -/
def fk_tb (s : State) (own C : String) (pc hpc : Nat) : List ExceptionTableEntry → Prop
  | [] => False
  | x :: t => covers x pc = true ∧ x.catchType ≠ 0 ∧ ∃ D, Cond.classLink own x.catchType D ∈ fk_ALL ∧ ((D = C ∧ x.handlerPc = hpc) ∨ (fk_nc C D s ∧ fk_tb s own C pc hpc t))
theorem fk_find {s : State} {args : Array Value} {e : Env} {own C : String} {f : JFrame} {x : Addr} {hpc : Nat} {cell : Cell} (hpl : e.platform.magicAccessors = ({} : Platform).magicAccessors) (ha : ∀ w, w ∈ fk_ALL → w.before args s = true) (hown : s.vm.findClass own = some f.method.cls) (hC : s.vm.findClass C = some cell.cls) (hs : cell.vm.isStatics = false) :
    ∀ (tbl : List ExceptionTableEntry) (U : State), s.WarmedH U.vm → U.heap[x]? = some cell → fk_tb s own C f.pc hpc tbl →
      ∃ vm', s.WarmedH vm' ∧ ∀ (Q : Handler → Pre) (E : CtlPost) (d : Bool) (acts : List Action), wp (findHandler.go f x tbl) Q E e d acts U ↔ Q (.found hpc) d acts (U.setVm vm') := by
  intro tbl
  induction tbl with
  | nil => intro U _ _ h; exact h.elim
  | cons y t ih =>
    intro U hW hcell h
    obtain ⟨hy, h0, D, hl, h⟩ := h
    obtain ⟨cD, hD, hcl⟩ := Cond.classLink_spec hown (ha _ hl) e.platform hpl
    obtain ⟨dk, _, _, kt, hd, _, _, _, _, hkt, _, hopen⟩ := hcl.here
    have hcl₀ := hW.classLinks hcl
    have hW' : s.WarmedH (U.vm.noted f.method.cls y.catchType (.cls cD)) := hW.noted hd hopen (State.rightAt_cls hcl)
    obtain ⟨kc, hkc⟩ := Vm.classAt_of_findClass hC
    obtain ⟨kc', hkc', -⟩ := hW'.alike.2.2 _ _ hkc
    obtain ⟨kt', hkt', -⟩ := hW'.alike.2.2 _ _ hkt
    obtain ⟨ha1, ht1⟩ := (resolveClass_links e.toSetting hcl₀).op (op := VmOp.resolveClass f.method.cls y.catchType) rfl
    have hno : ∀ k, cell.vm ≠ .statics k := VmData.ne_statics_of hs
    simp only [covers] at hy
    rcases h with ⟨rfl, rfl⟩ | ⟨⟨c1, d1, h1, h2, h3⟩, ht⟩
    · have e1 : cD = cell.cls := Option.some.inj (hD.symm.trans hC)
      subst e1
      refine ⟨_, hW', fun Q E d acts => ?_⟩
      simp [findHandler.go, hy, h0, ha1, ht1, hcell, hno, hkc', va_asg, VmOp.dirties, VmOp.acts]
    · cases hC.symm.trans h1
      cases hD.symm.trans h2
      have hA : (U.vm.noted f.method.cls y.catchType (.cls cD)).assignable cell.cls cD = false := by rw [hW'.alike.assignable]; exact h3
      obtain ⟨vm', q1, q2⟩ := ih (U.setVm (U.vm.noted f.method.cls y.catchType (.cls cD))) hW' hcell ht
      refine ⟨vm', q1, fun Q E d acts => ?_⟩
      have q3 := q2 Q E d acts
      refine Iff.trans ?_ q3
      simp [findHandler.go, hy, h0, ha1, ht1, hcell, hno, hkc', hkt', hA, VmOp.dirties, VmOp.acts]
theorem fk_step {tb : Tables} {e : Env} {T target : State} {f : JFrame} {c : Code} {below : List Frame} {a : Addr} (h : At T f.method c below) {meth : Method} (hm : T.vm.method? f.method = some meth) (hc : meth.code = some c) {hpc : Nat} {vm' : Vm}
    (hfind : ∀ (Q : Handler → Pre) (E : CtlPost) (d : Bool) (acts : List Action), wp (findHandler.go f a c.exceptionTable.toList) Q E e d acts ((T.setTop f).pushFrame (.throwing a)) ↔ Q (.found hpc) d acts (((T.setTop f).pushFrame (.throwing a)).setVm vm'))
    (hrest : Steps tb e below ((T.setVm vm').setTop { f with pc := hpc, stack := [.ref a] }) target) : Steps tb e below ((T.setTop f).pushFrame (.throwing a)) target := by
  obtain ⟨hgo, hw⟩ := h.throwing a
  refine Steps.head hgo hw ?_
  have hmU : ((T.setTop f).pushFrame (.throwing a)).vm.method? f.method = some meth := by simpa [State.pushFrame, State.setFrames] using hm
  have hst : ∀ r : List Frame, (stepThrowing e ((T.setTop f).pushFrame (.throwing a)) a (.java f :: r)).Is ((((T.setTop f).pushFrame (.throwing a)).setVm vm').setFrames (.java { f with pc := hpc, stack := [.ref a] } :: r)) [] := by
    intro r
    simp only [stepThrowing, searchFrame, vmDo]
    generalize hr : Sem.go _ e false [] ((T.setTop f).pushFrame (.throwing a)) = res
    obtain ⟨as, rfl, ha⟩ := Sem.eq_ok_of hr (a := Handler.found hpc) (s' := ((T.setTop f).pushFrame (.throwing a)).setVm vm') (acts' := []) (by simp [W.findHandler_eq hmU hc, hfind])
    exact ⟨rfl, ha⟩
  rw [stepThread_throwing (frames_entered h.top _), (hst _).1]
  obtain ⟨g₀, hg⟩ := Option.isSome_iff_exists.mp h.top
  obtain ⟨r, hr⟩ := State.topJava?_eq_some.mp hg
  have hr' : (T.setVm vm').frames = .java g₀ :: r := hr
  rw [State.setTop_of_frames _ hr'] at hrest
  have e1 : ∀ (u : State) (F G : List Frame), ((u.setFrames F).setVm vm').setFrames G = (u.setVm vm').setFrames G := by
    intro u F G
    show ((u.setVm vm').setFrames F).setFrames G = _
    rw [State.setFrames_setFrames]
  rw [hr, List.tail_cons, State.pushFrame, e1, State.setTop_of_frames _ hr, e1]
  exact hrest
section FKX
variable {p : Program} {l : Launch} {e : Env} {R : Room} {s : State} {m : MethodId} {args : Array Value} {below : List Frame} {meth : Method} {c : Code} {H : Heap} {locs : List Loc} {cells slots : Nat} {Q : State → Prop}
variable {cc bytes : ByteArray} {nL maxL n index : Nat} {own : String} {pc : Nat} {ls : Array Slot} {rest st As : List Value} {g : fk_G} {ov : Int64} {M M' : fk_M} {y : MethodName} {ret : Option FieldType} {rm : Room} {v : Int32}
set_option maxHeartbeats 2000000 in
/-- a call that throws a C, caught in this method -/
theorem fk_cxv {C : String} {hpc : Nat} (S : fk_S p m c cc nL s args own) (E : fk_E g s s.heap) (Z : fk_xs g s s.heap) (G : fk_H g ov M s H locs) (k : Nat) (hk : k < 111) {ci : Nat} {fs : List Value} (he : fk_cell g ov k (M k) = .inr (ci, fs)) {T : u_T} {N : Nat} (hc : fk_cl[ci]? = some (y.cls, T, N))
    (hM : fk_CX l y bytes maxL ret rm g ov M M' (.ref (fk_a g k) :: As) C) (hm : fk_MI y bytes maxL ret n) (hl : Cond.methodLink own index y ∈ fk_ALL) (hrm : rm.cells = 1 ∧ rm.slots = 6) (hR : rm.frames + 1 ≤ R.frames ∧ 8 + (maxL + 11) + rm.locals ≤ R.locals)
    (hn : As.length = n) (hst : st = As.reverse ++ .ref (fk_a g k) :: rest) (hsz : ls.size = nL) (hroom : (rest.map fun v => v.category).sum ≤ 8) (hdg : decode cc pc = .ok (.invokevirtual index, 3)) (hf : cells + 1 ≤ R.cells ∧ slots + 6 ≤ R.slots)
    (htb : fk_tb s own C pc hpc c.exceptionTable.toList)
    (kk : ∀ (x : Nat) (H : Heap) (locs : List Loc), fk_H g ov M' s H locs → W p l e R s m args below meth c H locs (cells + 1) (slots + 6) Q (F0 m hpc ls [.ref x])) : W p l e R s m args below meth c H locs cells slots Q (F0 m pc ls st) := by
  subst hst
  obtain ⟨hx, hb, hml, ho, hts⟩ := S
  obtain ⟨hm1, hm2, hm3, hm4, hm5⟩ := hm
  obtain ⟨cellB, hcB, hoB, hclB⟩ := va_recv E.2.1 G.1 hc ((fk_wl_at hk).trans (by rw [he]))
  have hclB : s.vm.findClass y.cls = some cellB.cls := hclB
  intro T0 hT X
  have hpl : e.platform.magicAccessors = ({} : Platform).magicAccessors := by rw [X.admits.platform]
  obtain ⟨mk, methM, hnamed, hmethM, hstM, habM⟩ := Cond.instanceMethod_spec (hts _ hm2)
  obtain ⟨methM', cM, hmethM', hcM, -, hlM, -, -, -, hsigM⟩ := Cond.code_spec hnamed (hts _ hm1)
  cases hmethM.symm.trans hmethM'
  obtain ⟨c2, r2, m2, q1, q2, q3, q4, kP, hkP, hkPi⟩ := Cond.selects_spec (hts _ hm3)
  cases hclB.symm.trans q1
  cases (State.methodFound?_of_named hnamed ⟨hm5.1, hm5.2.1⟩).symm.trans q2
  cases hnamed.symm.trans q3
  have hselP : selectMethod e.platform s.vm cellB.cls mk = .method mk := by rw [Launch.admits_selectMethod X.admits]; exact q4
  have hlenA : As.length = methM.sig.parameters.length := by
    have h2 := hm5.2.2
    rw [hsigM] at h2
    exact hn.trans (Option.some.inj h2).symm
  obtain ⟨vm₁, X₁, hstep₁⟩ := X.invokevirtual hx ho (hts _ hl) hnamed hmethM hstM hkP hkPi ⟨hm5.1, hm5.2.1⟩ (a := fk_a g k) (cell := cellB) (by rw [hT]; exact hcB)
    (fun z h => by rw [h] at hoB; cases hoB) hselP hmethM habM hkP hkPi (g := F0 m pc ls (As.reverse ++ .ref (fk_a g k) :: rest)) rfl (argsL := As) (rest := rest) hlenA rfl (by rw [hb]; exact hdg)
  have hT₁ : (T0.setVm vm₁).heap = H := hT
  have hdg' : decode c.code (F0 m pc ls rest).pc = .ok (.invokevirtual index, 3) := by rw [hb]; exact hdg
  have hnU : (T0.setVm vm₁).methodNamed? y = some mk := X₁.named hnamed
  have hGI := fk_gi (w := Cond.code y bytes maxL ret) hm1
  have hws : ∀ w ∈ (Cond.code y bytes maxL ret :: fk_ALL), w.before (Value.ref (fk_a g k) :: As).toArray (T0.setVm vm₁) = true := fun w hw => pay_in hts hGI w hw _ _ X₁.warmed
  obtain ⟨methY, cY, hmY, hcY, -, hlY, -, -, -, -⟩ := Cond.code_spec hnU (hws _ List.mem_cons_self)
  obtain ⟨kY, hkY, -⟩ := className_of_methodNamed hnU
  have hinitY : kY.init = .initialized := Cond.initialized_spec (findClass_of_methodNamed hnU) hkY (hws _ (List.mem_cons_of_mem _ hm4))
  have h : At (T0.setVm vm₁) (F0 m pc ls rest).method c below := X₁.here
  have happ : (headSpec (Cond.code y bytes maxL ret :: fk_ALL) rm).appliesLoose y e.platform ((T0.setVm vm₁).calling (F0 m pc ls rest) mk (Value.ref (fk_a g k) :: As).toArray) = true :=
    Spec.appliesLoose_calling (g := F0 m pc ls rest) h hdg' hnU hkY hinitY
      (X₁.room_calling (g := F0 m pc ls rest) (R' := rm) (hsz.trans hml.symm) hmY hcY hR.1 (by
        have hz : ((F0 m pc ls rest).stack.map fun v => v.category).sum ≤ 8 := hroom
        have h9 := hR.2
        rw [hlY]
        show 2 * 0 + _ + _ + _ ≤ _
        omega) (by rw [hrm.1]; exact hf.1) (by rw [hrm.2]; exact hf.2)) (atoms_intro hws)
  obtain ⟨mid, hmid⟩ := h.above
  have hfr : ((T0.setVm vm₁).setTop (F0 m pc ls rest)).frames = (.java (F0 m pc ls rest) :: mid) ++ below := by rw [State.frames_setTop' _ h.top, hmid]; rfl
  have hPre : va_Pc (.ref (fk_a g k) :: As) (fun U => fk_Wd g ov M U ∧ fk_xs g U U.heap) (Value.ref (fk_a g k) :: As).toArray ((T0.setVm vm₁).calling (F0 m pc ls rest) mk (Value.ref (fk_a g k) :: As).toArray) :=
    fk_blindX _ _ _ _ ⟨rfl, fk_pre E G hT₁ X₁.warmed, Z.to G.2.2 hT₁ X₁.warmed⟩
  obtain ⟨o, s₂, hsteps, -, hend, hq⟩ := Steps.callFree hM p X.admits X.cas X.clock (acts := []) hfr happ hPre trivial
  obtain ⟨x, rfl, ⟨hWd, hF, ce, hce, hceC, hces⟩, L, hWL, hsL, hfree⟩ := hq
  rw [State.frames_setTop' _ h.top, X₁.tail] at hend
  obtain ⟨T', X', hW2, hsame2, hs₂⟩ := X₁.outOfThrown (g := F0 m pc ls rest) rfl hend hWL hsL
  have hvm' : s₂.vm = T'.vm := by rw [hs₂]; exact Stand.throwing_vm _ _ _
  have hhp' : s₂.heap = T'.heap := by rw [hs₂]; exact Stand.throwing_heap _ _ _
  have hWs : s.WarmedH s₂.vm := by rw [hvm']; exact X'.warmed
  have hCs : s.vm.findClass C = some ce.cls := by rw [← hWs.alike.findClass]; exact hceC
  obtain ⟨vm', hWv, hfind⟩ := fk_find (f := F0 m pc ls rest) (x := x) (hpc := hpc) hpl hts ho hCs hces c.exceptionTable.toList s₂ hWs hce htb
  have hF' : H.size ≤ s₂.heap.size ∧ ∀ q : Nat, q < H.size → ¬ fk_A g q → s₂.heap[q]? = H[q]? := by
    rw [← hT]
    exact hF
  rw [hhp'] at hF'
  have hSn : va_S (fk_A g) s.heap T'.heap (locs ++ L) := by
    refine ⟨Nat.le_trans G.2.2.1 hF'.1, fun q h1 h2 => ?_, fun q hq => ?_⟩
    · rw [hF'.2 q (Nat.lt_of_lt_of_le h1 G.2.2.1) h2]
      exact G.2.2.2.1 q h1 h2
    · rcases List.mem_append.mp hq with h4 | h4
      · exact G.2.2.2.2 q h4
      · exact hfree q h4
  have hGn : fk_H g ov M' s T'.heap (locs ++ L) := ⟨by rw [← hhp']; exact hWd.2.1, hWd.2.2, hSn⟩
  obtain ⟨t2, a1, b1⟩ := kk x T'.heap (locs ++ L) hGn (T'.setVm vm') rfl (X'.noted hWv)
  refine ⟨t2, hstep₁ _ (fun acts => ?_), b1⟩
  rw [doInvoke_state]
  refine hsteps.trans ?_
  rw [hs₂] at hfind ⊢
  exact fk_step (f := F0 m pc ls rest) X'.here X'.method' X'.code hfind a1
end FKX
