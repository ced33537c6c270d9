/-! The world while it is made: the first n cells, each with what it holds now; a cell's number is its place behind the own heap's begin. -/
def fk_ws (g : fk_G) (n : Nat) (C : Nat → va_E) : va_W := (List.range n).map (fun k => (fk_a g k, C k))
theorem fk_ws_at {g : fk_G} {n : Nat} {C : Nat → va_E} {k : Nat} (hk : k < n) : (fk_ws g n C)[k]? = some (fk_a g k, C k) := by
  unfold fk_ws
  rw [List.getElem?_map, List.getElem?_range hk]
  rfl
theorem fk_ws_len {g : fk_G} {n : Nat} {C : Nat → va_E} : (fk_ws g n C).length = n := by simp [fk_ws]
theorem fk_ws_lt {g : fk_G} {n : Nat} {C : Nat → va_E} {k : Nat} {q : Nat × va_E} (h : (fk_ws g n C)[k]? = some q) : k < n := by
  have := (List.getElem?_eq_some_iff.mp h).1
  rwa [fk_ws_len] at this
theorem fk_ws_set {g : fk_G} {n : Nat} {C : Nat → va_E} {k : Nat} (x : va_E) : (fk_ws g n C).set k (fk_a g k, x) = fk_ws g n (va_up C k x) := by
  apply List.ext_getElem?
  intro j
  by_cases hj : j < n
  · rw [fk_ws_at hj]
    by_cases h : j = k
    · subst h
      rw [List.getElem?_set_self (by rw [fk_ws_len]; exact hj), va_up_self]
    · rw [List.getElem?_set_ne (Ne.symm h), fk_ws_at hj, va_up_ne _ _ h]
  · rw [List.getElem?_eq_none (by simp [fk_ws]; omega), List.getElem?_eq_none (by simp [fk_ws]; omega)]
theorem fk_ws_eq {g : fk_G} {n : Nat} {C C' : Nat → va_E} (h : ∀ k, k < n → C k = C' k) : fk_ws g n C = fk_ws g n C' := by
  unfold fk_ws
  exact List.map_congr_left (fun k hk => by rw [h k (List.mem_range.mp hk)])
/-- the cells lie one behind the other from the own heap's begin on -/
def fk_row (g : fk_G) : Prop := ∀ k, fk_a g k = g.2.2.2.1 + k
theorem fk_ws_D {g : fk_G} (hg : fk_row g) {n : Nat} {C : Nat → va_E} : va_D (fk_A g) (fk_ws g n C) := by
  refine ⟨fun i j x y hx hy h => ?_, fun k q hq => ?_⟩
  · rw [fk_ws_at (fk_ws_lt hx)] at hx
    rw [fk_ws_at (fk_ws_lt hy)] at hy
    cases hx
    cases hy
    have h : fk_a g i = fk_a g j := h
    rw [hg, hg] at h
    omega
  · rw [fk_ws_at (fk_ws_lt hq)] at hq
    cases hq
    show g.2.2.2.1 ≤ fk_a g k
    rw [hg]
    omega
/-- a constructor's world -/
def fk_Wb (g : fk_G) (n : Nat) (C : Nat → va_E) (U : State) : Prop := fk_E g U U.heap ∧ va_AO "FlowDesk$Flow" U ∧ U.heap.size = g.2.2.2.1 + n ∧ va_P g.1 fk_cl (fk_ws g n C) U.heap
def fk_BH (g : fk_G) (n : Nat) (C : Nat → va_E) (s : State) (H : Heap) (locs : List Loc) : Prop := va_P g.1 fk_cl (fk_ws g n C) H ∧ va_S (fk_A g) s.heap H locs
theorem fk_blindB {g : fk_G} {n : Nat} {C : Nat → va_E} {av : List Value} : FrameBlind (va_Pc av (fk_Wb g n C)) := fun a U f mk q => ⟨q.1, q.2.1.same (U := U.calling f mk a) rfl rfl, va_AO.moved (u := U) (Vm.Alike.refl _) q.2.2.1, q.2.2.2⟩
theorem fk_preB {g : fk_G} {n : Nat} {C : Nat → va_E} {s U : State} {H : Heap} {locs : List Loc} (E : fk_E g s s.heap) (O : va_AO "FlowDesk$Flow" s) (hz : H.size = g.2.2.2.1 + n) (G : fk_BH g n C s H locs) (hU : U.heap = H) (hW : s.WarmedH U.vm) : fk_Wb g n C U :=
  ⟨E.to G.2 hU hW, va_AO.moved hW.alike O, by rw [hU]; exact hz, by rw [hU]; exact G.1⟩
theorem fk_beginB {g : fk_G} {n : Nat} {C : Nat → va_E} {s : State} (h : fk_Wb g n C s) : fk_BH g n C s s.heap [] := ⟨h.2.2.2, va_S.rf⟩
abbrev fk_CN (l : Launch) (y : MethodName) (cc : ByteArray) (maxL : Nat) (rm : Room) (g : fk_G) (n n' : Nat) (C C' : Nat → va_E) (av : List Value) (mc ms : Nat) : Prop :=
  Met l y (.code y cc maxL none :: fk_ALL) rm (va_Pc av (fk_Wb g n C)) (va_Qv (fun (_ : Unit) => True) (fun _ t => fk_Wb g n' C' t) (fk_A g)) mc ms (fk_A g)
abbrev fk_rb9 (n mc ms : Nat) : Room := { frames := n, cells := mc, slots := ms, locals := 64 * n }
section FKB
variable {p : Program} {l : Launch} {e : Env} {R : Room} {s : State} {m : MethodId} {args : Array Value} {below : List Frame} {meth : Method} {c : Code} {H : Heap} {locs : List Loc} {cells slots : Nat} {Q : State → Prop}
variable {cc bytes : ByteArray} {nL maxL n0 index : Nat} {own host : String} {pc : Nat} {ls : Array Slot} {rest st As : List Value} {g : fk_G} {n n' : Nat} {C C' : Nat → va_E} {y : MethodName} {rm : Room} {mc ms : Nat}
/-- how large the heap is: no cell but the world's was made -/
theorem fk_bsz (hg : fk_row g) {T : State} (X : Stand p l e R s m args below meth c T locs cells slots) (hT : T.heap = H) {n0 : Nat} (h0 : s.heap.size = g.2.2.2.1 + n0) (hn : n = n0 + cells) (G : fk_BH g n C s H locs) : H.size = g.2.2.2.1 + n := by
  have h1 := X.heapSize
  rw [hT] at h1
  have h2 := G.2.1
  by_cases hz : n = 0
  · omega
  · have h3 := (G.1 (n - 1) _ (fk_ws_at (by omega))).lt
    have h3 : fk_a g (n - 1) < H.size := h3
    rw [hg] at h3
    omega
theorem fk_ofN {av : List Value} (hy : plainName y.cls = true) (hlen : (lg_sl av).length ≤ maxL)
    (body : ∀ (p : Program) (e : Env) (s : State) (m : MethodId) (args : Array Value) (below : List Frame) (meth : Method) (c : Code) (ls : Array Slot), fk_S p m c cc maxL s args y.cls → meth.sig.returnType = none → meth.locks = false → meth.name = y.name → fk_E g s s.heap → va_AO "FlowDesk$Flow" s → s.heap.size = g.2.2.2.1 + n → fk_BH g n C s s.heap [] → lv_has ls maxL (lv_args 0 av) →
      W p l e rm s m args below meth c s.heap [] 0 0 (MQ below (va_Qv (fun (_ : Unit) => True) (fun _ t => fk_Wb g n' C' t) (fk_A g)) args s mc ms (fk_A g)) (F0 m 0 ls [])) : fk_CN l y cc maxL rm g n n' C C' av mc ms := by
  refine Met.ofW (cc := cc) (maxL := maxL) (ret := none) hy rfl ?_
  intro p e s m args below meth c s₁ B hml hv
  obtain ⟨rfl, hv⟩ := hv
  have hts := atoms_spec (ws := .code y cc maxL none :: fk_ALL) B.pre
  rw [lg_entry_eq]
  exact body p e s m _ below meth c _ ⟨B.exec, B.bytes, hml, findClass_of_methodNamed B.named, fun w h => hts w (List.mem_cons_of_mem _ h)⟩ B.returns B.notSynchronized (name_of_methodNamed B.named B.method).1 hv.1 hv.2.1 hv.2.2.1 (fk_beginB hv) (lv_entry av hlen)
theorem fk_bret (hg : fk_row g) (S : fk_S p m c cc nL s args own) (hr : meth.sig.returnType = none) (hk : meth.locks = false) (E : fk_E g s s.heap) (O : va_AO "FlowDesk$Flow" s) {n0 : Nat} (h0 : s.heap.size = g.2.2.2.1 + n0) (hcn : n = n0 + cells) (G : fk_BH g n C s H locs) (hn : n = n') (hC : ∀ k, k < n → C k = C' k) (hc : cells = mc ∧ slots = ms) (hdg : decode cc pc = .ok (.return_, 1)) :
    W p l e R s m args below meth c H locs cells slots (MQ below (va_Qv (fun (_ : Unit) => True) (fun _ t => fk_Wb g n' C' t) (fk_A g)) args s mc ms (fk_A g)) (F0 m pc ls []) := by
  obtain ⟨rfl, rfl⟩ := hc
  subst hn
  intro T hT X
  have hz := fk_bsz hg X hT h0 hcn G
  exact W.vret S.1 S.2.1 hr (fun t ht hW => ⟨⟨(), rfl, trivial, by have h := fk_preB E O hz G ht hW; unfold fk_Wb at h ⊢; rw [fk_ws_eq hC] at h; exact h⟩, G.2.F ht⟩) G.2.2.2 hdg hk T hT X
/-- Object.<init> -/
theorem fk_bob (S : fk_S p m c cc nL s args own) {idx : Nat} (hl : Cond.methodLink own idx Lib.objectInit ∈ fk_ALL) (hsz : ls.size = nL) {q : Nat} (hR : 1 ≤ R.frames ∧ 12 ≤ R.locals) (hdg : decode cc pc = .ok (.invokespecial idx, 3)) (kk : W p l e R s m args below meth c H locs cells slots Q (F0 m (pc + 3) ls [])) : W p l e R s m args below meth c H locs cells slots Q (F0 m pc ls [.ref q]) :=
  W.objInit S.1 S.2.1 S.2.2.2.1 (S.2.2.2.2 _ hl) (S.2.2.2.2 _ i_22) (S.2.2.2.2 _ i_23) rfl (by rw [S.2.2.1]; exact hsz) rfl hdg hR.1 (by show 2 * 0 + 0 + 12 ≤ _; omega) kk
theorem fk_bget (S : fk_S p m c cc nL s args own) (E : fk_E g s s.heap) (G : fk_BH g n C s H locs) (k : Nat) (hk : k < n) {ci : Nat} {fs : List Value} (he : C k = .inr (ci, fs)) {Cn : String} {T : u_T} {N : Nat} (hc : fk_cl[ci]? = some (Cn, T, N)) (j : Nat) (hj : j < N) (hd : (T j).1 = Cn)
    (hlink : Cond.fieldLink own index Cn (T j).2.1 (T j).2.2.1 ∈ fk_ALL) {v : Value} (hv : fs[j]? = some v) (hdg : decode cc pc = .ok (.getfield index, 3)) (kk : W p l e R s m args below meth c H locs cells slots Q (F0 m (pc + 3) ls (v :: rest))) : W p l e R s m args below meth c H locs cells slots Q (F0 m pc ls (.ref (fk_a g k) :: rest)) :=
  va_get (D := g.1) S.1 S.2.1 S.2.2.2.2 (fk_hin ci Cn T N hc) S.2.2.2.1 E.2.1 G.1 k ((fk_ws_at hk).trans (by rw [he])) hc j hj (S.2.2.2.2 _ hlink) (fun x h => by rw [hd] at h; exact h) hv hdg kk
/-- a final field, in its class's constructor -/
theorem fk_bpF (hg : fk_row g) (S : fk_S p m c cc nL s args own) (E : fk_E g s s.heap) (hnm : meth.name = "<init>") (G : fk_BH g n C s H locs) (k : Nat) (hk : k < n) {ci : Nat} {fs : List Value} (he : C k = .inr (ci, fs)) {T : u_T} {N : Nat} (hc : fk_cl[ci]? = some (own, T, N)) (j : Nat) (hj : j < N) (hd : (T j).1 = own)
    (hlink : Cond.fieldLink own index own (T j).2.1 (T j).2.2.1 ∈ fk_ALL) (hfin : (T j).2.2.2 = true) {v : Value} {fs' : List Value} (hfs : fs.set j v = fs') {ty : FieldType} (hty : parseFieldDescriptor (T j).2.2.1 = some ty) (hn : narrow ty v = v) (hfit : fits ty v = true) (hlen : j < fs.length) (hdg : decode cc pc = .ok (.putfield index, 3))
    (kk : ∀ (H : Heap) (locs : List Loc), fk_BH g n (va_up C k (.inr (ci, fs'))) s H locs → W p l e R s m args below meth c H locs cells slots Q (F0 m (pc + 3) ls rest)) : W p l e R s m args below meth c H locs cells slots Q (F0 m pc ls (v :: .ref (fk_a g k) :: rest)) := by
  obtain ⟨ty0, h1, h2⟩ := fk_hty ci own T N hc
  refine va_putF (D := g.1) S.1 S.2.1 S.2.2.2.2 (fk_hin ci own T N hc) ty0 h1 h2 S.2.2.2.1 E.2.1 G.1 (fk_ws_D hg) G.2 k ((fk_ws_at hk).trans (by rw [he])) hc j hj (S.2.2.2.2 _ hlink) (fun x h => by rw [hd] at h; exact h) hfin hnm hd hty hn hfit hlen hdg (fun H1 locs1 q1 q2 q3 => kk H1 locs1 ⟨?_, q3⟩)
  rw [hfs, fk_ws_set] at q1
  exact q1
theorem fk_bp (hg : fk_row g) (S : fk_S p m c cc nL s args own) (E : fk_E g s s.heap) (G : fk_BH g n C s H locs) (k : Nat) (hk : k < n) {ci : Nat} {fs : List Value} (he : C k = .inr (ci, fs)) {T : u_T} {N : Nat} (hc : fk_cl[ci]? = some (own, T, N)) (j : Nat) (hj : j < N) (hd : (T j).1 = own)
    (hlink : Cond.fieldLink own index own (T j).2.1 (T j).2.2.1 ∈ fk_ALL) (hfin : (T j).2.2.2 = false) {v : Value} {fs' : List Value} (hfs : fs.set j v = fs') {ty : FieldType} (hty : parseFieldDescriptor (T j).2.2.1 = some ty) (hn : narrow ty v = v) (hfit : fits ty v = true) (hlen : j < fs.length) (hdg : decode cc pc = .ok (.putfield index, 3))
    (kk : ∀ (H : Heap) (locs : List Loc), fk_BH g n (va_up C k (.inr (ci, fs'))) s H locs → W p l e R s m args below meth c H locs cells slots Q (F0 m (pc + 3) ls rest)) : W p l e R s m args below meth c H locs cells slots Q (F0 m pc ls (v :: .ref (fk_a g k) :: rest)) := by
  obtain ⟨ty0, h1, h2⟩ := fk_hty ci own T N hc
  refine va_put (D := g.1) S.1 S.2.1 S.2.2.2.2 (fk_hin ci own T N hc) ty0 h1 h2 S.2.2.2.1 E.2.1 G.1 (fk_ws_D hg) G.2 k ((fk_ws_at hk).trans (by rw [he])) hc j hj (S.2.2.2.2 _ hlink) (fun x h => by rw [hd] at h; exact h) hfin hty hn hfit hlen hdg (fun H1 locs1 q1 q2 q3 => kk H1 locs1 ⟨?_, q3⟩)
  rw [hfs, fk_ws_set] at q1
  exact q1
/-- one cell more -/
theorem fk_bmore (hg : fk_row g) (G : fk_BH g n C s H locs) (hz : H.size = g.2.2.2.1 + n) {H1 : Heap} (o1 : ∀ q : Nat, q < H.size → H1[q]? = H[q]?) (z1 : H1.size = H.size + 1) (x : va_E) (hx : va_at g.1 fk_cl (fk_a g n, x) H1) : fk_BH g (n + 1) (va_up C n x) s H1 locs := by
  refine ⟨fun k q hq => ?_, ⟨by have := G.2.1; omega, fun q h1 h2 => by rw [o1 q (Nat.lt_of_lt_of_le h1 G.2.1)]; exact G.2.2.1 q h1 h2, G.2.2.2⟩⟩
  have hk := fk_ws_lt hq
  rw [fk_ws_at hk] at hq
  cases hq
  by_cases h : k = n
  · subst h
    rw [va_up_self]
    exact hx
  · rw [va_up_ne _ _ h]
    have h2 := G.1 k _ (fk_ws_at (by omega))
    exact h2.kept (o1 _ h2.lt)
theorem fk_bnew (hg : fk_row g) (S : fk_S p m c cc nL s args own) (E : fk_E g s s.heap) {n0 : Nat} (h0 : s.heap.size = g.2.2.2.1 + n0) (hcn : n = n0 + cells) (G : fk_BH g n C s H locs) {ci : Nat} {Cn : String} {T : u_T} {N : Nat} (hc : fk_cl[ci]? = some (Cn, T, N)) {ty : Nat → FieldType} (hty : ∀ k, k < N → parseFieldDescriptor (T k).2.2.1 = some (ty k)) {fs : List Value} (hfs : ∀ j, j < N → defaultValue (ty j) = vp_V fs j)
    (hcl : Cond.classLink own index Cn ∈ fk_ALL) (hin : Cond.instantiable Cn N ∈ fk_ALL) (hini : Cond.initialized Cn ∈ fk_ALL) (hR : cells + 1 ≤ R.cells ∧ slots + N ≤ R.slots) (hdg : decode cc pc = .ok (.new index, 3))
    (kk : ∀ (H : Heap), fk_BH g (n + 1) (va_up C n (.inr (ci, fs))) s H locs → W p l e R s m args below meth c H locs (cells + 1) (slots + N) Q (F0 m (pc + 3) ls (.ref (fk_a g n) :: rest))) : W p l e R s m args below meth c H locs cells slots Q (F0 m pc ls rest) := by
  intro T0 hT X
  suffices h9 : W p l e R s m args below meth c H locs cells slots Q (F0 m pc ls rest) from h9 T0 hT X
  have hz := fk_bsz hg X hT h0 hcn G
  have hKn := E.2.1.1 ci _ hc
  refine W.newcK S.1 S.2.1 S.2.2.2.1 (S.2.2.2.2 _ hcl) (S.2.2.2.2 _ hin) (S.2.2.2.2 _ hini) rfl hdg hR.1 hR.2 hKn.2.1 (h := fk_a g n) (by rw [hg]; exact hz) (fun H1 kC hkC e1 z1 o1 => ?_)
  have hza : H.size = fk_a g n := by rw [hg]; exact hz
  exact kk H1 (fk_bmore hg G hz (fun q hq => o1 q (by rw [← hza]; exact hq)) (by rw [hza]; exact z1) _ ⟨_, hc, (u_born ty S.2.2.2.2 (fk_hin ci Cn T N hc) hKn hkC e1 hty).to hfs⟩)
theorem fk_bna (hg : fk_row g) (S : fk_S p m c cc nL s args own) (E : fk_E g s s.heap) {n0 : Nat} (h0 : s.heap.size = g.2.2.2.1 + n0) (hcn : n = n0 + cells) (G : fk_BH g n C s H locs) {atype : ArrayType} (harr : Cond.arrayClass (newarray.typeOf atype) ∈ fk_ALL) {cA : ClassId} (hcA : s.vm.findClass ("[" ++ (newarray.typeOf atype).toString) = some cA) {k N : Nat} (hk : k = N) (hN : N < 2 ^ 31) {a0 : vp_A} (ha : vp_cell cA a0 = arrV cA N (fun _ => defaultValue (newarray.typeOf atype)))
    (hb : N * componentBytes (newarray.typeOf atype) ≤ 536870912) (hR : cells + 1 ≤ R.cells ∧ slots + N ≤ R.slots) (hdg : decode cc pc = .ok (.newarray atype, 2))
    (kk : ∀ (H : Heap), fk_BH g (n + 1) (va_up C n (.inl (cA, a0))) s H locs → W p l e R s m args below meth c H locs (cells + 1) (slots + N) Q (F0 m (pc + 2) ls (.ref (fk_a g n) :: rest))) : W p l e R s m args below meth c H locs cells slots Q (F0 m pc ls (.int (nI k) :: rest)) := by
  subst hk
  intro T0 hT X
  suffices h9 : W p l e R s m args below meth c H locs cells slots Q (F0 m pc ls (.int (nI k) :: rest)) from h9 T0 hT X
  have hz := fk_bsz hg X hT h0 hcn G
  have hza : H.size = fk_a g n := by rw [hg]; exact hz
  refine va_newaK S.1 S.2.1 (S.2.2.2.2 _ harr) rfl hdg rfl (nI_pos hN) (nI_clamp hN) hb hR.1 hR.2 (h := fk_a g n) hza (fun H1 cA' e1 z1 o1 hAr hNm => ?_)
  cases hcA.symm.trans hNm
  exact kk H1 (fk_bmore hg G hz (fun q hq => o1 q (by rw [← hza]; exact hq)) (by rw [hza]; exact z1) _ (by show H1[fk_a g n]? = some (vp_cell _ _); rw [ha]; exact e1))
theorem fk_bnq (hg : fk_row g) (S : fk_S p m c cc nL s args own) (E : fk_E g s s.heap) (O : va_AO "FlowDesk$Flow" s) {n0 : Nat} (h0 : s.heap.size = g.2.2.2.1 + n0) (hcn : n = n0 + cells) (G : fk_BH g n C s H locs) (hcl : Cond.classLink own index "FlowDesk$Flow" ∈ fk_ALL) (hR : cells + 1 ≤ R.cells ∧ slots + 12 ≤ R.slots) (hdg : decode cc pc = .ok (.anewarray index, 3))
    (kk : ∀ (H : Heap), fk_BH g (n + 1) (va_up C n (.inl (g.2.1 3, 12, .inr (.inr (.inr (.inr (fun _ => none))))))) s H locs → W p l e R s m args below meth c H locs (cells + 1) (slots + 12) Q (F0 m (pc + 3) ls (.ref (fk_a g n) :: rest))) : W p l e R s m args below meth c H locs cells slots Q (F0 m pc ls (.int (nI 12) :: rest)) := by
  intro T0 hT X
  suffices h9 : W p l e R s m args below meth c H locs cells slots Q (F0 m pc ls (.int (nI 12) :: rest)) from h9 T0 hT X
  have hz := fk_bsz hg X hT h0 hcn G
  have hza : H.size = fk_a g n := by rw [hg]; exact hz
  refine W.anew S.1 S.2.1 S.2.2.2.1 (S.2.2.2.2 _ hcl) (va_AO.use O) rfl hdg rfl (nI_pos (by decide)) (by rw [nI_clamp (by decide)]; decide) hR.1 (by rw [nI_clamp (by decide)]; exact hR.2) (fun cA kA comp f1 f2 f3 f4 => ?_)
  rw [nI_clamp (by decide)]
  obtain ⟨kB, cB, g1, g2, g3, g4⟩ := (E.2.1.2 3 _ rfl).2
  have hcc : cA = g.2.1 3 := Option.some.inj (f1.symm.trans g4)
  subst hcc
  have hf : (F0 m pc ls (.int (nI 12) :: rest)) = F0 m pc ls (.int (nI 12) :: rest) := rfl
  refine W.eq (g2 := F0 m (pc + 3) ls (.ref (fk_a g n) :: rest)) (by rw [← hza]) ?_
  refine kk _ (fk_bmore hg G hz (fun q hq => by rw [Array.getElem?_push, if_neg (Nat.ne_of_lt hq)]) (Array.size_push ..) _ ?_)
  show (H.push _)[fk_a g n]? = some (vp_cell _ _)
  rw [vp_cell_q, ← hza, Array.getElem?_push_size, arrV_new]
  rfl
theorem fk_bas (hg : fk_row g) (S : fk_S p m c cc nL s args own) (E : fk_E g s s.heap) (G : fk_BH g n C s H locs) (k : Nat) (hk : k < n) {f : Nat → Option Nat} (he : C k = .inl (g.2.1 3, 12, .inr (.inr (.inr (.inr f))))) (q : Nat) (hq : q < n) {fs : List Value} (hv : C q = .inr (3, fs)) (i : Nat) (hi : i < 12) (hdg : decode cc pc = .ok (.aastore, 1))
    (kk : ∀ (H : Heap) (locs : List Loc), fk_BH g n (va_up C k (.inl (g.2.1 3, 12, .inr (.inr (.inr (.inr (va_up f i (some (fk_a g q))))))))) s H locs → W p l e R s m args below meth c H locs cells slots Q (F0 m (pc + 1) ls rest)) : W p l e R s m args below meth c H locs cells slots Q (F0 m pc ls (.ref (fk_a g q) :: .int (nI i) :: .ref (fk_a g k) :: rest)) := by
  refine va_astq (D := g.1) S.1 S.2.1 E.2.1 G.1 (fk_ws_D hg) G.2 k 3 q 3 ((fk_ws_at hk).trans (by rw [he])) rfl ((fk_ws_at hq).trans (by rw [hv])) rfl (vp_in_nI hi (by decide)) hdg (fun H1 locs1 q1 q2 q3 => kk H1 locs1 ⟨?_, q3⟩)
  rw [nI_clamp (by omega), fk_ws_set] at q1
  exact q1
/-- the constructor of a nest mate -/
theorem fk_bcn (hg : fk_row g) (S : fk_S p m c cc nL s args own) (E : fk_E g s s.heap) (O : va_AO "FlowDesk$Flow" s) {n1 : Nat} (h0 : s.heap.size = g.2.2.2.1 + n1) (hcn : n = n1 + cells) (G : fk_BH g n C s H locs) {q : Nat}
    (hM : fk_CN l y bytes maxL rm g n n' C C' (.ref q :: As) mc ms) (hcode : Cond.code y bytes maxL none ∈ fk_ALL) (hinst : Cond.instanceMethod y ∈ fk_ALL) (hini : Cond.initialized y.cls ∈ fk_ALL) (hdes : y.cls ≠ "java/lang/invoke/MethodHandle" ∧ y.cls ≠ "java/lang/invoke/VarHandle" ∧ (parseMethodDescriptor y.desc).map (fun d => d.parameters.length) = some n0) (hname : y.name = "<init>") (hnest : (own, index, y, host) ∈ fk_NM) (hrm : rm.cells = mc ∧ rm.slots = ms) (hR : rm.frames + 1 ≤ R.frames ∧ 8 + (maxL + 11) + rm.locals ≤ R.locals)
    (hn : As.length = n0) (hst : st = As.reverse ++ .ref q :: rest) (hsz : ls.size = nL) (hroom : (rest.map fun v => v.category).sum ≤ 8) (hdg : decode cc pc = .ok (.invokespecial index, 3)) (hf : cells + mc ≤ R.cells ∧ slots + ms ≤ R.slots)
    (kk : ∀ (H : Heap) (locs : List Loc), fk_BH g n' C' s H locs → W p l e R s m args below meth c H locs (cells + mc) (slots + ms) Q (F0 m (pc + 3) ls rest)) : W p l e R s m args below meth c H locs cells slots Q (F0 m pc ls st) := by
  intro T0 hT X
  suffices h9 : W p l e R s m args below meth c H locs cells slots Q (F0 m pc ls st) from h9 T0 hT X
  have hz := fk_bsz hg X hT h0 hcn G
  refine va_callv (va_runIN (As := As) (rest := rest) (host := host) S hM ⟨va_cnB n0 S.2.2.2.2 (fk_gi hcode) rfl hrm.1 hrm.2 (E.2.2.2.1 _ hnest) (S.2.2.2.2 _ hini) hdes hR, hname, S.2.2.2.2 _ hinst⟩ ⟨fk_blindB, fun U hU hW => ⟨rfl, fk_preB E O hz G hU hW⟩⟩ rfl hn hsz hst (lv_room hroom) hdg hf) G.2 (fun _ _ h => h) (fun _ h => h) (fun u t H1 locs1 ht hvm hp hB hz hk1 hS1 => ?_)
  exact kk H1 locs1 ⟨by rw [← ht]; exact hB.2.2.2, hS1⟩
/-- a public constructor -/
theorem fk_bci (hg : fk_row g) (S : fk_S p m c cc nL s args own) (E : fk_E g s s.heap) (O : va_AO "FlowDesk$Flow" s) {n1 : Nat} (h0 : s.heap.size = g.2.2.2.1 + n1) (hcn : n = n1 + cells) (G : fk_BH g n C s H locs) {q : Nat}
    (hM : fk_CN l y bytes maxL rm g n n' C C' (.ref q :: As) mc ms) (hcode : Cond.code y bytes maxL none ∈ fk_ALL) (hinst : Cond.instanceMethod y ∈ fk_ALL) (hini : Cond.initialized y.cls ∈ fk_ALL) (hdes : y.cls ≠ "java/lang/invoke/MethodHandle" ∧ y.cls ≠ "java/lang/invoke/VarHandle" ∧ (parseMethodDescriptor y.desc).map (fun d => d.parameters.length) = some n0) (hname : y.name = "<init>") (hl : Cond.methodLink own index y ∈ fk_ALL) (hrm : rm.cells = mc ∧ rm.slots = ms) (hR : rm.frames + 1 ≤ R.frames ∧ 8 + (maxL + 11) + rm.locals ≤ R.locals)
    (hn : As.length = n0) (hst : st = As.reverse ++ .ref q :: rest) (hsz : ls.size = nL) (hroom : (rest.map fun v => v.category).sum ≤ 8) (hdg : decode cc pc = .ok (.invokespecial index, 3)) (hf : cells + mc ≤ R.cells ∧ slots + ms ≤ R.slots)
    (kk : ∀ (H : Heap) (locs : List Loc), fk_BH g n' C' s H locs → W p l e R s m args below meth c H locs (cells + mc) (slots + ms) Q (F0 m (pc + 3) ls rest)) : W p l e R s m args below meth c H locs cells slots Q (F0 m pc ls st) := by
  intro T0 hT X
  suffices h9 : W p l e R s m args below meth c H locs cells slots Q (F0 m pc ls st) from h9 T0 hT X
  have hz := fk_bsz hg X hT h0 hcn G
  refine va_callv (va_runI (As := As) (rest := rest) S hM ⟨callB_of n0 S.2.2.2.2 (fk_gi hcode) rfl hrm.1 hrm.2 (S.2.2.2.2 _ hini) (S.2.2.2.2 _ hl) hdes hR, hname, S.2.2.2.2 _ hinst⟩ ⟨fk_blindB, fun U hU hW => ⟨rfl, fk_preB E O hz G hU hW⟩⟩ rfl hn hsz hst (lv_room hroom) hdg hf) G.2 (fun _ _ h => h) (fun _ h => h) (fun u t H1 locs1 ht hvm hp hB hz hk1 hS1 => ?_)
  exact kk H1 locs1 ⟨by rw [← ht]; exact hB.2.2.2, hS1⟩
end FKB
/-! The memory at the beginning, and what the finished cells hold. -/
def fk_M0 : fk_M := fun k j => if k = 0 ∧ j = 4 then nI 84 else if (3 ≤ k ∧ k < 75 ∧ (k - 3) % 6 = 0) ∧ j = 0 then nI (k + 1) else if (k = 79 ∧ (j = 5 ∨ j = 6)) ∨ (k = 89 ∧ (j = 24 ∨ j = 25)) then -1 else 0
def fk_F (g : fk_G) (k : Nat) : va_E := fk_cell g 0 k (fk_M0 k)
/-- cells from k on are finished -/
def fk_mix (g : fk_G) (k : Nat) (C : Nat → va_E) : Nat → va_E := fun j => if j < k then C j else fk_F g j
theorem fk_mix_lt {g : fk_G} {k j : Nat} {C : Nat → va_E} (h : j < k) : fk_mix g k C j = C j := if_pos h
theorem fk_mix_ge {g : fk_G} {k j : Nat} {C : Nat → va_E} (h : k ≤ j) : fk_mix g k C j = fk_F g j := if_neg (by omega)
theorem fk_M0_arr : ∀ k, k < 110 → (fk_kd k = 5 ∨ fk_kd k = 7 ∨ fk_kd k = 9 ∨ fk_kd k = 11 ∨ fk_kd k = 13 ∨ fk_kd k = 14 ∨ fk_kd k = 15 ∨ fk_kd k = 16 ∨ fk_kd k = 4 ∨ fk_kd k = 1 ∨ fk_kd k = 6) → k ≠ 0 ∧ ¬ (3 ≤ k ∧ k < 75 ∧ (k - 3) % 6 = 0) ∧ k ≠ 79 ∧ k ≠ 89 := by decide +kernel
theorem fk_M0_0 {k : Nat} (h : k ≠ 0 ∧ ¬ (3 ≤ k ∧ k < 75 ∧ (k - 3) % 6 = 0) ∧ k ≠ 79 ∧ k ≠ 89) : fk_M0 k = fun _ => 0 := by
  funext j
  unfold fk_M0
  rw [if_neg (fun q => h.1 q.1), if_neg (fun q => h.2.1 q.1), if_neg (fun q => q.elim (fun q => h.2.2.1 q.1) (fun q => h.2.2.2 q.1))]
