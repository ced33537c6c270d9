/-! The world: one memory for the class, the reference and the law's own array. M k j: what slot j of cell k holds; a cell's kind goes by its number. -/
abbrev fk_M : Type := Nat → Nat → Int32
/-- what stays: numbers of classes and slots; array classes (0 int, 1 boolean, 2 long, 3 Flow); the cells' addresses; where the own heap begins; the static tables' addresses -/
abbrev fk_G : Type := va_G × (Nat → ClassId) × (Nat → Nat) × Nat × (Nat → Nat)
abbrev fk_a (g : fk_G) : Nat → Nat := g.2.2.1
abbrev fk_A (g : fk_G) : Nat → Prop := fun q => g.2.2.2.1 ≤ q
abbrev fk_ty (g : fk_G) : List (ClassId × FieldType) := [(g.2.1 0, .int), (g.2.1 1, .boolean), (g.2.1 2, .long), (g.2.1 3, .object "FlowDesk$Flow")]
/-- kinds: 0 desk, 1 network, 2 its rows, 3 flow, 4 expression, 5 int[40], 6 waiting, 7 int[12], 8 checker, 9 boolean[40], 10 clockwork, 11 int[25], 12 the reference, 13 boolean[12], 14 int[480], 15 boolean[480], 16 int[64], 17 long[1] -/
def fk_kd (k : Nat) : Nat :=
  if k < 3 then k else if k < 75 then (if (k - 3) % 6 = 0 then 3 else if (k - 3) % 6 = 1 then 4 else 5)
  else if k = 75 then 6 else if k < 79 then 7 else if k = 79 then 8 else if k = 80 then 5 else if k = 81 then 9 else if k = 82 then 10 else if k = 83 then 11
  else if k = 84 then 4 else if k < 89 then 5 else if k = 89 then 12 else if k = 90 ∨ k = 91 ∨ k = 96 then 13 else if k < 100 then 7 else if k < 105 then 14
  else if k = 105 then 15 else if k < 108 then 5 else if k = 108 then 7 else if k = 109 then 16 else 17
def fk_ce (g : fk_G) (ov : Int64) (k : Nat) (r : Nat → Int32) : Nat → va_E
  | 0 => .inr (6, [.ref (fk_a g 1), .ref (fk_a g 75), .ref (fk_a g 79), .ref (fk_a g 82), .ref (fk_a g (r 4).toNatClampNeg)])
  | 1 => .inr (4, [.ref (fk_a g 2), .int (r 1)])
  | 2 => .inl (g.2.1 3, 12, .inr (.inr (.inr (.inr (fun i => some (fk_a g (3 + 6 * i)))))))
  | 3 => .inr (3, [.ref (fk_a g (r 0).toNatClampNeg), .int (r 1), .int (r 2), .int (r 3), .int (r 4), .int (r 5), .int (r 6)])
  | 4 => .inr (2, [.ref (fk_a g (k + 1)), .ref (fk_a g (k + 2)), .ref (fk_a g (k + 3)), .ref (fk_a g (k + 4)), .int (r 4)])
  | 5 => .inl (g.2.1 0, 40, .inl r)
  | 6 => .inr (5, [.ref (fk_a g 1), .ref (fk_a g 76), .ref (fk_a g 77), .int (r 3), .ref (fk_a g 78)])
  | 7 => .inl (g.2.1 0, 12, .inl r)
  | 8 => .inr (0, [.ref (fk_a g 1), .ref (fk_a g 75), .ref (fk_a g 80), .ref (fk_a g 81), .int (r 4), .int (r 5), .int (r 6)])
  | 9 => .inl (g.2.1 1, 40, .inl r)
  | 10 => .inr (1, [.ref (fk_a g 1), .ref (fk_a g 75), .ref (fk_a g 83)])
  | 11 => .inl (g.2.1 0, 25, .inl r)
  | 12 => .inr (7, [.int (r 0), .int (r 1), .ref (fk_a g 90), .ref (fk_a g 91), .ref (fk_a g 92), .ref (fk_a g 93), .ref (fk_a g 94), .ref (fk_a g 95), .ref (fk_a g 96), .ref (fk_a g 97), .ref (fk_a g 98), .ref (fk_a g 99), .ref (fk_a g 100), .ref (fk_a g 101), .ref (fk_a g 102), .ref (fk_a g 103), .ref (fk_a g 104), .ref (fk_a g 105), .ref (fk_a g 106), .int (r 19), .ref (fk_a g 107), .int (r 21), .int (r 22), .int (r 23), .int (r 24), .int (r 25), .ref (fk_a g 108), .int (r 27), .ref (fk_a g 109), .int (r 29), .int (r 30)])
  | 13 => .inl (g.2.1 1, 12, .inl r)
  | 14 => .inl (g.2.1 0, 480, .inl r)
  | 15 => .inl (g.2.1 1, 480, .inl r)
  | 16 => .inl (g.2.1 0, 64, .inl r)
  | _ => .inl (g.2.1 2, 1, .inr (.inl (fun _ => ov)))
abbrev fk_cell (g : fk_G) (ov : Int64) (k : Nat) (r : Nat → Int32) : va_E := fk_ce g ov k r (fk_kd k)
def fk_wl (g : fk_G) (ov : Int64) (M : fk_M) : va_W := (List.range 111).map (fun k => (fk_a g k, fk_cell g ov k (M k)))
theorem fk_wl_at {g : fk_G} {ov : Int64} {M : fk_M} {k : Nat} (hk : k < 111) : (fk_wl g ov M)[k]? = some (fk_a g k, fk_cell g ov k (M k)) := by
  unfold fk_wl
  rw [List.getElem?_map, List.getElem?_range hk]
  rfl
theorem fk_wl_set {g : fk_G} {ov : Int64} {M : fk_M} {k : Nat} (r : Nat → Int32) : (fk_wl g ov M).set k (fk_a g k, fk_cell g ov k r) = fk_wl g ov (va_up M k r) := by
  apply List.ext_getElem?
  intro j
  by_cases hj : j < 111
  · rw [fk_wl_at hj]
    by_cases h : j = k
    · subst h
      rw [List.getElem?_set_self (by simp [fk_wl]; exact hj), va_up_self]
    · rw [List.getElem?_set_ne (Ne.symm h), fk_wl_at hj, va_up_ne _ _ h]
  · rw [List.getElem?_eq_none (by simp [fk_wl]; omega), List.getElem?_eq_none (by simp [fk_wl]; omega)]
/-! Rows for one step of a walk over that memory. S: the method's fixed things; E: what the tables and statics say; G: the heap holds M, and nothing older has changed. -/
def fk_nf (x : String × Nat × String × String × String × String) (U : State) : Prop := va_Nw (.fieldLinkNest x.1 x.2.1 x.2.2.1 x.2.2.2.1 x.2.2.2.2.1 x.2.2.2.2.2) U
def fk_nm (x : String × Nat × MethodName × String) (U : State) : Prop := va_Nw (.methodLinkNest x.1 x.2.1 x.2.2.1 x.2.2.2) U
/-- the class's four static tables -/
def fk_tn : Nat → String
  | 0 => "HEAD"
  | 1 => "PARTS"
  | 2 => "RESULT"
  | _ => "PART_TYPE"
def fk_tv : Nat → List Int32
  | 0 => [2, 1, 1, 2, 1, 1, 1, 1, 1, 1, 1, 1, 1, 1, 1, 1, 2, 2, 2]
  | 1 => [0, 0, 0, 0, 1, 1, 2, 2, 2, 2, 2, 2, 2, 3, 1, 2, 1, 1, 2]
  | 2 => [0, 1, 1, 2, 1, 0, 0, 0, 0, 1, 1, 1, 1, 2, 2, 2, 2, 2, 2]
  | _ => [2, 2, 2, 2, 1, 0, 0, 0, 0, 0, 0, 1, 1, 2, 2, 2, 2, 2, 2]
def fk_E (g : fk_G) (U : State) (H : Heap) : Prop :=
  g.2.2.2.1 ≤ H.size ∧ va_K g.1 fk_cl (fk_ty g) U ∧ (∀ x ∈ fk_NF, fk_nf x U) ∧ (∀ x ∈ fk_NM, fk_nm x U) ∧
  ∀ i, i < 4 → va_Z "FlowDesk" (fk_tn i) "[I" (.ref (g.2.2.2.2 i)) (fk_A g) U H ∧ va_T .int (g.2.2.2.2 i) 19 (fun j => .int ((fk_tv i).getD j 0)) (fk_A g) U H
def fk_H (g : fk_G) (ov : Int64) (M : fk_M) (s : State) (H : Heap) (locs : List Loc) : Prop :=
  va_P g.1 fk_cl (fk_wl g ov M) H ∧ va_D (fk_A g) (fk_wl g ov M) ∧ va_S (fk_A g) s.heap H locs
/-- a method's world -/
def fk_Wd (g : fk_G) (ov : Int64) (M : fk_M) (U : State) : Prop := fk_E g U U.heap ∧ va_P g.1 fk_cl (fk_wl g ov M) U.heap ∧ va_D (fk_A g) (fk_wl g ov M)
theorem fk_E.to {g : fk_G} {s U : State} {H : Heap} {locs : List Loc} (h : fk_E g s s.heap) (hS : va_S (fk_A g) s.heap H locs) (hU : U.heap = H) (hW : s.WarmedH U.vm) : fk_E g U U.heap := by
  obtain ⟨h1, h2, h3, h4, h5⟩ := h
  subst hU
  refine ⟨Nat.le_trans h1 hS.1, va_K.moved hW.alike h2, fun x hx => va_Nw.warmF hW (h3 x hx), fun x hx => va_Nw.warmM hW (h4 x hx), fun i hi => ?_⟩
  exact ⟨va_Z.moved hW.alike ((h5 i hi).1.kept hS.2.1), va_T.moved hW.alike ((h5 i hi).2.kept hS.2.1)⟩
theorem fk_E.same {g : fk_G} {s U : State} (h : fk_E g s s.heap) (hH : U.heap = s.heap) (hV : s.vm = U.vm) : fk_E g U U.heap := by
  obtain ⟨h1, h2, h3, h4, h5⟩ := h
  have hA : s.vm.Alike U.vm := by rw [hV]; exact Vm.Alike.refl _
  rw [hH]
  exact ⟨h1, va_K.moved hA h2, fun x hx => va_Nw.same rfl hV (h3 x hx), fun x hx => va_Nw.same rfl hV (h4 x hx), fun i hi => ⟨va_Z.moved hA (h5 i hi).1, va_T.moved hA (h5 i hi).2⟩⟩
theorem fk_blind {g : fk_G} {ov : Int64} {M : fk_M} {av : List Value} : FrameBlind (va_Pc av (fk_Wd g ov M)) := fun a U f mk q => ⟨q.1, q.2.1.same (U := U.calling f mk a) rfl rfl, q.2.2⟩
theorem fk_pre {g : fk_G} {ov : Int64} {M : fk_M} {s U : State} {H : Heap} {locs : List Loc} (E : fk_E g s s.heap) (G : fk_H g ov M s H locs) (hU : U.heap = H) (hW : s.WarmedH U.vm) : fk_Wd g ov M U :=
  ⟨E.to G.2.2 hU hW, by rw [hU]; exact G.1, G.2.1⟩
theorem fk_begin {g : fk_G} {ov : Int64} {M : fk_M} {s : State} (h : fk_Wd g ov M s) : fk_H g ov M s s.heap [] := ⟨h.2.1, h.2.2, va_S.rf⟩
/-- contracts: a method that hands back an int, or nothing -/
abbrev fk_CI (l : Launch) (y : MethodName) (cc : ByteArray) (maxL : Nat) (ret : Option FieldType) (rm : Room) (g : fk_G) (ov : Int64) (M M' : fk_M) (av : List Value) (v : Int32) : Prop :=
  Met l y (.code y cc maxL ret :: fk_ALL) rm (va_Pc av (fk_Wd g ov M)) (va_Qi (fun r (_ : Unit) => r = v) (fun _ t => fk_Wd g ov M' t) (fk_A g)) 0 0 (fk_A g)
abbrev fk_CV (l : Launch) (y : MethodName) (cc : ByteArray) (maxL : Nat) (rm : Room) (g : fk_G) (ov : Int64) (M M' : fk_M) (av : List Value) : Prop :=
  Met l y (.code y cc maxL none :: fk_ALL) rm (va_Pc av (fk_Wd g ov M)) (va_Qv (fun (_ : Unit) => True) (fun _ t => fk_Wd g ov M' t) (fk_A g)) 0 0 (fk_A g)
/-- the room of a method over n levels of calls -/
abbrev fk_rm (n : Nat) : Room := { frames := n, cells := 0, slots := 0, locals := 64 * n }
section FKR
variable {p : Program} {l : Launch} {e : Env} {R : Room} {s : State} {m : MethodId} {args : Array Value} {below : List Frame} {meth : Method} {c : Code} {H : Heap} {locs : List Loc} {cells slots : Nat} {Q : State → Prop}
variable {cc : ByteArray} {nL : Nat} {own : String} {pc : Nat} {ls : Array Slot} {rest : List Value} {g : fk_G} {ov : Int64} {M : fk_M}
abbrev fk_S (p : Program) (m : MethodId) (c : Code) (cc : ByteArray) (nL : Nat) (s : State) (args : Array Value) (own : String) : Prop := CallFix p m c cc nL s args fk_ALL own
theorem fk_ofI {y : MethodName} {rm : Room} {M' : fk_M} {av : List Value} {v : Int32} {maxL : Nat} {ret : Option FieldType} (hy : plainName y.cls = true) (hlen : (lg_sl av).length ≤ maxL)
    (body : ∀ (p : Program) (e : Env) (s : State) (m : MethodId) (args : Array Value) (below : List Frame) (meth : Method) (c : Code) (ls : Array Slot), fk_S p m c cc maxL s args y.cls → meth.sig.returnType = ret → meth.locks = false → fk_E g s s.heap → fk_H g ov M s s.heap [] → lv_has ls maxL (lv_args 0 av) →
      W p l e rm s m args below meth c s.heap [] 0 0 (MQ below (va_Qi (fun r (_ : Unit) => r = v) (fun _ t => fk_Wd g ov M' t) (fk_A g)) args s 0 0 (fk_A g)) (F0 m 0 ls [])) : fk_CI l y cc maxL ret rm g ov M M' av v := by
  refine Met.ofW (cc := cc) (maxL := maxL) (ret := ret) hy rfl ?_
  intro p e s m args below meth c s₁ B hml hv
  obtain ⟨rfl, hv⟩ := hv
  have hts := atoms_spec (ws := .code y cc maxL ret :: fk_ALL) B.pre
  rw [lg_entry_eq]
  exact body p e s m _ below meth c _ ⟨B.exec, B.bytes, hml, findClass_of_methodNamed B.named, fun w h => hts w (List.mem_cons_of_mem _ h)⟩ B.returns B.notSynchronized hv.1 (fk_begin hv) (lv_entry av hlen)
theorem fk_ofV {y : MethodName} {rm : Room} {M' : fk_M} {av : List Value} {maxL : Nat} (hy : plainName y.cls = true) (hlen : (lg_sl av).length ≤ maxL)
    (body : ∀ (p : Program) (e : Env) (s : State) (m : MethodId) (args : Array Value) (below : List Frame) (meth : Method) (c : Code) (ls : Array Slot), fk_S p m c cc maxL s args y.cls → meth.sig.returnType = none → meth.locks = false → fk_E g s s.heap → fk_H g ov M s s.heap [] → lv_has ls maxL (lv_args 0 av) →
      W p l e rm s m args below meth c s.heap [] 0 0 (MQ below (va_Qv (fun (_ : Unit) => True) (fun _ t => fk_Wd g ov M' t) (fk_A g)) args s 0 0 (fk_A g)) (F0 m 0 ls [])) : fk_CV l y cc maxL rm g ov M M' av := by
  refine Met.ofW (cc := cc) (maxL := maxL) (ret := none) hy rfl ?_
  intro p e s m args below meth c s₁ B hml hv
  obtain ⟨rfl, hv⟩ := hv
  have hts := atoms_spec (ws := .code y cc maxL none :: fk_ALL) B.pre
  rw [lg_entry_eq]
  exact body p e s m _ below meth c _ ⟨B.exec, B.bytes, hml, findClass_of_methodNamed B.named, fun w h => hts w (List.mem_cons_of_mem _ h)⟩ B.returns B.notSynchronized hv.1 (fk_begin hv) (lv_entry av hlen)
/-- ends -/
theorem fk_iret {M' : fk_M} {v w : Int32} (S : fk_S p m c cc nL s args own) (hr : meth.sig.returnType = some .int) (hk : meth.locks = false) (E : fk_E g s s.heap) (G : fk_H g ov M s H locs) (hM : M = M') (hv : w = v) (hdg : decode cc pc = .ok (.ireturn, 1)) :
    W p l e R s m args below meth c H locs 0 0 (MQ below (va_Qi (fun r (_ : Unit) => r = v) (fun _ t => fk_Wd g ov M' t) (fk_A g)) args s 0 0 (fk_A g)) (F0 m pc ls [.int w]) := by
  subst hM
  exact W.iret (v := w) S.1 S.2.1 hr (fun t ht hW => ⟨⟨w, (), rfl, hv, fk_pre E G ht hW⟩, G.2.2.F ht⟩) G.2.2.2.2 hdg hk
theorem fk_zret {M' : fk_M} {v w : Int32} (S : fk_S p m c cc nL s args own) (hr : meth.sig.returnType = some .boolean) (hk : meth.locks = false) (E : fk_E g s s.heap) (G : fk_H g ov M s H locs) (hM : M = M') (hv : w = v) (hz : v = 0 ∨ v = 1) (hdg : decode cc pc = .ok (.ireturn, 1)) :
    W p l e R s m args below meth c H locs 0 0 (MQ below (va_Qi (fun r (_ : Unit) => r = v) (fun _ t => fk_Wd g ov M' t) (fk_A g)) args s 0 0 (fk_A g)) (F0 m pc ls [.int w]) := by
  subst hM
  subst hv
  exact W.zret (v := w) S.1 S.2.1 hr (by rcases hz with rfl | rfl <;> rfl) (fun t ht hW => ⟨⟨w, (), rfl, rfl, fk_pre E G ht hW⟩, G.2.2.F ht⟩) G.2.2.2.2 hdg hk
theorem fk_vret {M' : fk_M} (S : fk_S p m c cc nL s args own) (hr : meth.sig.returnType = none) (hk : meth.locks = false) (E : fk_E g s s.heap) (G : fk_H g ov M s H locs) (hM : M = M') (hdg : decode cc pc = .ok (.return_, 1)) :
    W p l e R s m args below meth c H locs 0 0 (MQ below (va_Qv (fun (_ : Unit) => True) (fun _ t => fk_Wd g ov M' t) (fk_A g)) args s 0 0 (fk_A g)) (F0 m pc ls []) := by
  subst hM
  exact W.vret S.1 S.2.1 hr (fun t ht hW => ⟨⟨(), rfl, trivial, fk_pre E G ht hW⟩, G.2.2.F ht⟩) G.2.2.2.2 hdg hk
/-- fields -/
theorem fk_gf (S : fk_S p m c cc nL s args own) (E : fk_E g s s.heap) (G : fk_H g ov M s H locs) (k : Nat) (hk : k < 111) {ci : Nat} {fs : List Value} (he : fk_cell g ov k (M k) = .inr (ci, fs)) {C : String} {T : u_T} {N index : Nat} (hc : fk_cl[ci]? = some (C, T, N)) (j : Nat) (hj : j < N) (hd : (T j).1 = C)
    (hlink : Cond.fieldLink own index C (T j).2.1 (T j).2.2.1 ∈ fk_ALL) {v : Value} (hv : fs[j]? = some v) (hdg : decode cc pc = .ok (.getfield index, 3)) (kk : W p l e R s m args below meth c H locs cells slots Q (F0 m (pc + 3) ls (v :: rest))) : W p l e R s m args below meth c H locs cells slots Q (F0 m pc ls (.ref (fk_a g k) :: rest)) :=
  va_get (D := g.1) S.1 S.2.1 S.2.2.2.2 (fk_hin ci C T N hc) S.2.2.2.1 E.2.1 G.1 k ((fk_wl_at hk).trans (by rw [he])) hc j hj (S.2.2.2.2 _ hlink) (fun x h => by rw [hd] at h; exact h) hv hdg kk
theorem fk_gn (S : fk_S p m c cc nL s args own) (E : fk_E g s s.heap) (G : fk_H g ov M s H locs) (k : Nat) (hk : k < 111) {ci : Nat} {fs : List Value} (he : fk_cell g ov k (M k) = .inr (ci, fs)) {C host : String} {T : u_T} {N index : Nat} (hc : fk_cl[ci]? = some (C, T, N)) (j : Nat) (hj : j < N) (hd : (T j).1 = C)
    (hlink : (own, index, C, (T j).2.1, (T j).2.2.1, host) ∈ fk_NF) {v : Value} (hv : fs[j]? = some v) (hdg : decode cc pc = .ok (.getfield index, 3)) (kk : W p l e R s m args below meth c H locs cells slots Q (F0 m (pc + 3) ls (v :: rest))) : W p l e R s m args below meth c H locs cells slots Q (F0 m pc ls (.ref (fk_a g k) :: rest)) :=
  va_getN (D := g.1) (host := host) S.1 S.2.1 S.2.2.2.2 (fk_hin ci C T N hc) S.2.2.2.1 E.2.1 G.1 k ((fk_wl_at hk).trans (by rw [he])) hc j hj (va_Nw.use rfl (E.2.2.1 _ hlink)) (fun x h => by rw [hd] at h; exact h) hv hdg kk
theorem fk_pf (S : fk_S p m c cc nL s args own) (E : fk_E g s s.heap) (G : fk_H g ov M s H locs) (k : Nat) (hk : k < 111) {ci : Nat} {fs : List Value} (he : fk_cell g ov k (M k) = .inr (ci, fs)) {C : String} {T : u_T} {N index : Nat} (hc : fk_cl[ci]? = some (C, T, N)) (j : Nat) (hj : j < N) (hd : (T j).1 = C)
    (hlink : Cond.fieldLink own index C (T j).2.1 (T j).2.2.1 ∈ fk_ALL) {v : Value} (r : Nat → Int32) (he2 : fk_cell g ov k r = .inr (ci, fs.set j v)) (hfin : (T j).2.2.2 = false) {ty : FieldType} (hp : parseFieldDescriptor (T j).2.2.1 = some ty) (hn : narrow ty v = v) (hfit : fits ty v = true) (hl : j < fs.length) (hdg : decode cc pc = .ok (.putfield index, 3))
    (kk : ∀ (H : Heap) (locs : List Loc), fk_H g ov (va_up M k r) s H locs → W p l e R s m args below meth c H locs cells slots Q (F0 m (pc + 3) ls rest)) : W p l e R s m args below meth c H locs cells slots Q (F0 m pc ls (v :: .ref (fk_a g k) :: rest)) := by
  obtain ⟨ty0, hty, hnm⟩ := fk_hty ci C T N hc
  refine va_put (D := g.1) (v := v) S.1 S.2.1 S.2.2.2.2 (fk_hin ci C T N hc) ty0 hty hnm S.2.2.2.1 E.2.1 G.1 G.2.1 G.2.2 k ((fk_wl_at hk).trans (by rw [he])) hc j hj (S.2.2.2.2 _ hlink) (fun x h => by rw [hd] at h; exact h) hfin hp hn hfit hl hdg (fun H1 locs1 q1 q2 q3 => kk H1 locs1 ?_)
  rw [← he2, fk_wl_set] at q1 q2
  exact ⟨q1, q2, q3⟩
theorem fk_pn (S : fk_S p m c cc nL s args own) (E : fk_E g s s.heap) (G : fk_H g ov M s H locs) (k : Nat) (hk : k < 111) {ci : Nat} {fs : List Value} (he : fk_cell g ov k (M k) = .inr (ci, fs)) {C host : String} {T : u_T} {N index : Nat} (hc : fk_cl[ci]? = some (C, T, N)) (j : Nat) (hj : j < N) (hd : (T j).1 = C)
    (hlink : (own, index, C, (T j).2.1, (T j).2.2.1, host) ∈ fk_NF) {v : Value} (r : Nat → Int32) (he2 : fk_cell g ov k r = .inr (ci, fs.set j v)) (hfin : (T j).2.2.2 = false) {ty : FieldType} (hp : parseFieldDescriptor (T j).2.2.1 = some ty) (hn : narrow ty v = v) (hfit : fits ty v = true) (hl : j < fs.length) (hdg : decode cc pc = .ok (.putfield index, 3))
    (kk : ∀ (H : Heap) (locs : List Loc), fk_H g ov (va_up M k r) s H locs → W p l e R s m args below meth c H locs cells slots Q (F0 m (pc + 3) ls rest)) : W p l e R s m args below meth c H locs cells slots Q (F0 m pc ls (v :: .ref (fk_a g k) :: rest)) := by
  obtain ⟨ty0, hty, hnm⟩ := fk_hty ci C T N hc
  refine va_putN (D := g.1) (host := host) (v := v) S.1 S.2.1 S.2.2.2.2 (fk_hin ci C T N hc) ty0 hty hnm S.2.2.2.1 E.2.1 G.1 G.2.1 G.2.2 k ((fk_wl_at hk).trans (by rw [he])) hc j hj (va_Nw.use rfl (E.2.2.1 _ hlink)) (fun x h => by rw [hd] at h; exact h) hfin hp hn hfit hl hdg (fun H1 locs1 q1 q2 q3 => kk H1 locs1 ?_)
  rw [← he2, fk_wl_set] at q1 q2
  exact ⟨q1, q2, q3⟩
/-- arrays -/
theorem fk_ia (S : fk_S p m c cc nL s args own) (E : fk_E g s s.heap) (G : fk_H g ov M s H locs) (k : Nat) (hk : k < 111) {n : Nat} (he : fk_cell g ov k (M k) = .inl (g.2.1 0, n, .inl (M k))) {i : Int32} (j : Nat) (hi : i = nI j) (hj : j < n) (hn : n < 2 ^ 31) {v : Int32} (hv : M k j = v) (hdg : decode cc pc = .ok (.iaload, 1))
    (kk : W p l e R s m args below meth c H locs cells slots Q (F0 m (pc + 1) ls (.int v :: rest))) : W p l e R s m args below meth c H locs cells slots Q (F0 m pc ls (.int i :: .ref (fk_a g k) :: rest)) := by
  subst hi; subst hv
  refine va_iald (D := g.1) S.1 S.2.1 E.2.1 G.1 k 0 ((fk_wl_at hk).trans (by rw [he])) rfl (vp_in_nI hj hn) hdg ?_
  rw [nI_clamp (Nat.lt_trans hj hn)]
  exact kk
theorem fk_za (S : fk_S p m c cc nL s args own) (E : fk_E g s s.heap) (G : fk_H g ov M s H locs) (k : Nat) (hk : k < 111) {n : Nat} (he : fk_cell g ov k (M k) = .inl (g.2.1 1, n, .inl (M k))) {i : Int32} (j : Nat) (hi : i = nI j) (hj : j < n) (hn : n < 2 ^ 31) {v : Int32} (hv : M k j = v) (hdg : decode cc pc = .ok (.baload, 1))
    (kk : W p l e R s m args below meth c H locs cells slots Q (F0 m (pc + 1) ls (.int v :: rest))) : W p l e R s m args below meth c H locs cells slots Q (F0 m pc ls (.int i :: .ref (fk_a g k) :: rest)) := by
  subst hi; subst hv
  refine va_zald (D := g.1) S.1 S.2.1 E.2.1 G.1 k 1 ((fk_wl_at hk).trans (by rw [he])) rfl (vp_in_nI hj hn) hdg ?_
  rw [nI_clamp (Nat.lt_trans hj hn)]
  exact kk
theorem fk_is (S : fk_S p m c cc nL s args own) (E : fk_E g s s.heap) (G : fk_H g ov M s H locs) (k : Nat) (hk : k < 111) {n : Nat} (he : ∀ r, fk_cell g ov k r = .inl (g.2.1 0, n, .inl r)) {i x : Int32} (j : Nat) (hi : i = nI j) (hj : j < n) (hn : n < 2 ^ 31) (hdg : decode cc pc = .ok (.iastore, 1))
    (kk : ∀ (H : Heap) (locs : List Loc), fk_H g ov (va_up M k (upd (M k) j x)) s H locs → W p l e R s m args below meth c H locs cells slots Q (F0 m (pc + 1) ls rest)) : W p l e R s m args below meth c H locs cells slots Q (F0 m pc ls (.int x :: .int i :: .ref (fk_a g k) :: rest)) := by
  subst hi
  refine va_iast (D := g.1) S.1 S.2.1 E.2.1 G.1 G.2.1 G.2.2 k 0 ((fk_wl_at hk).trans (by rw [he])) rfl (vp_in_nI hj hn) hdg (fun H1 locs1 q1 q2 q3 => kk H1 locs1 ?_)
  rw [nI_clamp (Nat.lt_trans hj hn), ← he, fk_wl_set] at q1 q2
  exact ⟨q1, q2, q3⟩
theorem fk_nar {x : Int32} (h : x = 0 ∨ x = 1) : vp_nar .boolean x = x := by rcases h with rfl | rfl <;> rfl
theorem fk_zs (S : fk_S p m c cc nL s args own) (E : fk_E g s s.heap) (G : fk_H g ov M s H locs) (k : Nat) (hk : k < 111) {n : Nat} (he : ∀ r, fk_cell g ov k r = .inl (g.2.1 1, n, .inl r)) {i x : Int32} (j : Nat) (hi : i = nI j) (hj : j < n) (hn : n < 2 ^ 31) (hz : x = 0 ∨ x = 1) (hdg : decode cc pc = .ok (.bastore, 1))
    (kk : ∀ (H : Heap) (locs : List Loc), fk_H g ov (va_up M k (upd (M k) j x)) s H locs → W p l e R s m args below meth c H locs cells slots Q (F0 m (pc + 1) ls rest)) : W p l e R s m args below meth c H locs cells slots Q (F0 m pc ls (.int x :: .int i :: .ref (fk_a g k) :: rest)) := by
  subst hi
  refine va_zast (D := g.1) S.1 S.2.1 E.2.1 G.1 G.2.1 G.2.2 k 1 ((fk_wl_at hk).trans (by rw [he])) rfl (vp_in_nI hj hn) hdg (fun H1 locs1 q1 q2 q3 => kk H1 locs1 ?_)
  rw [nI_clamp (Nat.lt_trans hj hn), fk_nar hz, ← he, fk_wl_set] at q1 q2
  exact ⟨q1, q2, q3⟩
theorem fk_rw (S : fk_S p m c cc nL s args own) (E : fk_E g s s.heap) (G : fk_H g ov M s H locs) {i : Int32} (j : Nat) (hi : i = nI j) (hj : j < 12) (hdg : decode cc pc = .ok (.aaload, 1))
    (kk : W p l e R s m args below meth c H locs cells slots Q (F0 m (pc + 1) ls (.ref (fk_a g (3 + 6 * j)) :: rest))) : W p l e R s m args below meth c H locs cells slots Q (F0 m pc ls (.int i :: .ref (fk_a g 2) :: rest)) := by
  subst hi
  refine va_aldq (D := g.1) (C := "FlowDesk$Flow") S.1 S.2.1 E.2.1 G.1 2 3 (fk_wl_at (by decide)) rfl (vp_in_nI hj (by decide)) hdg ?_
  rw [nI_clamp (by omega)]
  exact kk
/-- the static tables -/
theorem fk_gs (S : fk_S p m c cc nL s args own) (E : fk_E g s s.heap) (G : fk_H g ov M s H locs) (i : Nat) (hi : i < 4) {index : Nat} (hlink : Cond.fieldLink own index "FlowDesk" (fk_tn i) "[I" ∈ fk_ALL) (hdg : decode cc pc = .ok (.getstatic index, 3))
    (kk : W p l e R s m args below meth c H locs cells slots Q (F0 m (pc + 3) ls (.ref (g.2.2.2.2 i) :: rest))) : W p l e R s m args below meth c H locs cells slots Q (F0 m pc ls rest) :=
  va_gets S.1 S.2.1 (E.2.2.2.2 i hi).1 G.2.2 S.2.2.2.1 (S.2.2.2.2 _ hlink) (fun _ h => h) hdg kk
theorem fk_gsn (S : fk_S p m c cc nL s args own) (E : fk_E g s s.heap) (G : fk_H g ov M s H locs) (i : Nat) (hi : i < 4) {index : Nat} {host : String} (hlink : (own, index, "FlowDesk", fk_tn i, "[I", host) ∈ fk_NF) (hdg : decode cc pc = .ok (.getstatic index, 3))
    (kk : W p l e R s m args below meth c H locs cells slots Q (F0 m (pc + 3) ls (.ref (g.2.2.2.2 i) :: rest))) : W p l e R s m args below meth c H locs cells slots Q (F0 m pc ls rest) :=
  va_getsN (host := host) S.1 S.2.1 (E.2.2.2.2 i hi).1 G.2.2 S.2.2.2.1 (va_Nw.use rfl (E.2.2.1 _ hlink)) (fun _ h => h) hdg kk
theorem fk_ti (S : fk_S p m c cc nL s args own) (E : fk_E g s s.heap) (G : fk_H g ov M s H locs) (i : Nat) (hi : i < 4) {x : Int32} (j : Nat) (hx : x = nI j) (hj : j < 19) {v : Int32} (hv : (fk_tv i).getD j 0 = v) (hdg : decode cc pc = .ok (.iaload, 1))
    (kk : W p l e R s m args below meth c H locs cells slots Q (F0 m (pc + 1) ls (.int v :: rest))) : W p l e R s m args below meth c H locs cells slots Q (F0 m pc ls (.int x :: .ref (g.2.2.2.2 i) :: rest)) := by
  subst hx
  refine va_ti S.1 S.2.1 (E.2.2.2.2 i hi).2 G.2.2 (vp_in_nI hj (by decide)) (v := .int v) ?_ hdg kk
  rw [nI_clamp (by omega), hv]
end FKR
/-! Calls of methods that have a contract over that memory. -/
abbrev fk_MI (y : MethodName) (bytes : ByteArray) (maxL : Nat) (ret : Option FieldType) (n : Nat) : Prop := Cond.code y bytes maxL ret ∈ fk_ALL ∧ Cond.instanceMethod y ∈ fk_ALL ∧ Cond.selects y.cls y y ∈ fk_ALL ∧ Cond.initialized y.cls ∈ fk_ALL ∧ (y.cls ≠ "java/lang/invoke/MethodHandle" ∧ y.cls ≠ "java/lang/invoke/VarHandle" ∧ (parseMethodDescriptor y.desc).map (fun d => d.parameters.length) = some n)
abbrev fk_MS (y : MethodName) (bytes : ByteArray) (maxL : Nat) (ret : Option FieldType) (n : Nat) : Prop := Cond.code y bytes maxL ret ∈ fk_ALL ∧ Cond.static y ∈ fk_ALL ∧ Cond.initialized y.cls ∈ fk_ALL ∧ (y.cls ≠ "java/lang/invoke/MethodHandle" ∧ y.cls ≠ "java/lang/invoke/VarHandle" ∧ (parseMethodDescriptor y.desc).map (fun d => d.parameters.length) = some n)
theorem fk_gi {w : Cond} (h : w ∈ fk_ALL) : GoodIn fk_ALL (w :: fk_ALL) := by
  intro v hv
  rcases List.mem_cons.mp hv with rfl | hv
  · exact ⟨h, good_of_word (fk_good _ h)⟩
  · exact ⟨hv, good_of_word (fk_good _ hv)⟩
section FKC
variable {p : Program} {l : Launch} {e : Env} {R : Room} {s : State} {m : MethodId} {args : Array Value} {below : List Frame} {meth : Method} {c : Code} {H : Heap} {locs : List Loc} {cells slots : Nat} {Q : State → Prop}
variable {cc bytes : ByteArray} {nL maxL n index : Nat} {own host : String} {pc : Nat} {ls : Array Slot} {rest st As : List Value} {g : fk_G} {ov : Int64} {M M' : fk_M} {y : MethodName} {ret : Option FieldType} {rm : Room} {v : Int32}
theorem fk_back {t : State} {H1 : Heap} {locs1 : List Loc} (ht : t.heap = H1) (hB : fk_Wd g ov M' t) (hS : va_S (fk_A g) s.heap H1 locs1) : fk_H g ov M' s H1 locs1 := ⟨by rw [← ht]; exact hB.2.1, hB.2.2, hS⟩
/-- of a nest mate -/
theorem fk_cni (S : fk_S p m c cc nL s args own) (E : fk_E g s s.heap) (G : fk_H g ov M s H locs) (k : Nat) (hk : k < 111) {ci : Nat} {fs : List Value} (he : fk_cell g ov k (M k) = .inr (ci, fs)) {T : u_T} {N : Nat} (hc : fk_cl[ci]? = some (y.cls, T, N))
    (hM : fk_CI l y bytes maxL ret rm g ov M M' (.ref (fk_a g k) :: As) v) (hm : fk_MI y bytes maxL ret n) (hnest : (own, index, y, host) ∈ fk_NM) (hrm : rm.cells = 0 ∧ rm.slots = 0) (hR : rm.frames + 1 ≤ R.frames ∧ 8 + (maxL + 11) + rm.locals ≤ R.locals)
    (hn : As.length = n) (hst : st = As.reverse ++ .ref (fk_a g k) :: rest) (hsz : ls.size = nL) (hroom : (rest.map fun v => v.category).sum ≤ 8) (hdg : decode cc pc = .ok (.invokevirtual index, 3)) (hf : cells ≤ R.cells ∧ slots ≤ R.slots)
    (kk : ∀ (H : Heap) (locs : List Loc), fk_H g ov M' s H locs → W p l e R s m args below meth c H locs cells slots Q (F0 m (pc + 3) ls (.int v :: rest))) : W p l e R s m args below meth c H locs cells slots Q (F0 m pc ls st) := by
  refine va_calli (va_runVN (As := As) (rest := rest) (C := y.cls) (host := host) (mc := 0) (ms := 0) S hM ⟨va_cnB n S.2.2.2.2 (fk_gi hm.1) rfl hrm.1 hrm.2 (E.2.2.2.1 _ hnest) (S.2.2.2.2 _ hm.2.2.2.1) hm.2.2.2.2 hR, S.2.2.2.2 _ hm.2.1, S.2.2.2.2 _ hm.2.2.1⟩ ⟨fk_blind, va_recv E.2.1 G.1 hc ((fk_wl_at hk).trans (by rw [he])), fun U hU hW => ⟨rfl, fk_pre E G hU hW⟩⟩ rfl hn hsz hst (lv_room hroom) hdg hf) G.2.2 (fun _ _ h => h) (fun _ h => h) (fun r u t H1 locs1 ht hvm hp hB hz hk1 hS1 => ?_)
  subst hp
  exact kk H1 locs1 (fk_back ht hB hS1)
theorem fk_cnv (S : fk_S p m c cc nL s args own) (E : fk_E g s s.heap) (G : fk_H g ov M s H locs) (k : Nat) (hk : k < 111) {ci : Nat} {fs : List Value} (he : fk_cell g ov k (M k) = .inr (ci, fs)) {T : u_T} {N : Nat} (hc : fk_cl[ci]? = some (y.cls, T, N))
    (hM : fk_CV l y bytes maxL rm g ov M M' (.ref (fk_a g k) :: As)) (hm : fk_MI y bytes maxL none n) (hnest : (own, index, y, host) ∈ fk_NM) (hrm : rm.cells = 0 ∧ rm.slots = 0) (hR : rm.frames + 1 ≤ R.frames ∧ 8 + (maxL + 11) + rm.locals ≤ R.locals)
    (hn : As.length = n) (hst : st = As.reverse ++ .ref (fk_a g k) :: rest) (hsz : ls.size = nL) (hroom : (rest.map fun v => v.category).sum ≤ 8) (hdg : decode cc pc = .ok (.invokevirtual index, 3)) (hf : cells ≤ R.cells ∧ slots ≤ R.slots)
    (kk : ∀ (H : Heap) (locs : List Loc), fk_H g ov M' s H locs → W p l e R s m args below meth c H locs cells slots Q (F0 m (pc + 3) ls rest)) : W p l e R s m args below meth c H locs cells slots Q (F0 m pc ls st) := by
  refine va_callv (va_runVN (As := As) (rest := rest) (C := y.cls) (host := host) (mc := 0) (ms := 0) S hM ⟨va_cnB n S.2.2.2.2 (fk_gi hm.1) rfl hrm.1 hrm.2 (E.2.2.2.1 _ hnest) (S.2.2.2.2 _ hm.2.2.2.1) hm.2.2.2.2 hR, S.2.2.2.2 _ hm.2.1, S.2.2.2.2 _ hm.2.2.1⟩ ⟨fk_blind, va_recv E.2.1 G.1 hc ((fk_wl_at hk).trans (by rw [he])), fun U hU hW => ⟨rfl, fk_pre E G hU hW⟩⟩ rfl hn hsz hst (lv_room hroom) hdg hf) G.2.2 (fun _ _ h => h) (fun _ h => h) (fun u t H1 locs1 ht hvm hp hB hz hk1 hS1 => ?_)
  exact kk H1 locs1 (fk_back ht hB hS1)
/-- of the own class, or public -/
theorem fk_cvi (S : fk_S p m c cc nL s args own) (E : fk_E g s s.heap) (G : fk_H g ov M s H locs) (k : Nat) (hk : k < 111) {ci : Nat} {fs : List Value} (he : fk_cell g ov k (M k) = .inr (ci, fs)) {T : u_T} {N : Nat} (hc : fk_cl[ci]? = some (y.cls, T, N))
    (hM : fk_CI l y bytes maxL ret rm g ov M M' (.ref (fk_a g k) :: As) v) (hm : fk_MI y bytes maxL ret n) (hl : Cond.methodLink own index y ∈ fk_ALL) (hrm : rm.cells = 0 ∧ rm.slots = 0) (hR : rm.frames + 1 ≤ R.frames ∧ 8 + (maxL + 11) + rm.locals ≤ R.locals)
    (hn : As.length = n) (hst : st = As.reverse ++ .ref (fk_a g k) :: rest) (hsz : ls.size = nL) (hroom : (rest.map fun v => v.category).sum ≤ 8) (hdg : decode cc pc = .ok (.invokevirtual index, 3)) (hf : cells ≤ R.cells ∧ slots ≤ R.slots)
    (kk : ∀ (H : Heap) (locs : List Loc), fk_H g ov M' s H locs → W p l e R s m args below meth c H locs cells slots Q (F0 m (pc + 3) ls (.int v :: rest))) : W p l e R s m args below meth c H locs cells slots Q (F0 m pc ls st) := by
  refine va_calli (va_runV (As := As) (rest := rest) (C := y.cls) (mc := 0) (ms := 0) S hM ⟨callB_of n S.2.2.2.2 (fk_gi hm.1) rfl hrm.1 hrm.2 (S.2.2.2.2 _ hm.2.2.2.1) (S.2.2.2.2 _ hl) hm.2.2.2.2 hR, S.2.2.2.2 _ hm.2.1, S.2.2.2.2 _ hm.2.2.1⟩ ⟨fk_blind, va_recv E.2.1 G.1 hc ((fk_wl_at hk).trans (by rw [he])), fun U hU hW => ⟨rfl, fk_pre E G hU hW⟩⟩ rfl hn hsz hst (lv_room hroom) hdg hf) G.2.2 (fun _ _ h => h) (fun _ h => h) (fun r u t H1 locs1 ht hvm hp hB hz hk1 hS1 => ?_)
  subst hp
  exact kk H1 locs1 (fk_back ht hB hS1)
theorem fk_cvv (S : fk_S p m c cc nL s args own) (E : fk_E g s s.heap) (G : fk_H g ov M s H locs) (k : Nat) (hk : k < 111) {ci : Nat} {fs : List Value} (he : fk_cell g ov k (M k) = .inr (ci, fs)) {T : u_T} {N : Nat} (hc : fk_cl[ci]? = some (y.cls, T, N))
    (hM : fk_CV l y bytes maxL rm g ov M M' (.ref (fk_a g k) :: As)) (hm : fk_MI y bytes maxL none n) (hl : Cond.methodLink own index y ∈ fk_ALL) (hrm : rm.cells = 0 ∧ rm.slots = 0) (hR : rm.frames + 1 ≤ R.frames ∧ 8 + (maxL + 11) + rm.locals ≤ R.locals)
    (hn : As.length = n) (hst : st = As.reverse ++ .ref (fk_a g k) :: rest) (hsz : ls.size = nL) (hroom : (rest.map fun v => v.category).sum ≤ 8) (hdg : decode cc pc = .ok (.invokevirtual index, 3)) (hf : cells ≤ R.cells ∧ slots ≤ R.slots)
    (kk : ∀ (H : Heap) (locs : List Loc), fk_H g ov M' s H locs → W p l e R s m args below meth c H locs cells slots Q (F0 m (pc + 3) ls rest)) : W p l e R s m args below meth c H locs cells slots Q (F0 m pc ls st) := by
  refine va_callv (va_runV (As := As) (rest := rest) (C := y.cls) (mc := 0) (ms := 0) S hM ⟨callB_of n S.2.2.2.2 (fk_gi hm.1) rfl hrm.1 hrm.2 (S.2.2.2.2 _ hm.2.2.2.1) (S.2.2.2.2 _ hl) hm.2.2.2.2 hR, S.2.2.2.2 _ hm.2.1, S.2.2.2.2 _ hm.2.2.1⟩ ⟨fk_blind, va_recv E.2.1 G.1 hc ((fk_wl_at hk).trans (by rw [he])), fun U hU hW => ⟨rfl, fk_pre E G hU hW⟩⟩ rfl hn hsz hst (lv_room hroom) hdg hf) G.2.2 (fun _ _ h => h) (fun _ h => h) (fun u t H1 locs1 ht hvm hp hB hz hk1 hS1 => ?_)
  exact kk H1 locs1 (fk_back ht hB hS1)
/-- static: of the own class, or public -/
theorem fk_csi (S : fk_S p m c cc nL s args own) (E : fk_E g s s.heap) (G : fk_H g ov M s H locs)
    (hM : fk_CI l y bytes maxL ret rm g ov M M' As v) (hm : fk_MS y bytes maxL ret n) (hl : Cond.methodLink own index y ∈ fk_ALL) (hrm : rm.cells = 0 ∧ rm.slots = 0) (hR : rm.frames + 1 ≤ R.frames ∧ 8 + (maxL + 11) + rm.locals ≤ R.locals)
    (hn : As.length = n) (hst : st = As.reverse ++ rest) (hsz : ls.size = nL) (hroom : (rest.map fun v => v.category).sum ≤ 8) (hdg : decode cc pc = .ok (.invokestatic index, 3)) (hf : cells ≤ R.cells ∧ slots ≤ R.slots)
    (kk : ∀ (H : Heap) (locs : List Loc), fk_H g ov M' s H locs → W p l e R s m args below meth c H locs cells slots Q (F0 m (pc + 3) ls (.int v :: rest))) : W p l e R s m args below meth c H locs cells slots Q (F0 m pc ls st) := by
  refine va_calli (va_runS (As := As) (rest := rest) (mc := 0) (ms := 0) S hM ⟨callB_of n S.2.2.2.2 (fk_gi hm.1) rfl hrm.1 hrm.2 (S.2.2.2.2 _ hm.2.2.1) (S.2.2.2.2 _ hl) hm.2.2.2 hR, S.2.2.2.2 _ hm.2.1⟩ ⟨fk_blind, fun U hU hW => ⟨rfl, fk_pre E G hU hW⟩⟩ rfl hn hsz hst (lv_room hroom) hdg hf) G.2.2 (fun _ _ h => h) (fun _ h => h) (fun r u t H1 locs1 ht hvm hp hB hz hk1 hS1 => ?_)
  subst hp
  exact kk H1 locs1 (fk_back ht hB hS1)
theorem fk_csv (S : fk_S p m c cc nL s args own) (E : fk_E g s s.heap) (G : fk_H g ov M s H locs)
    (hM : fk_CV l y bytes maxL rm g ov M M' As) (hm : fk_MS y bytes maxL none n) (hl : Cond.methodLink own index y ∈ fk_ALL) (hrm : rm.cells = 0 ∧ rm.slots = 0) (hR : rm.frames + 1 ≤ R.frames ∧ 8 + (maxL + 11) + rm.locals ≤ R.locals)
    (hn : As.length = n) (hst : st = As.reverse ++ rest) (hsz : ls.size = nL) (hroom : (rest.map fun v => v.category).sum ≤ 8) (hdg : decode cc pc = .ok (.invokestatic index, 3)) (hf : cells ≤ R.cells ∧ slots ≤ R.slots)
    (kk : ∀ (H : Heap) (locs : List Loc), fk_H g ov M' s H locs → W p l e R s m args below meth c H locs cells slots Q (F0 m (pc + 3) ls rest)) : W p l e R s m args below meth c H locs cells slots Q (F0 m pc ls st) := by
  refine va_callv (va_runS (As := As) (rest := rest) (mc := 0) (ms := 0) S hM ⟨callB_of n S.2.2.2.2 (fk_gi hm.1) rfl hrm.1 hrm.2 (S.2.2.2.2 _ hm.2.2.1) (S.2.2.2.2 _ hl) hm.2.2.2 hR, S.2.2.2.2 _ hm.2.1⟩ ⟨fk_blind, fun U hU hW => ⟨rfl, fk_pre E G hU hW⟩⟩ rfl hn hsz hst (lv_room hroom) hdg hf) G.2.2 (fun _ _ h => h) (fun _ h => h) (fun u t H1 locs1 ht hvm hp hB hz hk1 hS1 => ?_)
  exact kk H1 locs1 (fk_back ht hB hS1)
/-- static, of a nest mate -/
theorem fk_cti (S : fk_S p m c cc nL s args own) (E : fk_E g s s.heap) (G : fk_H g ov M s H locs)
    (hM : fk_CI l y bytes maxL ret rm g ov M M' As v) (hm : fk_MS y bytes maxL ret n) (hnest : (own, index, y, host) ∈ fk_NM) (hrm : rm.cells = 0 ∧ rm.slots = 0) (hR : rm.frames + 1 ≤ R.frames ∧ 8 + (maxL + 11) + rm.locals ≤ R.locals)
    (hn : As.length = n) (hst : st = As.reverse ++ rest) (hsz : ls.size = nL) (hroom : (rest.map fun v => v.category).sum ≤ 8) (hdg : decode cc pc = .ok (.invokestatic index, 3)) (hf : cells ≤ R.cells ∧ slots ≤ R.slots)
    (kk : ∀ (H : Heap) (locs : List Loc), fk_H g ov M' s H locs → W p l e R s m args below meth c H locs cells slots Q (F0 m (pc + 3) ls (.int v :: rest))) : W p l e R s m args below meth c H locs cells slots Q (F0 m pc ls st) := by
  refine va_calli (va_runSN (As := As) (rest := rest) (host := host) (mc := 0) (ms := 0) S hM ⟨va_cnB n S.2.2.2.2 (fk_gi hm.1) rfl hrm.1 hrm.2 (E.2.2.2.1 _ hnest) (S.2.2.2.2 _ hm.2.2.1) hm.2.2.2 hR, S.2.2.2.2 _ hm.2.1, trivial⟩ ⟨fk_blind, fun U hU hW => ⟨rfl, fk_pre E G hU hW⟩⟩ rfl hn hsz hst (lv_room hroom) hdg hf) G.2.2 (fun _ _ h => h) (fun _ h => h) (fun r u t H1 locs1 ht hvm hp hB hz hk1 hS1 => ?_)
  subst hp
  exact kk H1 locs1 (fk_back ht hB hS1)
end FKC
/-! Numbers that count: compares and sums of them. -/
section FKN
variable {p : Program} {l : Launch} {e : Env} {R : Room} {s : State} {m : MethodId} {args : Array Value} {below : List Frame} {meth : Method} {c : Code} {H : Heap} {locs : List Loc} {cells slots : Nat} {Q : State → Prop}
variable {cc : ByteArray} {pc : Nat} {ls : Array Slot} {rest : List Value}
theorem fk_iadd (hexec : p.tables.exec = Jvm.exec) (hb : c.code = cc) {x y : Nat} (hdg : decode cc pc = .ok (.iadd, 1)) (k : W p l e R s m args below meth c H locs cells slots Q (F0 m (pc + 1) ls (.int (nI (x + y)) :: rest))) : W p l e R s m args below meth c H locs cells slots Q (F0 m pc ls (.int (nI y) :: .int (nI x) :: rest)) := by
  refine lv_iadd hexec hb hdg ?_
  rw [nI_add]
  exact k
theorem fk_isub (hexec : p.tables.exec = Jvm.exec) (hb : c.code = cc) {x y : Nat} (h : y ≤ x) (hdg : decode cc pc = .ok (.isub, 1)) (k : W p l e R s m args below meth c H locs cells slots Q (F0 m (pc + 1) ls (.int (nI (x - y)) :: rest))) : W p l e R s m args below meth c H locs cells slots Q (F0 m pc ls (.int (nI y) :: .int (nI x) :: rest)) := by
  refine lv_isub hexec hb hdg ?_
  rw [pk_sub h]
  exact k
theorem fk_imul (hexec : p.tables.exec = Jvm.exec) (hb : c.code = cc) {x y : Nat} (hdg : decode cc pc = .ok (.imul, 1)) (k : W p l e R s m args below meth c H locs cells slots Q (F0 m (pc + 1) ls (.int (nI (x * y)) :: rest))) : W p l e R s m args below meth c H locs cells slots Q (F0 m pc ls (.int (nI y) :: .int (nI x) :: rest)) := by
  refine lv_imul hexec hb hdg ?_
  rw [pk_mul]
  exact k
theorem fk_ceq (hexec : p.tables.exec = Jvm.exec) (hb : c.code = cc) {x y : Nat} (hx : x < 2 ^ 31) (hy : y < 2 ^ 31) {off : Int} {tgt : Nat} (hdg : decode cc pc = .ok (.if_icmp .eq off, 3)) (ht : (pc : Int) + off = (tgt : Int))
    (kt : x = y → W p l e R s m args below meth c H locs cells slots Q (F0 m tgt ls rest)) (kf : ¬ x = y → W p l e R s m args below meth c H locs cells slots Q (F0 m (pc + 3) ls rest)) : W p l e R s m args below meth c H locs cells slots Q (F0 m pc ls (.int (nI y) :: .int (nI x) :: rest)) :=
  lv_icmp_eq hexec hb hdg ht (fun h => kt (by simp only [nI_eq hx hy, nI_ltI hx hy, nI_ltI hy hx, nI_leI hx hy, nI_leI hy hx] at h; omega)) (fun h => kf (by simp only [nI_eq hx hy, nI_ltI hx hy, nI_ltI hy hx, nI_leI hx hy, nI_leI hy hx] at h; omega))
theorem fk_cne (hexec : p.tables.exec = Jvm.exec) (hb : c.code = cc) {x y : Nat} (hx : x < 2 ^ 31) (hy : y < 2 ^ 31) {off : Int} {tgt : Nat} (hdg : decode cc pc = .ok (.if_icmp .ne off, 3)) (ht : (pc : Int) + off = (tgt : Int))
    (kt : ¬ x = y → W p l e R s m args below meth c H locs cells slots Q (F0 m tgt ls rest)) (kf : x = y → W p l e R s m args below meth c H locs cells slots Q (F0 m (pc + 3) ls rest)) : W p l e R s m args below meth c H locs cells slots Q (F0 m pc ls (.int (nI y) :: .int (nI x) :: rest)) :=
  lv_icmp_ne hexec hb hdg ht (fun h => kt (by simp only [nI_eq hx hy, nI_ltI hx hy, nI_ltI hy hx, nI_leI hx hy, nI_leI hy hx] at h; omega)) (fun h => kf (by simp only [nI_eq hx hy, nI_ltI hx hy, nI_ltI hy hx, nI_leI hx hy, nI_leI hy hx] at h; omega))
theorem fk_clt (hexec : p.tables.exec = Jvm.exec) (hb : c.code = cc) {x y : Nat} (hx : x < 2 ^ 31) (hy : y < 2 ^ 31) {off : Int} {tgt : Nat} (hdg : decode cc pc = .ok (.if_icmp .lt off, 3)) (ht : (pc : Int) + off = (tgt : Int))
    (kt : x < y → W p l e R s m args below meth c H locs cells slots Q (F0 m tgt ls rest)) (kf : y ≤ x → W p l e R s m args below meth c H locs cells slots Q (F0 m (pc + 3) ls rest)) : W p l e R s m args below meth c H locs cells slots Q (F0 m pc ls (.int (nI y) :: .int (nI x) :: rest)) :=
  lv_icmp_lt hexec hb hdg ht (fun h => kt (by simp only [nI_eq hx hy, nI_ltI hx hy, nI_ltI hy hx, nI_leI hx hy, nI_leI hy hx] at h; omega)) (fun h => kf (by simp only [nI_eq hx hy, nI_ltI hx hy, nI_ltI hy hx, nI_leI hx hy, nI_leI hy hx] at h; omega))
theorem fk_cge (hexec : p.tables.exec = Jvm.exec) (hb : c.code = cc) {x y : Nat} (hx : x < 2 ^ 31) (hy : y < 2 ^ 31) {off : Int} {tgt : Nat} (hdg : decode cc pc = .ok (.if_icmp .ge off, 3)) (ht : (pc : Int) + off = (tgt : Int))
    (kt : y ≤ x → W p l e R s m args below meth c H locs cells slots Q (F0 m tgt ls rest)) (kf : x < y → W p l e R s m args below meth c H locs cells slots Q (F0 m (pc + 3) ls rest)) : W p l e R s m args below meth c H locs cells slots Q (F0 m pc ls (.int (nI y) :: .int (nI x) :: rest)) :=
  lv_icmp_ge hexec hb hdg ht (fun h => kt (by simp only [nI_eq hx hy, nI_ltI hx hy, nI_ltI hy hx, nI_leI hx hy, nI_leI hy hx] at h; omega)) (fun h => kf (by simp only [nI_eq hx hy, nI_ltI hx hy, nI_ltI hy hx, nI_leI hx hy, nI_leI hy hx] at h; omega))
theorem fk_cgt (hexec : p.tables.exec = Jvm.exec) (hb : c.code = cc) {x y : Nat} (hx : x < 2 ^ 31) (hy : y < 2 ^ 31) {off : Int} {tgt : Nat} (hdg : decode cc pc = .ok (.if_icmp .gt off, 3)) (ht : (pc : Int) + off = (tgt : Int))
    (kt : y < x → W p l e R s m args below meth c H locs cells slots Q (F0 m tgt ls rest)) (kf : x ≤ y → W p l e R s m args below meth c H locs cells slots Q (F0 m (pc + 3) ls rest)) : W p l e R s m args below meth c H locs cells slots Q (F0 m pc ls (.int (nI y) :: .int (nI x) :: rest)) :=
  lv_icmp_gt hexec hb hdg ht (fun h => kt (by simp only [nI_eq hx hy, nI_ltI hx hy, nI_ltI hy hx, nI_leI hx hy, nI_leI hy hx] at h; omega)) (fun h => kf (by simp only [nI_eq hx hy, nI_ltI hx hy, nI_ltI hy hx, nI_leI hx hy, nI_leI hy hx] at h; omega))
theorem fk_cle (hexec : p.tables.exec = Jvm.exec) (hb : c.code = cc) {x y : Nat} (hx : x < 2 ^ 31) (hy : y < 2 ^ 31) {off : Int} {tgt : Nat} (hdg : decode cc pc = .ok (.if_icmp .le off, 3)) (ht : (pc : Int) + off = (tgt : Int))
    (kt : x ≤ y → W p l e R s m args below meth c H locs cells slots Q (F0 m tgt ls rest)) (kf : y < x → W p l e R s m args below meth c H locs cells slots Q (F0 m (pc + 3) ls rest)) : W p l e R s m args below meth c H locs cells slots Q (F0 m pc ls (.int (nI y) :: .int (nI x) :: rest)) :=
  lv_icmp_le hexec hb hdg ht (fun h => kt (by simp only [nI_eq hx hy, nI_ltI hx hy, nI_ltI hy hx, nI_leI hx hy, nI_leI hy hx] at h; omega)) (fun h => kf (by simp only [nI_eq hx hy, nI_ltI hx hy, nI_ltI hy hx, nI_leI hx hy, nI_leI hy hx] at h; omega))
theorem fk_zeq (hexec : p.tables.exec = Jvm.exec) (hb : c.code = cc) {x : Nat} (hx : x < 2 ^ 31) {off : Int} {tgt : Nat} (hdg : decode cc pc = .ok (.ifCond .eq off, 3)) (ht : (pc : Int) + off = (tgt : Int))
    (kt : x = 0 → W p l e R s m args below meth c H locs cells slots Q (F0 m tgt ls rest)) (kf : 0 < x → W p l e R s m args below meth c H locs cells slots Q (F0 m (pc + 3) ls rest)) : W p l e R s m args below meth c H locs cells slots Q (F0 m pc ls (.int (nI x) :: rest)) :=
  have hy : (0 : Nat) < 2 ^ 31 := by decide
  lv_if_eq hexec hb hdg ht (fun h => kt (by rw [← nI_0] at h; simp only [nI_eq hx hy, nI_ltI hx hy, nI_ltI hy hx, nI_leI hx hy, nI_leI hy hx] at h; omega)) (fun h => kf (by rw [← nI_0] at h; simp only [nI_eq hx hy, nI_ltI hx hy, nI_ltI hy hx, nI_leI hx hy, nI_leI hy hx] at h; omega))
theorem fk_zne (hexec : p.tables.exec = Jvm.exec) (hb : c.code = cc) {x : Nat} (hx : x < 2 ^ 31) {off : Int} {tgt : Nat} (hdg : decode cc pc = .ok (.ifCond .ne off, 3)) (ht : (pc : Int) + off = (tgt : Int))
    (kt : 0 < x → W p l e R s m args below meth c H locs cells slots Q (F0 m tgt ls rest)) (kf : x = 0 → W p l e R s m args below meth c H locs cells slots Q (F0 m (pc + 3) ls rest)) : W p l e R s m args below meth c H locs cells slots Q (F0 m pc ls (.int (nI x) :: rest)) :=
  have hy : (0 : Nat) < 2 ^ 31 := by decide
  lv_if_ne hexec hb hdg ht (fun h => kt (by rw [← nI_0] at h; simp only [nI_eq hx hy, nI_ltI hx hy, nI_ltI hy hx, nI_leI hx hy, nI_leI hy hx] at h; omega)) (fun h => kf (by rw [← nI_0] at h; simp only [nI_eq hx hy, nI_ltI hx hy, nI_ltI hy hx, nI_leI hx hy, nI_leI hy hx] at h; omega))
theorem fk_zgt (hexec : p.tables.exec = Jvm.exec) (hb : c.code = cc) {x : Nat} (hx : x < 2 ^ 31) {off : Int} {tgt : Nat} (hdg : decode cc pc = .ok (.ifCond .gt off, 3)) (ht : (pc : Int) + off = (tgt : Int))
    (kt : 0 < x → W p l e R s m args below meth c H locs cells slots Q (F0 m tgt ls rest)) (kf : x = 0 → W p l e R s m args below meth c H locs cells slots Q (F0 m (pc + 3) ls rest)) : W p l e R s m args below meth c H locs cells slots Q (F0 m pc ls (.int (nI x) :: rest)) :=
  have hy : (0 : Nat) < 2 ^ 31 := by decide
  lv_if_gt hexec hb hdg ht (fun h => kt (by rw [← nI_0] at h; simp only [nI_eq hx hy, nI_ltI hx hy, nI_ltI hy hx, nI_leI hx hy, nI_leI hy hx] at h; omega)) (fun h => kf (by rw [← nI_0] at h; simp only [nI_eq hx hy, nI_ltI hx hy, nI_ltI hy hx, nI_leI hx hy, nI_leI hy hx] at h; omega))
theorem fk_zle (hexec : p.tables.exec = Jvm.exec) (hb : c.code = cc) {x : Nat} (hx : x < 2 ^ 31) {off : Int} {tgt : Nat} (hdg : decode cc pc = .ok (.ifCond .le off, 3)) (ht : (pc : Int) + off = (tgt : Int))
    (kt : x = 0 → W p l e R s m args below meth c H locs cells slots Q (F0 m tgt ls rest)) (kf : 0 < x → W p l e R s m args below meth c H locs cells slots Q (F0 m (pc + 3) ls rest)) : W p l e R s m args below meth c H locs cells slots Q (F0 m pc ls (.int (nI x) :: rest)) :=
  have hy : (0 : Nat) < 2 ^ 31 := by decide
  lv_if_le hexec hb hdg ht (fun h => kt (by rw [← nI_0] at h; simp only [nI_eq hx hy, nI_ltI hx hy, nI_ltI hy hx, nI_leI hx hy, nI_leI hy hx] at h; omega)) (fun h => kf (by rw [← nI_0] at h; simp only [nI_eq hx hy, nI_ltI hx hy, nI_ltI hy hx, nI_leI hx hy, nI_leI hy hx] at h; omega))
end FKN
