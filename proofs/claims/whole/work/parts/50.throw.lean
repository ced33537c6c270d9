/-! Throws: contracts of methods that throw; the row of new, dup, ldc, <init>, athrow. -/
/-- the texts -/
def fk_str : List (Nat × String) := [(54, "no such clock"), (65, "no more flows"), (75, "not 1 to 8 bytes"), (80, "the draft would be too long"), (101, "no flow for an equation, or a malformed one"), (113, "no such part of a fault"), (124, "not checked, or the check failed"), (131, "no flow comes there"), (138, "no such input"), (146, "not 1 to 50 instants"), (154, "no such flow"), (163, "it was never there")]
/-- a static field of Throwable that holds a reference, or null -/
def fk_xz (n d : String) (g : fk_G) (U : State) (H : Heap) : Prop := ∃ (c : ClassId) (k : Class) (i : Nat) (f : Field) (a : Nat) (cell : Cell), U.vm.findClass "java/lang/Throwable" = some c ∧ U.fieldFound? "java/lang/Throwable" n d = some (c, k, i, f) ∧ f.isStatic = true ∧ k.statics = some a ∧ H[a]? = some cell ∧ cell.vm.isStatics = true ∧ cell.cls = c ∧ f.slot < cell.slots.size ∧ k.staticTypes[f.slot]? = some f.type ∧ (∃ v, cell.slots[f.slot]? = some v ∧ v.isRef = true) ∧ ¬ fk_A g a
theorem fk_xz.moved {n d : String} {g : fk_G} {u U : State} {H : Heap} (hvm : u.vm.Alike U.vm) (h : fk_xz n d g u H) : fk_xz n d g U H := by
  obtain ⟨c, k, i, f, a, cell, h1, h2, h3, h4, h5, h6, h7, h8, h9, h10⟩ := h
  obtain ⟨k', hi', he⟩ := State.fieldFound?_setVm hvm h2
  exact ⟨c, k', i, f, a, cell, by rw [hvm.findClass]; exact h1, hi', h3, by rw [he]; exact h4, h5, h6, h7, h8, by rw [he]; exact h9, h10⟩
theorem fk_xz.kept {n d : String} {g : fk_G} {U : State} {H H1 : Heap} (h : fk_xz n d g U H) (hq : ∀ a : Nat, a < H.size → ¬ fk_A g a → H1[a]? = H[a]?) : fk_xz n d g U H1 := by
  obtain ⟨c, k, i, f, a, cell, h1, h2, h3, h4, h5, h6, h7, h8, h9, h10, h11⟩ := h
  exact ⟨c, k, i, f, a, cell, h1, h2, h3, h4, by rw [hq a (Array.getElem?_eq_some_iff.mp h5).1 h11]; exact h5, h6, h7, h8, h9, h10, h11⟩
theorem fk_xz.lays {n d : String} {g : fk_G} {s : State} {args : Array Value} (h : fk_xz n d g s s.heap) : (Cond.laysStatic Bundle.tN n d).before args s = true := by
  obtain ⟨c, k, i, f, a, cell, h1, h2, h3, h4, h5, h6, h7, h8, h9, h10⟩ := h
  exact Cond.laysStatic_of (s := s) h1 h2 h3 h4 h5 h6 h7 h8 h9
theorem fk_xz.val {n d : String} {g : fk_G} {s : State} {H : Heap} (h : fk_xz n d g s H) {cf i a : Nat} {k : Class} {f : Field} (hf : s.fieldFound? "java/lang/Throwable" n d = some (cf, k, i, f)) (hs : k.statics = some a) :
    ∃ (u : RefV) (cell : Cell), H[a]? = some cell ∧ cell.vm.isStatics = true ∧ cell.slots[f.slot]? = some u.v ∧ ¬ fk_A g a := by
  obtain ⟨c', k', i', f', a', cell, h1, h2, h3, h4, h5, h6, h7, h8, h9, ⟨v, h10, hv⟩, h11⟩ := h
  cases h2.symm.trans hf
  cases h4.symm.trans hs
  exact ⟨⟨v, hv⟩, cell, h5, h6, h10, h11⟩
/-- methods that are declared -/
def fk_xd : List MethodName := [Bundle.initS Bundle.tN, Bundle.initS "java/lang/Exception", Bundle.initS "java/lang/RuntimeException"]
/-- what a throw asks of the state: two statics of Throwable hold references, three constructors are declared, the texts are there -/
def fk_xs (g : fk_G) (U : State) (H : Heap) : Prop :=
  fk_xz "UNASSIGNED_STACK" "[Ljava/lang/StackTraceElement;" g U H ∧ fk_xz "SUPPRESSED_SENTINEL" "Ljava/util/List;" g U H ∧ (∀ x ∈ fk_xd, va_Nw (.declares x) U) ∧ ∀ x ∈ fk_str, ∃ q, vk_R "FlowDesk" x.1 x.2 q U
theorem fk_xs.to {g : fk_G} {s U : State} {H : Heap} {locs : List Loc} (h : fk_xs g s s.heap) (hS : va_S (fk_A g) s.heap H locs) (hU : U.heap = H) (hW : s.WarmedH U.vm) : fk_xs g U U.heap := by
  subst hU
  refine ⟨fk_xz.moved hW.alike (fk_xz.kept h.1 hS.2.1), fk_xz.moved hW.alike (fk_xz.kept h.2.1 hS.2.1), fun x hx => va_Nw.warmD hW (h.2.2.1 x hx), fun x hx => ?_⟩
  obtain ⟨q, hq⟩ := h.2.2.2 x hx
  exact ⟨q, vk_R.warm hW hq⟩
theorem fk_xs.same {g : fk_G} {s U : State} (h : fk_xs g s s.heap) (hH : U.heap = s.heap) (hV : s.vm = U.vm) : fk_xs g U U.heap := by
  have hA : s.vm.Alike U.vm := by rw [hV]; exact Vm.Alike.refl _
  rw [hH]
  refine ⟨fk_xz.moved hA h.1, fk_xz.moved hA h.2.1, fun x hx => va_Nw.same rfl hV (h.2.2.1 x hx), fun x hx => ?_⟩
  obtain ⟨q, hq⟩ := h.2.2.2 x hx
  exact ⟨q, vk_R.same hV.symm hq⟩
theorem fk_xs.decl {g : fk_G} {s : State} {args : Array Value} (h : fk_xs g s s.heap) (i : Nat) {x : MethodName} (hx : fk_xd[i]? = some x) : (Cond.declares x).before args s = true := va_Nw.use rfl (h.2.2.1 x (List.mem_of_getElem? hx))
theorem fk_xT {s : State} {args : Array Value} {g : fk_G} (ha : ∀ w, w ∈ fk_ALL → w.before args s = true) (Z : fk_xs g s s.heap) : ∀ w ∈ Bundle.throwableAtoms, w.before args s = true := List.forall_mem_cons.mpr ⟨(ha _ (fk_mt (List.mem_of_getElem? (i := 9) (by decide +kernel)) (by decide +kernel))), List.forall_mem_cons.mpr ⟨(ha _ (fk_mt (List.mem_of_getElem? (i := 392) (by decide +kernel)) (by decide +kernel))), List.forall_mem_cons.mpr ⟨(ha _ (fk_mt (List.mem_of_getElem? (i := 401) (by decide +kernel)) (by decide +kernel))), List.forall_mem_cons.mpr ⟨(ha _ (fk_mt (List.mem_of_getElem? (i := 405) (by decide +kernel)) (by decide +kernel))), List.forall_mem_cons.mpr ⟨(ha _ (fk_mt (List.mem_of_getElem? (i := 408) (by decide +kernel)) (by decide +kernel))), List.forall_mem_cons.mpr ⟨(ha _ (fk_mt (List.mem_of_getElem? (i := 410) (by decide +kernel)) (by decide +kernel))), List.forall_mem_cons.mpr ⟨(ha _ (fk_mt (List.mem_of_getElem? (i := 393) (by decide +kernel)) (by decide +kernel))), List.forall_mem_cons.mpr ⟨(ha _ (fk_mt (List.mem_of_getElem? (i := 394) (by decide +kernel)) (by decide +kernel))), List.forall_mem_cons.mpr ⟨(ha _ (fk_mt (List.mem_of_getElem? (i := 22) (by decide +kernel)) (by decide +kernel))), List.forall_mem_cons.mpr ⟨(ha _ (fk_mt (List.mem_of_getElem? (i := 23) (by decide +kernel)) (by decide +kernel))), List.forall_mem_cons.mpr ⟨(ha _ (fk_mt (List.mem_of_getElem? (i := 395) (by decide +kernel)) (by decide +kernel))), List.forall_mem_cons.mpr ⟨(ha _ (fk_mt (List.mem_of_getElem? (i := 400) (by decide +kernel)) (by decide +kernel))), List.forall_mem_cons.mpr ⟨(ha _ (fk_mt (List.mem_of_getElem? (i := 406) (by decide +kernel)) (by decide +kernel))), List.forall_mem_cons.mpr ⟨(ha _ (fk_mt (List.mem_of_getElem? (i := 426) (by decide +kernel)) (by decide +kernel))), List.forall_mem_cons.mpr ⟨(ha _ (fk_mt (List.mem_of_getElem? (i := 382) (by decide +kernel)) (by decide +kernel))), List.forall_mem_cons.mpr ⟨(ha _ (fk_mt (List.mem_of_getElem? (i := 427) (by decide +kernel)) (by decide +kernel))), List.forall_mem_cons.mpr ⟨(ha _ (fk_mt (List.mem_of_getElem? (i := 384) (by decide +kernel)) (by decide +kernel))), List.forall_mem_cons.mpr ⟨(ha _ (fk_mt (List.mem_of_getElem? (i := 428) (by decide +kernel)) (by decide +kernel))), List.forall_mem_cons.mpr ⟨(ha _ (fk_mt (List.mem_of_getElem? (i := 386) (by decide +kernel)) (by decide +kernel))), List.forall_mem_cons.mpr ⟨(ha _ (fk_mt (List.mem_of_getElem? (i := 396) (by decide +kernel)) (by decide +kernel))), List.forall_mem_cons.mpr ⟨(fk_xz.lays Z.1), List.forall_mem_cons.mpr ⟨(ha _ (fk_mt (List.mem_of_getElem? (i := 398) (by decide +kernel)) (by decide +kernel))), List.forall_mem_cons.mpr ⟨(fk_xz.lays Z.2.1), List.forall_mem_cons.mpr ⟨(ha _ (fk_mt (List.mem_of_getElem? (i := 388) (by decide +kernel)) (by decide +kernel))), fun _ h => absurd h List.not_mem_nil⟩⟩⟩⟩⟩⟩⟩⟩⟩⟩⟩⟩⟩⟩⟩⟩⟩⟩⟩⟩⟩⟩⟩⟩
theorem fk_xS {s : State} {args : Array Value} (ha : ∀ w, w ∈ fk_ALL → w.before args s = true) : ∀ w ∈ Bundle.throwableSAtoms, w.before args s = true := List.forall_mem_cons.mpr ⟨(ha _ (fk_mt (List.mem_of_getElem? (i := 422) (by decide +kernel)) (by decide +kernel))), List.forall_mem_cons.mpr ⟨(ha _ (fk_mt (List.mem_of_getElem? (i := 423) (by decide +kernel)) (by decide +kernel))), List.forall_mem_cons.mpr ⟨(ha _ (fk_mt (List.mem_of_getElem? (i := 425) (by decide +kernel)) (by decide +kernel))), List.forall_mem_cons.mpr ⟨(ha _ (fk_mt (List.mem_of_getElem? (i := 388) (by decide +kernel)) (by decide +kernel))), fun _ h => absurd h List.not_mem_nil⟩⟩⟩⟩
theorem fk_xR {s : State} {args : Array Value} {g : fk_G} (ha : ∀ w, w ∈ fk_ALL → w.before args s = true) (Z : fk_xs g s s.heap) : ∀ w ∈ Bundle.chainSAtoms "java/lang/RuntimeException" ["java/lang/Exception"], w.before args s = true := List.forall_mem_cons.mpr ⟨(ha _ (fk_mt (List.mem_of_getElem? (i := 416) (by decide +kernel)) (by decide +kernel))), List.forall_mem_cons.mpr ⟨(ha _ (fk_mt (List.mem_of_getElem? (i := 417) (by decide +kernel)) (by decide +kernel))), List.forall_mem_cons.mpr ⟨(ha _ (fk_mt (List.mem_of_getElem? (i := 418) (by decide +kernel)) (by decide +kernel))), List.forall_mem_cons.mpr ⟨(ha _ (fk_mt (List.mem_of_getElem? (i := 419) (by decide +kernel)) (by decide +kernel))), List.forall_mem_cons.mpr ⟨(Z.decl 1 rfl), List.forall_mem_cons.mpr ⟨(ha _ (fk_mt (List.mem_of_getElem? (i := 419) (by decide +kernel)) (by decide +kernel))), List.forall_mem_cons.mpr ⟨(ha _ (fk_mt (List.mem_of_getElem? (i := 420) (by decide +kernel)) (by decide +kernel))), List.forall_mem_cons.mpr ⟨(ha _ (fk_mt (List.mem_of_getElem? (i := 421) (by decide +kernel)) (by decide +kernel))), List.forall_mem_cons.mpr ⟨(ha _ (fk_mt (List.mem_of_getElem? (i := 422) (by decide +kernel)) (by decide +kernel))), List.forall_mem_cons.mpr ⟨(Z.decl 0 rfl), fun _ h => absurd h List.not_mem_nil⟩⟩⟩⟩⟩⟩⟩⟩⟩⟩
/-- what is known of an exception's class: how its constructor hands the text on, and how it is laid -/
def fk_xc (C : String) (ic idx : Nat) (bytes : ByteArray) : Prop :=
  Bundle.fit C = true ∧ (decode bytes 0 = .ok (.aload_n 0, 1) ∧ decode bytes 1 = .ok (.aload_n 1, 1) ∧ decode bytes 2 = .ok (.invokespecial idx, 3) ∧ decode bytes 5 = .ok (.return_, 1)) ∧
  (∀ (s : State) (args : Array Value) (g : fk_G), (∀ w, w ∈ fk_ALL → w.before args s = true) → fk_xs g s s.heap → ∀ w ∈ Bundle.passSAtoms C "java/lang/RuntimeException" idx bytes, w.before args s = true) ∧
  (Cond.methodLink "FlowDesk" ic (Bundle.initS C) ∈ fk_ALL ∧ Cond.instantiable C 6 ∈ fk_ALL ∧ Cond.initialized C ∈ fk_ALL ∧ Cond.selects C Bundle.tFill0 Bundle.tFill0 ∈ fk_ALL ∧ Cond.selects C Bundle.tFill Bundle.tFill ∈ fk_ALL) ∧
  Cond.lays C Bundle.tN "cause" "Ljava/lang/Throwable;" ∈ fk_ALL ∧ Cond.lays C Bundle.tN "stackTrace" Bundle.steD ∈ fk_ALL ∧ Cond.lays C Bundle.tN "suppressedExceptions" Bundle.listD ∈ fk_ALL ∧ Cond.lays C Bundle.tN "detailMessage" "Ljava/lang/String;" ∈ fk_ALL ∧ Cond.lays C Bundle.tN "backtrace" "Ljava/lang/Object;" ∈ fk_ALL
theorem fk_xB : Cond.fieldLink Bundle.tN 198 Bundle.tN "backtrace" "Ljava/lang/Object;" ∈ fk_ALL ∧ Cond.lays Bundle.tN Bundle.tN "backtrace" "Ljava/lang/Object;" ∈ fk_ALL := ⟨(fk_mt (List.mem_of_getElem? (i := 391) (by decide +kernel)) (by decide +kernel)), (fk_mt (List.mem_of_getElem? (i := 390) (by decide +kernel)) (by decide +kernel))⟩
abbrev x_IA : String := "java/lang/IllegalArgumentException"
theorem xc_IA : fk_xc x_IA 56 7 prog_11_method_2_code := ⟨by decide +kernel, ⟨by decide +kernel, by decide +kernel, by decide +kernel, by decide +kernel⟩, fun s args g ha Z => List.forall_mem_cons.mpr ⟨(ha _ (fk_mt (List.mem_of_getElem? (i := 413) (by decide +kernel)) (by decide +kernel))), List.forall_mem_cons.mpr ⟨(ha _ (fk_mt (List.mem_of_getElem? (i := 414) (by decide +kernel)) (by decide +kernel))), List.forall_mem_cons.mpr ⟨(ha _ (fk_mt (List.mem_of_getElem? (i := 415) (by decide +kernel)) (by decide +kernel))), List.forall_mem_cons.mpr ⟨(ha _ (fk_mt (List.mem_of_getElem? (i := 416) (by decide +kernel)) (by decide +kernel))), List.forall_mem_cons.mpr ⟨(Z.decl 2 rfl), fun _ h => absurd h List.not_mem_nil⟩⟩⟩⟩⟩, ⟨(fk_mt (List.mem_of_getElem? (i := 412) (by decide +kernel)) (by decide +kernel)), (fk_mt (List.mem_of_getElem? (i := 371) (by decide +kernel)) (by decide +kernel)), (fk_mt (List.mem_of_getElem? (i := 12) (by decide +kernel)) (by decide +kernel)), (fk_mt (List.mem_of_getElem? (i := 379) (by decide +kernel)) (by decide +kernel)), (fk_mt (List.mem_of_getElem? (i := 380) (by decide +kernel)) (by decide +kernel))⟩, (fk_mt (List.mem_of_getElem? (i := 381) (by decide +kernel)) (by decide +kernel)), (fk_mt (List.mem_of_getElem? (i := 383) (by decide +kernel)) (by decide +kernel)), (fk_mt (List.mem_of_getElem? (i := 385) (by decide +kernel)) (by decide +kernel)), (fk_mt (List.mem_of_getElem? (i := 387) (by decide +kernel)) (by decide +kernel)), (fk_mt (List.mem_of_getElem? (i := 389) (by decide +kernel)) (by decide +kernel))⟩
abbrev x_IS : String := "java/lang/IllegalStateException"
theorem xc_IS : fk_xc x_IS 67 7 prog_12_method_2_code := ⟨by decide +kernel, ⟨by decide +kernel, by decide +kernel, by decide +kernel, by decide +kernel⟩, fun s args g ha Z => List.forall_mem_cons.mpr ⟨(ha _ (fk_mt (List.mem_of_getElem? (i := 449) (by decide +kernel)) (by decide +kernel))), List.forall_mem_cons.mpr ⟨(ha _ (fk_mt (List.mem_of_getElem? (i := 450) (by decide +kernel)) (by decide +kernel))), List.forall_mem_cons.mpr ⟨(ha _ (fk_mt (List.mem_of_getElem? (i := 451) (by decide +kernel)) (by decide +kernel))), List.forall_mem_cons.mpr ⟨(ha _ (fk_mt (List.mem_of_getElem? (i := 416) (by decide +kernel)) (by decide +kernel))), List.forall_mem_cons.mpr ⟨(Z.decl 2 rfl), fun _ h => absurd h List.not_mem_nil⟩⟩⟩⟩⟩, ⟨(fk_mt (List.mem_of_getElem? (i := 448) (by decide +kernel)) (by decide +kernel)), (fk_mt (List.mem_of_getElem? (i := 439) (by decide +kernel)) (by decide +kernel)), (fk_mt (List.mem_of_getElem? (i := 13) (by decide +kernel)) (by decide +kernel)), (fk_mt (List.mem_of_getElem? (i := 441) (by decide +kernel)) (by decide +kernel)), (fk_mt (List.mem_of_getElem? (i := 403) (by decide +kernel)) (by decide +kernel))⟩, (fk_mt (List.mem_of_getElem? (i := 442) (by decide +kernel)) (by decide +kernel)), (fk_mt (List.mem_of_getElem? (i := 443) (by decide +kernel)) (by decide +kernel)), (fk_mt (List.mem_of_getElem? (i := 444) (by decide +kernel)) (by decide +kernel)), (fk_mt (List.mem_of_getElem? (i := 445) (by decide +kernel)) (by decide +kernel)), (fk_mt (List.mem_of_getElem? (i := 446) (by decide +kernel)) (by decide +kernel))⟩
abbrev x_NS : String := "java/util/NoSuchElementException"
theorem xc_NS : fk_xc x_NS 133 13 prog_17_method_4_code := ⟨by decide +kernel, ⟨by decide +kernel, by decide +kernel, by decide +kernel, by decide +kernel⟩, fun s args g ha Z => List.forall_mem_cons.mpr ⟨(ha _ (fk_mt (List.mem_of_getElem? (i := 524) (by decide +kernel)) (by decide +kernel))), List.forall_mem_cons.mpr ⟨(ha _ (fk_mt (List.mem_of_getElem? (i := 525) (by decide +kernel)) (by decide +kernel))), List.forall_mem_cons.mpr ⟨(ha _ (fk_mt (List.mem_of_getElem? (i := 526) (by decide +kernel)) (by decide +kernel))), List.forall_mem_cons.mpr ⟨(ha _ (fk_mt (List.mem_of_getElem? (i := 416) (by decide +kernel)) (by decide +kernel))), List.forall_mem_cons.mpr ⟨(Z.decl 2 rfl), fun _ h => absurd h List.not_mem_nil⟩⟩⟩⟩⟩, ⟨(fk_mt (List.mem_of_getElem? (i := 523) (by decide +kernel)) (by decide +kernel)), (fk_mt (List.mem_of_getElem? (i := 514) (by decide +kernel)) (by decide +kernel)), (fk_mt (List.mem_of_getElem? (i := 15) (by decide +kernel)) (by decide +kernel)), (fk_mt (List.mem_of_getElem? (i := 516) (by decide +kernel)) (by decide +kernel)), (fk_mt (List.mem_of_getElem? (i := 404) (by decide +kernel)) (by decide +kernel))⟩, (fk_mt (List.mem_of_getElem? (i := 517) (by decide +kernel)) (by decide +kernel)), (fk_mt (List.mem_of_getElem? (i := 518) (by decide +kernel)) (by decide +kernel)), (fk_mt (List.mem_of_getElem? (i := 519) (by decide +kernel)) (by decide +kernel)), (fk_mt (List.mem_of_getElem? (i := 520) (by decide +kernel)) (by decide +kernel)), (fk_mt (List.mem_of_getElem? (i := 521) (by decide +kernel)) (by decide +kernel))⟩
/-- the end of a method that throws -/
def fk_TX (below : List Frame) (QT : Addr → State → Prop) (s : State) (mc ms : Nat) (free : Addr → Prop) : State → Prop := fun t =>
  ∃ x, t.status = .running ∧ Ended t below (.threw x) ∧ QT x t ∧ ∃ L, s.WarmedH t.vm ∧ s.sameButNew ({ t with vm := s.vm } : State) L mc ms ∧ ∀ q ∈ L, free q.base
def fk_MX (l : Launch) (y : MethodName) (ws : List Cond) (rm : Room) (Pc : Array Value → State → Prop) (QT : State → Addr → State → Prop) (mc ms : Nat) (free : Addr → Prop) : Prop :=
  MetFree l y (headSpec ws rm) Pc (fun _ _ _ _ _ => True) (fun _ st o t => ∃ x, o = .threw x ∧ QT st x t ∧ ∃ L, st.WarmedH t.vm ∧ st.sameButNew ({ t with vm := st.vm } : State) L mc ms ∧ ∀ q ∈ L, free q.base)
theorem fk_MX.ofW {l : Launch} {y : MethodName} {ws ws' : List Cond} {rm : Room} {Pc : Array Value → State → Prop} {QT : State → Addr → State → Prop} {mc ms : Nat} {free : Addr → Prop} {cc : ByteArray} {maxL : Nat} {ret : Option FieldType}
    (hy : plainName y.cls = true) (hw : ws = Cond.code y cc maxL ret :: ws')
    (body : ∀ p e s m args below meth c s₁, BodyLoose p l y (headSpec ws rm) cc maxL ret e s m args below meth c s₁ → c.maxLocals = maxL → c.exceptionTable.isEmpty = true → Pc args s →
      W p l e (headSpec ws rm).room s m args below meth c s.heap [] 0 0 (fk_TX below (QT s) s mc ms free) (entryFrame m args maxL)) : fk_MX l y ws rm Pc QT mc ms free := by
  refine MetFree.of_bodyS (code := cc) (maxLocals := maxL) (ret := ret) hy ?_ ?_
  · intro args s m h hn
    obtain ⟨meth, c, h1, h2, h3, h4, h5, h6, -, -⟩ := Cond.code_spec hn (atoms_spec (ws := ws) h _ (by rw [hw]; exact List.mem_cons_self))
    exact ⟨meth, c, h1, h2, h3, h4, h5, h6⟩
  · intro p e s m args below meth c s₁ B hml hP _
    have hh0 : s₁.heap = s.heap := by rw [B.state]; rfl
    have X₀ := Stand.of_body B
    obtain ⟨meth', c', h1, h2, -, -, -, -, h7, -⟩ := Cond.code_spec B.named (atoms_spec (ws := ws) B.pre _ (by rw [hw]; exact List.mem_cons_self))
    have e1 : meth = meth' := Option.some.inj (B.method.symm.trans h1)
    subst e1
    have e2 : c = c' := Option.some.inj (X₀.code.symm.trans h2)
    subst e2
    obtain ⟨t, a1, x, b1, b2, b3, b4⟩ := body p e s m args below meth c s₁ B hml h7 hP s₁ hh0 X₀
    exact ⟨t, .threw x, a1, b1, b2, x, rfl, b3, b4⟩
/-- what is thrown: a cell of class C that is new -/
def fk_QX (g : fk_G) (ov : Int64) (M : fk_M) (C : String) (st : State) (x : Addr) (t : State) : Prop :=
  fk_Wd g ov M t ∧ va_F (fk_A g) st t ∧ ∃ ce : Cell, t.heap[x]? = some ce ∧ t.vm.findClass C = some ce.cls ∧ ce.vm.isStatics = false
/-- a method that throws a C, over that memory -/
abbrev fk_CX (l : Launch) (y : MethodName) (cc : ByteArray) (maxL : Nat) (ret : Option FieldType) (rm : Room) (g : fk_G) (ov : Int64) (M M' : fk_M) (av : List Value) (C : String) : Prop :=
  fk_MX l y (.code y cc maxL ret :: fk_ALL) rm (va_Pc av (fun U => fk_Wd g ov M U ∧ fk_xs g U U.heap)) (fk_QX g ov M' C) 1 6 (fk_A g)
abbrev fk_rx (n : Nat) : Room := { frames := n, cells := 1, slots := 6, locals := 64 * n }
theorem fk_blindX {g : fk_G} {ov : Int64} {M : fk_M} {av : List Value} : FrameBlind (va_Pc av (fun U => fk_Wd g ov M U ∧ fk_xs g U U.heap)) := fun a U f mk q => ⟨q.1, ⟨q.2.1.1.same (U := U.calling f mk a) rfl rfl, q.2.1.2⟩, q.2.2.same (U := U.calling f mk a) rfl rfl⟩
section FKT
variable {p : Program} {l : Launch} {e : Env} {R : Room} {s : State} {m : MethodId} {args : Array Value} {below : List Frame} {meth : Method} {c : Code} {H : Heap} {locs : List Loc} {cells slots : Nat} {Q : State → Prop}
variable {cc : ByteArray} {nL : Nat} {own : String} {pc : Nat} {ls : Array Slot} {rest : List Value} {g : fk_G} {ov : Int64} {M : fk_M}
theorem fk_ofT {y : MethodName} {rm : Room} {M' : fk_M} {av : List Value} {C : String} {maxL : Nat} {ret : Option FieldType} (hy : plainName y.cls = true) (hlen : (lg_sl av).length ≤ maxL)
    (body : ∀ (p : Program) (e : Env) (s : State) (m : MethodId) (args : Array Value) (below : List Frame) (meth : Method) (c : Code) (ls : Array Slot), fk_S p m c cc maxL s args y.cls → meth.locks = false → c.exceptionTable.isEmpty = true → fk_E g s s.heap → fk_xs g s s.heap → fk_H g ov M s s.heap [] → lv_has ls maxL (lv_args 0 av) →
      W p l e rm s m args below meth c s.heap [] 0 0 (fk_TX below (fk_QX g ov M' C s) s 1 6 (fk_A g)) (F0 m 0 ls [])) : fk_CX l y cc maxL ret rm g ov M M' av C := by
  refine fk_MX.ofW (cc := cc) (maxL := maxL) (ret := ret) hy rfl ?_
  intro p e s m args below meth c s₁ B hml hex hv
  obtain ⟨rfl, hv, hx⟩ := hv
  have hts := atoms_spec (ws := .code y cc maxL ret :: fk_ALL) B.pre
  rw [lg_entry_eq]
  exact body p e s m _ below meth c _ ⟨B.exec, B.bytes, hml, findClass_of_methodNamed B.named, fun w h => hts w (List.mem_cons_of_mem _ h)⟩ B.notSynchronized hex hv.1 hx (fk_begin hv) (lv_entry av hlen)
set_option maxHeartbeats 2000000 in
/-- new, dup, ldc, <init>, athrow -/
theorem fk_thr {C tx : String} {ik ix ic idx : Nat} {bytes : ByteArray} (hfl : l.flags = flags0) (S : fk_S p m c cc nL s args "FlowDesk") (hlk : meth.locks = false) (hex : c.exceptionTable.isEmpty = true) (E : fk_E g s s.heap) (Z : fk_xs g s s.heap) (G : fk_H g ov M s H locs)
    (hC : fk_xc C ic idx bytes) (hcl : Cond.classLink "FlowDesk" ik C ∈ fk_ALL) (hstr : (ix, tx) ∈ fk_str) (hsz : ls.size = nL) (hR : 6 ≤ R.frames ∧ 128 ≤ R.locals ∧ 1 ≤ R.cells ∧ 6 ≤ R.slots)
    {M' : fk_M} (hM : M = M')
    (d0 : decode cc pc = .ok (.new ik, 3)) (d1 : decode cc (pc + 3) = .ok (.dup, 1)) (d2 : decode cc (pc + 3 + 1) = .ok (.ldc ix, 2)) (d3 : decode cc (pc + 3 + 1 + 2) = .ok (.invokespecial ic, 3)) (d4 : decode cc (pc + 3 + 1 + 2 + 3) = .ok (.athrow, 1)) :
    W p l e R s m args below meth c H locs 0 0 (fk_TX below (fk_QX g ov M' C s) s 1 6 (fk_A g)) (F0 m pc ls []) := by
  subst hM
  obtain ⟨hfit, ⟨b0, b1, b2, b5⟩, hps, ⟨w1, w2, w3, w4, w5⟩, y1, y2, y3, y4, y5⟩ := hC
  obtain ⟨q, hq⟩ := Z.2.2.2 _ hstr
  have ha : ∀ w, w ∈ fk_ALL → w.before args s = true := S.2.2.2.2
  refine W.newc S.1 S.2.1 (own := "FlowDesk") (C := C) (n := 6) S.2.2.2.1 (ha _ hcl) (ha _ w2) (ha _ w3) rfl d0 (by omega) (by omega) (fun cX kX hfX hkX hord hn6 => ?_)
  refine W.eq (g2 := F0 m (pc + 3) ls [.ref H.size]) rfl ?_
  refine lv_dup S.1 S.2.1 d1 rfl ?_
  refine va_ldcS S.1 S.2.1 S.2.2.2.1 hq d2 ?_
  intro T hT X
  have htr : e.platform.stackTraces = false := Launch.traces_off hfl X.admits
  have howns : e.platform.frameOwnsMonitors = true := by rw [X.admits.platform]
  have hfin : e.platform.finalization = false := by rw [X.admits.platform]
  have hpl : e.platform.magicAccessors = ({} : Platform).magicAccessors := by rw [X.admits.platform]
  obtain ⟨Tc, Z0, L, -, Y⟩ := ThrowableC.of_atoms (args := args) howns hfin hpl (fk_xT ha Z)
  obtain ⟨Zz, Mm, LZ, LM, hnZ⟩ := Init0T.ofS_atoms (args := args) hpl L Y (fk_xS ha)
  obtain ⟨P0, LP0, hP0m, hP0s⟩ := PassC.ofS_atoms (args := args) (s := s) hpl (X := C) (Y := "java/lang/RuntimeException") (Bundle.fit_spec hfit).1 (by decide) b0 b1 b2 b5 (hps s args g ha Z)
  obtain ⟨P1, Ps, hlen, L1, hL, hP1m, hl1, hl2⟩ := Bundle.chainS (args := args) hpl hnZ ["java/lang/Exception"] "java/lang/RuntimeException" (by decide +kernel) (by decide +kernel) (fk_xR ha Z)
  have hlen : Ps.length = 1 := hlen
  have hfC : s.vm.findClass C = some P0.m.cls := findClass_of_methodNamed hP0m
  have hcX : cX = P0.m.cls := Option.some.inj (hfX.symm.trans hfC)
  subst hcX
  have hsel0 : selectMethod e.platform s.vm P0.m.cls Tc.fill0 = .method Tc.fill0 := by
    obtain ⟨c2, r2, m2, q1, q2, q3, q4, -⟩ := Cond.selects_spec (ha _ w4)
    cases Option.some.inj (q1.symm.trans hfC)
    cases Option.some.inj (q2.symm.trans (State.methodFound?_of_named Y.fill0 (by decide)))
    cases Option.some.inj (q3.symm.trans Y.fill0)
    rw [Launch.admits_selectMethod X.admits]; exact q4
  have hselF : selectMethod e.platform s.vm P0.m.cls Tc.fill = .method Tc.fill := by
    obtain ⟨c2, r2, m2, q1, q2, q3, q4, -⟩ := Cond.selects_spec (ha _ w5)
    cases Option.some.inj (q1.symm.trans hfC)
    cases Option.some.inj (q2.symm.trans (State.methodFound?_of_named Y.fill (by decide)))
    cases Option.some.inj (q3.symm.trans Y.fill)
    rw [Launch.admits_selectMethod X.admits]; exact q4
  obtain ⟨u0, cellS, hS1, hS2, hS3, hS4⟩ := Z.1.val Y.unassigned L.statics
  obtain ⟨sen, cellS', hS1', hS2', hS3', hS4'⟩ := Z.2.1.val Y.sentinel L.statics
  cases hS1.symm.trans hS1'
  have haS : Tc.aS < s.heap.size := (Array.getElem?_eq_some_iff.mp hS1).1
  have hHs : s.heap.size ≤ H.size := G.2.2.1
  have hTk : ∀ k, k < H.size → T.heap[k]? = H[k]? := fun k hk => by rw [hT, Array.getElem?_push, if_neg (by omega)]
  have hcellS : T.heap[Tc.aS]? = some cellS := by rw [hTk _ (Nat.lt_of_lt_of_le haS hHs), G.2.2.2.1 _ haS hS4]; exact hS1
  have hcell : T.heap[H.size]? = some (freshCell P0.m.cls kX) := by rw [hT, Array.getElem?_push_size]
  have hneS : Tc.aS ≠ H.size := Nat.ne_of_lt (Nat.lt_of_lt_of_le haS hHs)
  have hknownS : cellS.vm ≠ .unknown := by intro h; rw [h] at hS2; cases hS2
  obtain ⟨ci198, i198, fB, hk198, hg198, ha198, hsB, -, hnB, htB, hffB⟩ := Cond.ownField (t := .object "java/lang/Object") Y.found L.cls (by decide +kernel) (ha _ fk_xB.1) (ha _ fk_xB.2) e.platform hpl
  obtain ⟨iM, hffM⟩ := Y.msg
  obtain ⟨tyC, dC, hdC, hdnC⟩ := Cond.laysAt hfC hkX Y.cause (ha _ y1)
  obtain ⟨tyS, dS, hdS, hdnS⟩ := Cond.laysAt hfC hkX Y.stack (ha _ y2)
  obtain ⟨tyP, dP, hdP, hdnP⟩ := Cond.laysAt hfC hkX Y.supp (ha _ y3)
  obtain ⟨tyM, dM, hdM, hdnM⟩ := Cond.laysAt hfC hkX hffM (ha _ y4)
  obtain ⟨tyB, dB, hdB, hdnB⟩ := Cond.laysAt hfC hkX hffB (ha _ y5)
  have bC := Cond.laysApart hdB hdC hdnB hdnC (by rw [hnB, Y.causeName]; decide)
  have bS := Cond.laysApart hdB hdS hdnB hdnS (by rw [hnB, Y.stackName]; decide)
  have bP := Cond.laysApart hdB hdP hdnB hdnP (by rw [hnB, Y.suppName]; decide)
  have hskip : SkipFacts Tc e.platform s (fun u => u) u0 ((preparedCellV Tc.toThrowableT (freshCell P0.m.cls kX) H.size u0 sen).withEntry T.cur) := by
    refine ⟨{ ci198 := ci198, i198 := i198, fBack := fB }, ⟨hk198, hg198, ha198, hsB⟩, ?_, fun _ _ => rfl⟩
    have h1 := fresh_default (c := P0.m.cls) tyB
    rw [htB] at h1
    simpa [preparedCellV, Cell.setSlot, Cell.withEntry, Array.getElem?_setIfInBounds, bC, bS, bP, bC.symm, bS.symm, bP.symm, defaultValue] using h1
  obtain ⟨tm, methC, cdC, kC, vm₁, hnC, -, -, -, -, -, -, -, hW₁, st1⟩ := Steps.initColdS (tb := p.tables) (e := e) (below := below) (s := s) (U := T) X.here S.1 X.warmed hpl S.2.2.2.1 (t := Bundle.initS C) rfl rfl (Bundle.fit_spec hfit).2
    (ha _ w1) (hps s args g ha Z _ (by simp [Bundle.passSAtoms])) (bytes := bytes) (maxL := 2) (hps s args g ha Z _ (by simp [Bundle.passSAtoms]))
    (f := F0 m (pc + 3 + 1 + 2) ls [.ref q, .ref H.size, .ref H.size]) rfl (a := H.size) (msg := .ref q) (rest := [.ref H.size]) rfl (by rw [S.2.1]; exact d3)
  cases Option.some.inj (hnC.symm.trans hP0m)
  obtain ⟨vm₂, X₂, st2⟩ := (X.noted hW₁).ctorMessageOffV S.1 (g := F0 m (pc + 3 + 1 + 2) ls [.ref H.size]) rfl (hsz.trans S.2.2.1.symm) Tc L Zz LZ Mm LM (P0 :: P1 :: Ps)
    (fun P hP => by
      rcases List.mem_cons.mp hP with rfl | hP
      · exact LP0
      · rcases List.mem_cons.mp hP with rfl | hP
        · exact L1
        · exact hL P hP) ⟨Option.some.inj (hP0s.symm.trans hP1m), hl1, hl2⟩ (u0 := u0) (sen := sen) (self := H.size) (msg := .ref q) rfl (cell := freshCell P0.m.cls kX) (cellS := cellS)
    hcell (fun _ => by simp) (by simp) rfl rfl hsel0 hselF hcellS hneS hknownS hS3 hS3'
    (Takes.of_laid hkX hord tyC (by rw [Y.causeType]; rfl)) (Takes.of_laid hkX hord tyS (by rw [Y.stackType]; exact fits_refV_array _ u0)) (Takes.of_laid hkX hord tyP (by rw [Y.suppType]; exact fits_refV_object _ sen))
    (Takes.of_laid hkX hord tyM (by rw [Y.msgType]; rfl)) Y.objLocals hskip htr [] (by rw [S.2.1]; exact d3)
    (by simp only [List.length_cons, hlen]; omega) (by simp only [List.length_cons, hlen]; show 2 * 0 + (1 + 0) + (13 * (1 + 1 + 1) + 42) ≤ R.locals; omega)
  obtain ⟨hwalk, hrun, hended, hWU, hsame⟩ := X₂.athrowLeaves S.1 (g := F0 m (pc + 3 + 1 + 2 + 3) ls [.ref H.size]) rfl rfl rfl (covers_of_empty hex _) (a := H.size) (rest := []) rfl (by rw [S.2.1]; exact d4)
  have hlt : H.size < ((T.setVm vm₁).setVm vm₂).heap.size := (Array.getElem?_eq_some_iff.mp hcell).1
  have hU := heapAt_setCell_self (s := (T.setVm vm₁).setVm vm₂) (plainBareV Tc.toThrowableT (freshCell P0.m.cls kX) H.size u0 sen (.ref q)) hlt
  refine ⟨_, st1 _ (fun acts => ?_), H.size, hrun, hended, ?_, _, hWU, hsame, ?_⟩
  · rw [doInvoke_state]
    exact st2 _ hwalk
  · have hne : ∀ k, k < H.size → (((T.setVm vm₁).setVm vm₂).setCell H.size (plainBareV Tc.toThrowableT (freshCell P0.m.cls kX) H.size u0 sen (.ref q))).heap[k]? = H[k]? := fun k hk => by
      rw [← hTk k hk]
      exact Array.getElem?_setIfInBounds_ne (by omega)
    have hsz1 : (((T.setVm vm₁).setVm vm₂).setCell H.size (plainBareV Tc.toThrowableT (freshCell P0.m.cls kX) H.size u0 sen (.ref q))).heap.size = H.size + 1 := by
      show (T.heap.setIfInBounds _ _).size = _
      rw [Array.size_setIfInBounds, hT, Array.size_push]
    have hS9 : va_S (fk_A g) s.heap (((T.setVm vm₁).setVm vm₂).setCell H.size (plainBareV Tc.toThrowableT (freshCell P0.m.cls kX) H.size u0 sen (.ref q))).heap locs :=
      ⟨by rw [hsz1]; omega, fun k hk hA => by rw [hne k (by omega)]; exact G.2.2.2.1 k hk hA, G.2.2.2.2⟩
    refine ⟨⟨E.to hS9 rfl hWU, ?_, G.2.1⟩, hS9.F rfl, _, hU, ?_, rfl⟩
    · exact G.1.kept (fun k x hx => hne x.1 ((G.1 k x hx).lt))
    · rw [hWU.alike.findClass]
      exact hfC
  · intro x hx
    rcases List.mem_append.mp hx with h1 | h1
    · exact G.2.2.2.2 x h1
    · have hb : x.base = H.size := by
        simp only [List.mem_cons, List.not_mem_nil, or_false] at h1
        rcases h1 with rfl | rfl | rfl | rfl | rfl <;> rfl
      show g.2.2.2.1 ≤ x.base
      rw [hb]
      exact Nat.le_trans E.1 hHs
end FKT
