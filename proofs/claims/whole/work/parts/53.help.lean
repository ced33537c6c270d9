/-! The law's ten helper methods: what each hands back, over a contract of the class's own method. Written by wip/gen/s_help.py. -/
theorem fk_D_any {A : Nat → Prop} {g : fk_G} {ov ov' : Int64} {M M' : fk_M} (h : va_D A (fk_wl g ov M)) : va_D A (fk_wl g ov' M') := by
  have ad : ∀ (i : Nat) (q : Nat × va_E), (fk_wl g ov' M')[i]? = some q → (fk_wl g ov M)[i]? = some (q.1, fk_cell g ov i (M i)) := by
    intro i q hq
    have hi : i < 111 := by
      have := (List.getElem?_eq_some_iff.mp hq).1
      simpa [fk_wl] using this
    rw [fk_wl_at hi] at hq
    cases hq
    exact fk_wl_at hi
  refine ⟨fun i j x y hx hy e => h.1 i j _ _ (ad i x hx) (ad j y hy) e, fun k q hq => h.2 k (q.1, fk_cell g ov k (M k)) (ad k q hq)⟩
theorem fk_ce_ov {g : fk_G} {ov ov' : Int64} {k : Nat} {r : Nat → Int32} : ∀ n, n < 17 → fk_ce g ov k r n = fk_ce g ov' k r n := by
  intro n hn
  match n, hn with
  | 0, _ => rfl
  | 1, _ => rfl
  | 2, _ => rfl
  | 3, _ => rfl
  | 4, _ => rfl
  | 5, _ => rfl
  | 6, _ => rfl
  | 7, _ => rfl
  | 8, _ => rfl
  | 9, _ => rfl
  | 10, _ => rfl
  | 11, _ => rfl
  | 12, _ => rfl
  | 13, _ => rfl
  | 14, _ => rfl
  | 15, _ => rfl
  | 16, _ => rfl
  | n + 17, hn => exact absurd hn (by omega)
theorem fk_kd17 : ∀ k, k < 110 → fk_kd k < 17 := by decide +kernel
theorem fk_cell_110 {g : fk_G} {ov : Int64} {r : Nat → Int32} : fk_cell g ov 110 r = .inl (g.2.1 2, 1, .inr (.inl (fun _ => ov))) := congrArg (fk_ce g ov 110 r) kd_110
theorem fk_P_ov {g : fk_G} {ov x : Int64} {M : fk_M} {H : Heap} (h : va_P g.1 fk_cl ((fk_wl g ov M).set 110 (fk_a g 110, .inl (g.2.1 2, 1, .inr (.inl (vp_updL (fun _ => ov) 0 x))))) H) : va_P g.1 fk_cl (fk_wl g x M) H := by
  intro k q hq
  have hk : k < 111 := by
    have := (List.getElem?_eq_some_iff.mp hq).1
    simpa [fk_wl] using this
  rw [fk_wl_at hk] at hq
  cases hq
  by_cases h1 : k = 110
  · subst h1
    have h2 := h 110 _ (List.getElem?_set_self (by simp [fk_wl]))
    rw [fk_cell_110]
    show H[_]? = some (vp_cell _ _)
    have h2 : H[fk_a g 110]? = some (vp_cell (g.2.1 2) (1, .inr (.inl (vp_updL (fun _ => ov) 0 x)))) := h2
    rw [vp_cell_l]
    rw [vp_cell_l] at h2
    rw [h2]
    show some (arrV _ _ _) = some (arrV _ _ _)
    refine congrArg some ?_
    show ({ cls := _, slots := Array.ofFn _, vm := .none } : Cell) = { cls := _, slots := Array.ofFn _, vm := .none }
    refine congrArg (fun z => ({ cls := g.2.1 2, slots := z, vm := .none } : Cell)) ?_
    apply Array.ext
    · simp
    · intro j hj1 hj2
      simp at hj1
      subst hj1
      simp [vp_updL]
  · have h2 := h k (fk_a g k, fk_cell g ov k (M k)) (by rw [List.getElem?_set_ne (Ne.symm h1)]; exact fk_wl_at hk)
    rw [show fk_cell g x k (M k) = fk_cell g ov k (M k) from fk_ce_ov _ (fk_kd17 k (by omega))]
    exact h2
/-- what the helpers ask of the state: the throws' needs, and which exception is no other's kind -/
def fk_ys (g : fk_G) (U : State) (H : Heap) : Prop := fk_xs g U H ∧ fk_nc x_IS x_IA U ∧ fk_nc x_NS x_IS U ∧ fk_nc x_NS x_IA U
theorem fk_ys.to {g : fk_G} {s U : State} {H : Heap} {locs : List Loc} (h : fk_ys g s s.heap) (hS : va_S (fk_A g) s.heap H locs) (hU : U.heap = H) (hW : s.WarmedH U.vm) : fk_ys g U U.heap :=
  ⟨h.1.to hS hU hW, h.2.1.moved hW.alike, h.2.2.1.moved hW.alike, h.2.2.2.moved hW.alike⟩
theorem fk_ys.same {g : fk_G} {s U : State} (h : fk_ys g s s.heap) (hH : U.heap = s.heap) (hV : s.vm = U.vm) : fk_ys g U U.heap :=
  have hA : s.vm.Alike U.vm := by rw [hV]; exact Vm.Alike.refl _
  ⟨h.1.same hH hV, h.2.1.moved hA, h.2.2.1.moved hA, h.2.2.2.moved hA⟩
theorem fk_blindY {g : fk_G} {ov : Int64} {M : fk_M} {av : List Value} : FrameBlind (va_Pc av (fun U => fk_Wd g ov M U ∧ fk_ys g U U.heap)) := fun a U f mk q => ⟨q.1, ⟨q.2.1.1.same (U := U.calling f mk a) rfl rfl, q.2.1.2⟩, q.2.2.same (U := U.calling f mk a) rfl rfl⟩
/-- a helper's contract: it hands back v; the law's long is ov' then -/
abbrev fk_CH (l : Launch) (y : MethodName) (cc : ByteArray) (maxL : Nat) (hh : List (Nat × Nat × Nat × Nat)) (rm : Room) (g : fk_G) (ov ov' : Int64) (M M' : fk_M) (av : List Value) (v : Int32) : Prop :=
  Met l y (.codeWith y cc maxL (some .int) hh :: fk_ALL) rm (va_Pc av (fun U => fk_Wd g ov M U ∧ fk_ys g U U.heap)) (va_Qi (fun r (_ : Unit) => r = v) (fun _ t => fk_Wd g ov' M' t) (fk_A g)) 1 6 (fk_A g)
section FKH
variable {p : Program} {l : Launch} {e : Env} {R : Room} {s : State} {m : MethodId} {args : Array Value} {below : List Frame} {meth : Method} {c : Code} {H : Heap} {locs : List Loc} {cells slots : Nat} {Q : State → Prop}
variable {cc bytes : ByteArray} {nL maxL n index : Nat} {own : String} {pc : Nat} {ls : Array Slot} {rest st As : List Value} {g : fk_G} {ov ov' : Int64} {M M' : fk_M} {y : MethodName} {rm : Room} {v : Int32} {hh : List (Nat × Nat × Nat × Nat)}
theorem fk_ofH {av : List Value} (hy : plainName y.cls = true) (hlen : (lg_sl av).length ≤ maxL)
    (body : ∀ (p : Program) (e : Env) (s : State) (m : MethodId) (args : Array Value) (below : List Frame) (meth : Method) (c : Code) (ls : Array Slot), fk_S p m c cc maxL s args y.cls → meth.sig.returnType = some .int → meth.locks = false → c.exceptionTable.toList = hh.map (fun q => (⟨q.1, q.2.1, q.2.2.1, q.2.2.2⟩ : ExceptionTableEntry)) → fk_E g s s.heap → fk_ys g s s.heap → fk_H g ov M s s.heap [] → lv_has ls maxL (lv_args 0 av) →
      W p l e rm s m args below meth c s.heap [] 0 0 (MQ below (va_Qi (fun r (_ : Unit) => r = v) (fun _ t => fk_Wd g ov' M' t) (fk_A g)) args s 1 6 (fk_A g)) (F0 m 0 ls [])) : fk_CH l y cc maxL hh rm g ov ov' M M' av v := by
  refine va_MetW (cc := cc) (maxL := maxL) (ret := some .int) (hh := hh) hy rfl ?_
  intro p e s m args below meth c s₁ B hml hv
  obtain ⟨rfl, hv, hx⟩ := hv
  have hts := atoms_spec (ws := .codeWith y cc maxL (some .int) hh :: fk_ALL) B.pre
  obtain ⟨m9, meth9, c9, hn9, h1, h2, -, -, h5, -⟩ := Cond.codeWith_spec (hts _ List.mem_cons_self)
  cases B.named.symm.trans hn9
  cases B.method.symm.trans h1
  cases (Stand.of_body B).code.symm.trans h2
  rw [lg_entry_eq]
  refine body p e s m _ below meth c _ ⟨B.exec, B.bytes, hml, findClass_of_methodNamed B.named, fun w h => hts w (List.mem_cons_of_mem _ h)⟩ B.returns B.notSynchronized ?_ hv.1 hx (fk_begin hv) (lv_entry av hlen)
  rw [← h5, List.map_map]
  exact (List.map_id' _).symm
theorem fk_iretH {w : Int32} (S : fk_S p m c cc nL s args own) (hr : meth.sig.returnType = some .int) (hk : meth.locks = false) (E : fk_E g s s.heap) (G : fk_H g ov M s H locs) (hM : M = M') (hv : w = v) (hc : cells ≤ 1 ∧ slots ≤ 6) (hdg : decode cc pc = .ok (.ireturn, 1)) :
    W p l e R s m args below meth c H locs cells slots (MQ below (va_Qi (fun r (_ : Unit) => r = v) (fun _ t => fk_Wd g ov M' t) (fk_A g)) args s 1 6 (fk_A g)) (F0 m pc ls [.int w]) := by
  subst hM
  exact W.widen hc.1 hc.2 (W.iret (v := w) S.1 S.2.1 hr (fun t ht hW => ⟨⟨w, (), rfl, hv, fk_pre E G ht hW⟩, G.2.2.F ht⟩) G.2.2.2.2 hdg hk)
theorem fk_lst {x : Int64} (S : fk_S p m c cc nL s args own) (E : fk_E g s s.heap) (G : fk_H g ov M s H locs) (hdg : decode cc pc = .ok (.lastore, 1))
    (kk : ∀ (H : Heap) (locs : List Loc), fk_H g x M s H locs → W p l e R s m args below meth c H locs cells slots Q (F0 m (pc + 1) ls rest)) : W p l e R s m args below meth c H locs cells slots Q (F0 m pc ls (.long x :: .int (nI 0) :: .ref (fk_a g 110) :: rest)) := by
  refine va_last (D := g.1) S.1 S.2.1 E.2.1 G.1 G.2.1 G.2.2 110 2 ((fk_wl_at (by decide)).trans (by rw [fk_cell_110])) rfl (vp_in_nI (by decide) (by decide)) hdg (fun H1 locs1 q1 q2 q3 => kk H1 locs1 ?_)
  rw [nI_clamp (by decide)] at q1
  exact ⟨fk_P_ov q1, fk_D_any G.2.1, q3⟩
theorem fk_ll (S : fk_S p m c cc nL s args own) (E : fk_E g s s.heap) (G : fk_H g ov M s H locs) (hdg : decode cc pc = .ok (.laload, 1))
    (kk : W p l e R s m args below meth c H locs cells slots Q (F0 m (pc + 1) ls (.long ov :: rest))) : W p l e R s m args below meth c H locs cells slots Q (F0 m pc ls (.int (nI 0) :: .ref (fk_a g 110) :: rest)) :=
  va_lald (D := g.1) S.1 S.2.1 E.2.1 G.1 110 2 ((fk_wl_at (by decide)).trans (by rw [fk_cell_110])) rfl (vp_in_nI (by decide) (by decide)) hdg kk
end FKH
theorem d_L_flow_0 : decode b_L_flow 0 = .ok (.aload 4, 2) := by decide +kernel
theorem d_L_flow_2 : decode b_L_flow 2 = .ok (.iconst 0, 1) := by decide +kernel
theorem d_L_flow_3 : decode b_L_flow 3 = .ok (.aload_n 0, 1) := by decide +kernel
theorem d_L_flow_4 : decode b_L_flow 4 = .ok (.iload_n 1, 1) := by decide +kernel
theorem d_L_flow_5 : decode b_L_flow 5 = .ok (.iload_n 2, 1) := by decide +kernel
theorem d_L_flow_6 : decode b_L_flow 6 = .ok (.iload_n 3, 1) := by decide +kernel
theorem d_L_flow_7 : decode b_L_flow 7 = .ok (.invokevirtual 7, 3) := by decide +kernel
theorem d_L_flow_10 : decode b_L_flow 10 = .ok (.i2l, 1) := by decide +kernel
theorem d_L_flow_11 : decode b_L_flow 11 = .ok (.lastore, 1) := by decide +kernel
theorem d_L_flow_12 : decode b_L_flow 12 = .ok (.goto 11, 3) := by decide +kernel
theorem d_L_flow_15 : decode b_L_flow 15 = .ok (.astore 5, 2) := by decide +kernel
theorem d_L_flow_17 : decode b_L_flow 17 = .ok (.iconst 1, 1) := by decide +kernel
theorem d_L_flow_18 : decode b_L_flow 18 = .ok (.ireturn, 1) := by decide +kernel
theorem d_L_flow_19 : decode b_L_flow 19 = .ok (.astore 5, 2) := by decide +kernel
theorem d_L_flow_21 : decode b_L_flow 21 = .ok (.iconst 2, 1) := by decide +kernel
theorem d_L_flow_22 : decode b_L_flow 22 = .ok (.ireturn, 1) := by decide +kernel
theorem d_L_flow_23 : decode b_L_flow 23 = .ok (.iconst 0, 1) := by decide +kernel
theorem d_L_flow_24 : decode b_L_flow 24 = .ok (.ireturn, 1) := by decide +kernel
set_option maxHeartbeats 4000000 in
set_option maxRecDepth 100000 in
theorem h_flow_r (l : Launch) (g : fk_G) (ov : Int64) (M Mq : fk_M) (vb v vi : Int32) (r : Int32) {rm : Room} (con : fk_CI l y_D_flow b_D_flow 5 (some .int) rm g ov M Mq [.ref (fk_a g 0), .int vb, .int v, .int vi] r) (hrm : rm.cells = 0 ∧ rm.slots = 0) (hR : rm.frames + 1 ≤ (fk_rx 40).frames ∧ 8 + (5 + 11) + rm.locals ≤ (fk_rx 40).locals) : fk_CH l y_L_flow b_L_flow 6 [(0, 12, 15, 13), (0, 12, 19, 15)] (fk_rx 40) g ov r.toInt64 M Mq [.ref (fk_a g 0), .int vb, .int v, .int vi, .ref (fk_a g 110)] (nI 0) := by
  refine fk_ofH rfl (Nat.le_of_ble_eq_true rfl) ?_
  intro p e s m args below meth c ls S hr hlk htab E Y G hl
  have hl : lv_has ls 6 [(0, .ref (fk_a g 0)), (1, .int vb), (2, .int v), (3, .int vi), (4, .ref (fk_a g 110))] := hl
  refine lv_aload S.1 S.2.1 d_L_flow_0 (lv_at hl 4 rfl) ?_
  refine lv_iconst (v := nI 0) S.1 S.2.1 d_L_flow_2 (by decide +kernel) ?_
  refine lv_aload_n S.1 S.2.1 d_L_flow_3 rfl (lv_at hl 0 rfl) ?_
  refine lv_iload_n S.1 S.2.1 d_L_flow_4 rfl (lv_at hl 1 rfl) ?_
  refine lv_iload_n S.1 S.2.1 d_L_flow_5 rfl (lv_at hl 2 rfl) ?_
  refine lv_iload_n S.1 S.2.1 d_L_flow_6 rfl (lv_at hl 3 rfl) ?_
  refine fk_cvi S E G 0 (by decide) (congrArg (fk_ce g ov 0 (M 0)) kd_0) rfl (rest := [.int (nI 0), .ref (fk_a g 110)]) con m_D_flow i_357 hrm hR rfl rfl hl.1 (Nat.le_of_ble_eq_true rfl) d_L_flow_7 ⟨Nat.zero_le _, Nat.zero_le _⟩ (fun H locs G => ?_)
  refine lv_i2l (v := (r).toInt64) S.1 S.2.1 d_L_flow_10 rfl ?_
  refine fk_lst S E G d_L_flow_11 (fun H locs G => ?_)
  refine lv_goto (tgt := 23) S.1 S.2.1 d_L_flow_12 rfl ?_
  refine lv_iconst (v := nI 0) S.1 S.2.1 d_L_flow_23 (by decide +kernel) ?_
  exact fk_iretH S hr hlk E G rfl rfl ⟨Nat.zero_le _, Nat.zero_le _⟩ d_L_flow_24
set_option maxHeartbeats 4000000 in
set_option maxRecDepth 100000 in
theorem h_flow_t1 (l : Launch) (g : fk_G) (ov : Int64) (M Mq : fk_M) (vb v vi : Int32) {rm : Room} (con : fk_CX l y_D_flow b_D_flow 5 (some .int) rm g ov M Mq [.ref (fk_a g 0), .int vb, .int v, .int vi] x_IA) (hrm : rm.cells = 1 ∧ rm.slots = 6) (hR : rm.frames + 1 ≤ (fk_rx 40).frames ∧ 8 + (5 + 11) + rm.locals ≤ (fk_rx 40).locals) : fk_CH l y_L_flow b_L_flow 6 [(0, 12, 15, 13), (0, 12, 19, 15)] (fk_rx 40) g ov ov M Mq [.ref (fk_a g 0), .int vb, .int v, .int vi, .ref (fk_a g 110)] (nI 1) := by
  refine fk_ofH rfl (Nat.le_of_ble_eq_true rfl) ?_
  intro p e s m args below meth c ls S hr hlk htab E Y G hl
  have hl : lv_has ls 6 [(0, .ref (fk_a g 0)), (1, .int vb), (2, .int v), (3, .int vi), (4, .ref (fk_a g 110))] := hl
  refine lv_aload S.1 S.2.1 d_L_flow_0 (lv_at hl 4 rfl) ?_
  refine lv_iconst (v := nI 0) S.1 S.2.1 d_L_flow_2 (by decide +kernel) ?_
  refine lv_aload_n S.1 S.2.1 d_L_flow_3 rfl (lv_at hl 0 rfl) ?_
  refine lv_iload_n S.1 S.2.1 d_L_flow_4 rfl (lv_at hl 1 rfl) ?_
  refine lv_iload_n S.1 S.2.1 d_L_flow_5 rfl (lv_at hl 2 rfl) ?_
  refine lv_iload_n S.1 S.2.1 d_L_flow_6 rfl (lv_at hl 3 rfl) ?_
  have htb : fk_tb s "FlowDeskLaw" x_IA 7 15 c.exceptionTable.toList := by
    rw [htab]
    exact ⟨by decide, by decide, _, i_355, Or.inl ⟨rfl, rfl⟩⟩
  refine fk_cxv S E Y.1 G 0 (by decide) (congrArg (fk_ce g ov 0 (M 0)) kd_0) rfl (rest := [.int (nI 0), .ref (fk_a g 110)]) con m_D_flow i_357 hrm hR rfl rfl hl.1 (Nat.le_of_ble_eq_true rfl) d_L_flow_7 ⟨by decide, by decide⟩ htb (fun x H locs G => ?_)
  refine lv_astore (lv' := [(5, .ref x), (0, .ref (fk_a g 0)), (1, .int vb), (2, .int v), (3, .int vi), (4, .ref (fk_a g 110))]) S.1 S.2.1 d_L_flow_15 hl (by decide) rfl (fun ls hl => ?_)
  refine lv_iconst (v := nI 1) S.1 S.2.1 d_L_flow_17 (by decide +kernel) ?_
  exact fk_iretH S hr hlk E G rfl rfl ⟨Nat.le_refl _, Nat.le_refl _⟩ d_L_flow_18
set_option maxHeartbeats 4000000 in
set_option maxRecDepth 100000 in
theorem h_flow_t2 (l : Launch) (g : fk_G) (ov : Int64) (M Mq : fk_M) (vb v vi : Int32) {rm : Room} (con : fk_CX l y_D_flow b_D_flow 5 (some .int) rm g ov M Mq [.ref (fk_a g 0), .int vb, .int v, .int vi] x_IS) (hrm : rm.cells = 1 ∧ rm.slots = 6) (hR : rm.frames + 1 ≤ (fk_rx 40).frames ∧ 8 + (5 + 11) + rm.locals ≤ (fk_rx 40).locals) : fk_CH l y_L_flow b_L_flow 6 [(0, 12, 15, 13), (0, 12, 19, 15)] (fk_rx 40) g ov ov M Mq [.ref (fk_a g 0), .int vb, .int v, .int vi, .ref (fk_a g 110)] (nI 2) := by
  refine fk_ofH rfl (Nat.le_of_ble_eq_true rfl) ?_
  intro p e s m args below meth c ls S hr hlk htab E Y G hl
  have hl : lv_has ls 6 [(0, .ref (fk_a g 0)), (1, .int vb), (2, .int v), (3, .int vi), (4, .ref (fk_a g 110))] := hl
  refine lv_aload S.1 S.2.1 d_L_flow_0 (lv_at hl 4 rfl) ?_
  refine lv_iconst (v := nI 0) S.1 S.2.1 d_L_flow_2 (by decide +kernel) ?_
  refine lv_aload_n S.1 S.2.1 d_L_flow_3 rfl (lv_at hl 0 rfl) ?_
  refine lv_iload_n S.1 S.2.1 d_L_flow_4 rfl (lv_at hl 1 rfl) ?_
  refine lv_iload_n S.1 S.2.1 d_L_flow_5 rfl (lv_at hl 2 rfl) ?_
  refine lv_iload_n S.1 S.2.1 d_L_flow_6 rfl (lv_at hl 3 rfl) ?_
  have htb : fk_tb s "FlowDeskLaw" x_IS 7 19 c.exceptionTable.toList := by
    rw [htab]
    exact ⟨by decide, by decide, _, i_355, Or.inr ⟨Y.2.1, ⟨by decide, by decide, _, i_356, Or.inl ⟨rfl, rfl⟩⟩⟩⟩
  refine fk_cxv S E Y.1 G 0 (by decide) (congrArg (fk_ce g ov 0 (M 0)) kd_0) rfl (rest := [.int (nI 0), .ref (fk_a g 110)]) con m_D_flow i_357 hrm hR rfl rfl hl.1 (Nat.le_of_ble_eq_true rfl) d_L_flow_7 ⟨by decide, by decide⟩ htb (fun x H locs G => ?_)
  refine lv_astore (lv' := [(5, .ref x), (0, .ref (fk_a g 0)), (1, .int vb), (2, .int v), (3, .int vi), (4, .ref (fk_a g 110))]) S.1 S.2.1 d_L_flow_19 hl (by decide) rfl (fun ls hl => ?_)
  refine lv_iconst (v := nI 2) S.1 S.2.1 d_L_flow_21 (by decide +kernel) ?_
  exact fk_iretH S hr hlk E G rfl rfl ⟨Nat.le_refl _, Nat.le_refl _⟩ d_L_flow_22
theorem d_L_type_0 : decode b_L_type 0 = .ok (.aload_n 0, 1) := by decide +kernel
theorem d_L_type_1 : decode b_L_type 1 = .ok (.lload_n 1, 1) := by decide +kernel
theorem d_L_type_2 : decode b_L_type 2 = .ok (.iload_n 3, 1) := by decide +kernel
theorem d_L_type_3 : decode b_L_type 3 = .ok (.invokevirtual 17, 3) := by decide +kernel
theorem d_L_type_6 : decode b_L_type 6 = .ok (.goto 11, 3) := by decide +kernel
theorem d_L_type_9 : decode b_L_type 9 = .ok (.astore 4, 2) := by decide +kernel
theorem d_L_type_11 : decode b_L_type 11 = .ok (.iconst 1, 1) := by decide +kernel
theorem d_L_type_12 : decode b_L_type 12 = .ok (.ireturn, 1) := by decide +kernel
theorem d_L_type_13 : decode b_L_type 13 = .ok (.astore 4, 2) := by decide +kernel
theorem d_L_type_15 : decode b_L_type 15 = .ok (.iconst 2, 1) := by decide +kernel
theorem d_L_type_16 : decode b_L_type 16 = .ok (.ireturn, 1) := by decide +kernel
theorem d_L_type_17 : decode b_L_type 17 = .ok (.iconst 0, 1) := by decide +kernel
theorem d_L_type_18 : decode b_L_type 18 = .ok (.ireturn, 1) := by decide +kernel
set_option maxHeartbeats 4000000 in
set_option maxRecDepth 100000 in
theorem h_type_r (l : Launch) (g : fk_G) (ov : Int64) (M Mq : fk_M) (w : Int64) (v : Int32) {rm : Room} (con : fk_CV l y_D_type b_D_type 5 rm g ov M Mq [.ref (fk_a g 0), .long w, .int v]) (hrm : rm.cells = 0 ∧ rm.slots = 0) (hR : rm.frames + 1 ≤ (fk_rx 40).frames ∧ 8 + (5 + 11) + rm.locals ≤ (fk_rx 40).locals) : fk_CH l y_L_type b_L_type 5 [(0, 6, 9, 13), (0, 6, 13, 15)] (fk_rx 40) g ov ov M Mq [.ref (fk_a g 0), .long w, .int v] (nI 0) := by
  refine fk_ofH rfl (Nat.le_of_ble_eq_true rfl) ?_
  intro p e s m args below meth c ls S hr hlk htab E Y G hl
  have hl : lv_has ls 5 [(0, .ref (fk_a g 0)), (1, .long w), (3, .int v)] := hl
  refine lv_aload_n S.1 S.2.1 d_L_type_0 rfl (lv_at hl 0 rfl) ?_
  refine lv_lload_n S.1 S.2.1 d_L_type_1 rfl (lv_at hl 1 rfl) ?_
  refine lv_iload_n S.1 S.2.1 d_L_type_2 rfl (lv_at hl 2 rfl) ?_
  refine fk_cvv S E G 0 (by decide) (congrArg (fk_ce g ov 0 (M 0)) kd_0) rfl (rest := []) con m_D_type i_466 hrm hR rfl rfl hl.1 (Nat.le_of_ble_eq_true rfl) d_L_type_3 ⟨Nat.zero_le _, Nat.zero_le _⟩ (fun H locs G => ?_)
  refine lv_goto (tgt := 17) S.1 S.2.1 d_L_type_6 rfl ?_
  refine lv_iconst (v := nI 0) S.1 S.2.1 d_L_type_17 (by decide +kernel) ?_
  exact fk_iretH S hr hlk E G rfl rfl ⟨Nat.zero_le _, Nat.zero_le _⟩ d_L_type_18
set_option maxHeartbeats 4000000 in
set_option maxRecDepth 100000 in
theorem h_type_t1 (l : Launch) (g : fk_G) (ov : Int64) (M Mq : fk_M) (w : Int64) (v : Int32) {rm : Room} (con : fk_CX l y_D_type b_D_type 5 none rm g ov M Mq [.ref (fk_a g 0), .long w, .int v] x_IA) (hrm : rm.cells = 1 ∧ rm.slots = 6) (hR : rm.frames + 1 ≤ (fk_rx 40).frames ∧ 8 + (5 + 11) + rm.locals ≤ (fk_rx 40).locals) : fk_CH l y_L_type b_L_type 5 [(0, 6, 9, 13), (0, 6, 13, 15)] (fk_rx 40) g ov ov M Mq [.ref (fk_a g 0), .long w, .int v] (nI 1) := by
  refine fk_ofH rfl (Nat.le_of_ble_eq_true rfl) ?_
  intro p e s m args below meth c ls S hr hlk htab E Y G hl
  have hl : lv_has ls 5 [(0, .ref (fk_a g 0)), (1, .long w), (3, .int v)] := hl
  refine lv_aload_n S.1 S.2.1 d_L_type_0 rfl (lv_at hl 0 rfl) ?_
  refine lv_lload_n S.1 S.2.1 d_L_type_1 rfl (lv_at hl 1 rfl) ?_
  refine lv_iload_n S.1 S.2.1 d_L_type_2 rfl (lv_at hl 2 rfl) ?_
  have htb : fk_tb s "FlowDeskLaw" x_IA 3 9 c.exceptionTable.toList := by
    rw [htab]
    exact ⟨by decide, by decide, _, i_355, Or.inl ⟨rfl, rfl⟩⟩
  refine fk_cxv S E Y.1 G 0 (by decide) (congrArg (fk_ce g ov 0 (M 0)) kd_0) rfl (rest := []) con m_D_type i_466 hrm hR rfl rfl hl.1 (Nat.le_of_ble_eq_true rfl) d_L_type_3 ⟨by decide, by decide⟩ htb (fun x H locs G => ?_)
  refine lv_astore (lv' := [(4, .ref x), (0, .ref (fk_a g 0)), (1, .long w), (3, .int v)]) S.1 S.2.1 d_L_type_9 hl (by decide) rfl (fun ls hl => ?_)
  refine lv_iconst (v := nI 1) S.1 S.2.1 d_L_type_11 (by decide +kernel) ?_
  exact fk_iretH S hr hlk E G rfl rfl ⟨Nat.le_refl _, Nat.le_refl _⟩ d_L_type_12
set_option maxHeartbeats 4000000 in
set_option maxRecDepth 100000 in
theorem h_type_t2 (l : Launch) (g : fk_G) (ov : Int64) (M Mq : fk_M) (w : Int64) (v : Int32) {rm : Room} (con : fk_CX l y_D_type b_D_type 5 none rm g ov M Mq [.ref (fk_a g 0), .long w, .int v] x_IS) (hrm : rm.cells = 1 ∧ rm.slots = 6) (hR : rm.frames + 1 ≤ (fk_rx 40).frames ∧ 8 + (5 + 11) + rm.locals ≤ (fk_rx 40).locals) : fk_CH l y_L_type b_L_type 5 [(0, 6, 9, 13), (0, 6, 13, 15)] (fk_rx 40) g ov ov M Mq [.ref (fk_a g 0), .long w, .int v] (nI 2) := by
  refine fk_ofH rfl (Nat.le_of_ble_eq_true rfl) ?_
  intro p e s m args below meth c ls S hr hlk htab E Y G hl
  have hl : lv_has ls 5 [(0, .ref (fk_a g 0)), (1, .long w), (3, .int v)] := hl
  refine lv_aload_n S.1 S.2.1 d_L_type_0 rfl (lv_at hl 0 rfl) ?_
  refine lv_lload_n S.1 S.2.1 d_L_type_1 rfl (lv_at hl 1 rfl) ?_
  refine lv_iload_n S.1 S.2.1 d_L_type_2 rfl (lv_at hl 2 rfl) ?_
  have htb : fk_tb s "FlowDeskLaw" x_IS 3 13 c.exceptionTable.toList := by
    rw [htab]
    exact ⟨by decide, by decide, _, i_355, Or.inr ⟨Y.2.1, ⟨by decide, by decide, _, i_356, Or.inl ⟨rfl, rfl⟩⟩⟩⟩
  refine fk_cxv S E Y.1 G 0 (by decide) (congrArg (fk_ce g ov 0 (M 0)) kd_0) rfl (rest := []) con m_D_type i_466 hrm hR rfl rfl hl.1 (Nat.le_of_ble_eq_true rfl) d_L_type_3 ⟨by decide, by decide⟩ htb (fun x H locs G => ?_)
  refine lv_astore (lv' := [(4, .ref x), (0, .ref (fk_a g 0)), (1, .long w), (3, .int v)]) S.1 S.2.1 d_L_type_13 hl (by decide) rfl (fun ls hl => ?_)
  refine lv_iconst (v := nI 2) S.1 S.2.1 d_L_type_15 (by decide +kernel) ?_
  exact fk_iretH S hr hlk E G rfl rfl ⟨Nat.le_refl _, Nat.le_refl _⟩ d_L_type_16
theorem d_L_equation_0 : decode b_L_equation 0 = .ok (.aload_n 0, 1) := by decide +kernel
theorem d_L_equation_1 : decode b_L_equation 1 = .ok (.iload_n 1, 1) := by decide +kernel
theorem d_L_equation_2 : decode b_L_equation 2 = .ok (.invokevirtual 21, 3) := by decide +kernel
theorem d_L_equation_5 : decode b_L_equation 5 = .ok (.goto 6, 3) := by decide +kernel
theorem d_L_equation_8 : decode b_L_equation 8 = .ok (.astore_n 2, 1) := by decide +kernel
theorem d_L_equation_9 : decode b_L_equation 9 = .ok (.iconst 1, 1) := by decide +kernel
theorem d_L_equation_10 : decode b_L_equation 10 = .ok (.ireturn, 1) := by decide +kernel
theorem d_L_equation_11 : decode b_L_equation 11 = .ok (.iconst 0, 1) := by decide +kernel
theorem d_L_equation_12 : decode b_L_equation 12 = .ok (.ireturn, 1) := by decide +kernel
set_option maxHeartbeats 4000000 in
set_option maxRecDepth 100000 in
theorem h_equation_r (l : Launch) (g : fk_G) (ov : Int64) (M Mq : fk_M) (v : Int32) {rm : Room} (con : fk_CV l y_D_equation b_D_equation 4 rm g ov M Mq [.ref (fk_a g 0), .int v]) (hrm : rm.cells = 0 ∧ rm.slots = 0) (hR : rm.frames + 1 ≤ (fk_rx 40).frames ∧ 8 + (4 + 11) + rm.locals ≤ (fk_rx 40).locals) : fk_CH l y_L_equation b_L_equation 3 [(0, 5, 8, 13)] (fk_rx 40) g ov ov M Mq [.ref (fk_a g 0), .int v] (nI 0) := by
  refine fk_ofH rfl (Nat.le_of_ble_eq_true rfl) ?_
  intro p e s m args below meth c ls S hr hlk htab E Y G hl
  have hl : lv_has ls 3 [(0, .ref (fk_a g 0)), (1, .int v)] := hl
  refine lv_aload_n S.1 S.2.1 d_L_equation_0 rfl (lv_at hl 0 rfl) ?_
  refine lv_iload_n S.1 S.2.1 d_L_equation_1 rfl (lv_at hl 1 rfl) ?_
  refine fk_cvv S E G 0 (by decide) (congrArg (fk_ce g ov 0 (M 0)) kd_0) rfl (rest := []) con m_D_equation i_479 hrm hR rfl rfl hl.1 (Nat.le_of_ble_eq_true rfl) d_L_equation_2 ⟨Nat.zero_le _, Nat.zero_le _⟩ (fun H locs G => ?_)
  refine lv_goto (tgt := 11) S.1 S.2.1 d_L_equation_5 rfl ?_
  refine lv_iconst (v := nI 0) S.1 S.2.1 d_L_equation_11 (by decide +kernel) ?_
  exact fk_iretH S hr hlk E G rfl rfl ⟨Nat.zero_le _, Nat.zero_le _⟩ d_L_equation_12
set_option maxHeartbeats 4000000 in
set_option maxRecDepth 100000 in
theorem h_equation_t1 (l : Launch) (g : fk_G) (ov : Int64) (M Mq : fk_M) (v : Int32) {rm : Room} (con : fk_CX l y_D_equation b_D_equation 4 none rm g ov M Mq [.ref (fk_a g 0), .int v] x_IA) (hrm : rm.cells = 1 ∧ rm.slots = 6) (hR : rm.frames + 1 ≤ (fk_rx 40).frames ∧ 8 + (4 + 11) + rm.locals ≤ (fk_rx 40).locals) : fk_CH l y_L_equation b_L_equation 3 [(0, 5, 8, 13)] (fk_rx 40) g ov ov M Mq [.ref (fk_a g 0), .int v] (nI 1) := by
  refine fk_ofH rfl (Nat.le_of_ble_eq_true rfl) ?_
  intro p e s m args below meth c ls S hr hlk htab E Y G hl
  have hl : lv_has ls 3 [(0, .ref (fk_a g 0)), (1, .int v)] := hl
  refine lv_aload_n S.1 S.2.1 d_L_equation_0 rfl (lv_at hl 0 rfl) ?_
  refine lv_iload_n S.1 S.2.1 d_L_equation_1 rfl (lv_at hl 1 rfl) ?_
  have htb : fk_tb s "FlowDeskLaw" x_IA 2 8 c.exceptionTable.toList := by
    rw [htab]
    exact ⟨by decide, by decide, _, i_355, Or.inl ⟨rfl, rfl⟩⟩
  refine fk_cxv S E Y.1 G 0 (by decide) (congrArg (fk_ce g ov 0 (M 0)) kd_0) rfl (rest := []) con m_D_equation i_479 hrm hR rfl rfl hl.1 (Nat.le_of_ble_eq_true rfl) d_L_equation_2 ⟨by decide, by decide⟩ htb (fun x H locs G => ?_)
  refine lv_astore_n (lv' := [(2, .ref x), (0, .ref (fk_a g 0)), (1, .int v)]) S.1 S.2.1 d_L_equation_8 rfl hl (by decide) rfl (fun ls hl => ?_)
  refine lv_iconst (v := nI 1) S.1 S.2.1 d_L_equation_9 (by decide +kernel) ?_
  exact fk_iretH S hr hlk E G rfl rfl ⟨Nat.le_refl _, Nat.le_refl _⟩ d_L_equation_10
theorem d_L_fault_0 : decode b_L_fault 0 = .ok (.aload_n 2, 1) := by decide +kernel
theorem d_L_fault_1 : decode b_L_fault 1 = .ok (.iconst 0, 1) := by decide +kernel
theorem d_L_fault_2 : decode b_L_fault 2 = .ok (.aload_n 0, 1) := by decide +kernel
theorem d_L_fault_3 : decode b_L_fault 3 = .ok (.iload_n 1, 1) := by decide +kernel
theorem d_L_fault_4 : decode b_L_fault 4 = .ok (.invokevirtual 25, 3) := by decide +kernel
theorem d_L_fault_7 : decode b_L_fault 7 = .ok (.i2l, 1) := by decide +kernel
theorem d_L_fault_8 : decode b_L_fault 8 = .ok (.lastore, 1) := by decide +kernel
theorem d_L_fault_9 : decode b_L_fault 9 = .ok (.goto 6, 3) := by decide +kernel
theorem d_L_fault_12 : decode b_L_fault 12 = .ok (.astore_n 3, 1) := by decide +kernel
theorem d_L_fault_13 : decode b_L_fault 13 = .ok (.iconst 1, 1) := by decide +kernel
theorem d_L_fault_14 : decode b_L_fault 14 = .ok (.ireturn, 1) := by decide +kernel
theorem d_L_fault_15 : decode b_L_fault 15 = .ok (.iconst 0, 1) := by decide +kernel
theorem d_L_fault_16 : decode b_L_fault 16 = .ok (.ireturn, 1) := by decide +kernel
set_option maxHeartbeats 4000000 in
set_option maxRecDepth 100000 in
theorem h_fault_r (l : Launch) (g : fk_G) (ov : Int64) (M Mq : fk_M) (v : Int32) (r : Int32) {rm : Room} (con : fk_CI l y_D_fault b_D_fault 2 (some .int) rm g ov M Mq [.ref (fk_a g 0), .int v] r) (hrm : rm.cells = 0 ∧ rm.slots = 0) (hR : rm.frames + 1 ≤ (fk_rx 40).frames ∧ 8 + (2 + 11) + rm.locals ≤ (fk_rx 40).locals) : fk_CH l y_L_fault b_L_fault 4 [(0, 9, 12, 13)] (fk_rx 40) g ov r.toInt64 M Mq [.ref (fk_a g 0), .int v, .ref (fk_a g 110)] (nI 0) := by
  refine fk_ofH rfl (Nat.le_of_ble_eq_true rfl) ?_
  intro p e s m args below meth c ls S hr hlk htab E Y G hl
  have hl : lv_has ls 4 [(0, .ref (fk_a g 0)), (1, .int v), (2, .ref (fk_a g 110))] := hl
  refine lv_aload_n S.1 S.2.1 d_L_fault_0 rfl (lv_at hl 2 rfl) ?_
  refine lv_iconst (v := nI 0) S.1 S.2.1 d_L_fault_1 (by decide +kernel) ?_
  refine lv_aload_n S.1 S.2.1 d_L_fault_2 rfl (lv_at hl 0 rfl) ?_
  refine lv_iload_n S.1 S.2.1 d_L_fault_3 rfl (lv_at hl 1 rfl) ?_
  refine fk_cvi S E G 0 (by decide) (congrArg (fk_ce g ov 0 (M 0)) kd_0) rfl (rest := [.int (nI 0), .ref (fk_a g 110)]) con m_D_fault i_499 hrm hR rfl rfl hl.1 (Nat.le_of_ble_eq_true rfl) d_L_fault_4 ⟨Nat.zero_le _, Nat.zero_le _⟩ (fun H locs G => ?_)
  refine lv_i2l (v := (r).toInt64) S.1 S.2.1 d_L_fault_7 rfl ?_
  refine fk_lst S E G d_L_fault_8 (fun H locs G => ?_)
  refine lv_goto (tgt := 15) S.1 S.2.1 d_L_fault_9 rfl ?_
  refine lv_iconst (v := nI 0) S.1 S.2.1 d_L_fault_15 (by decide +kernel) ?_
  exact fk_iretH S hr hlk E G rfl rfl ⟨Nat.zero_le _, Nat.zero_le _⟩ d_L_fault_16
set_option maxHeartbeats 4000000 in
set_option maxRecDepth 100000 in
theorem h_fault_t1 (l : Launch) (g : fk_G) (ov : Int64) (M Mq : fk_M) (v : Int32) {rm : Room} (con : fk_CX l y_D_fault b_D_fault 2 (some .int) rm g ov M Mq [.ref (fk_a g 0), .int v] x_IA) (hrm : rm.cells = 1 ∧ rm.slots = 6) (hR : rm.frames + 1 ≤ (fk_rx 40).frames ∧ 8 + (2 + 11) + rm.locals ≤ (fk_rx 40).locals) : fk_CH l y_L_fault b_L_fault 4 [(0, 9, 12, 13)] (fk_rx 40) g ov ov M Mq [.ref (fk_a g 0), .int v, .ref (fk_a g 110)] (nI 1) := by
  refine fk_ofH rfl (Nat.le_of_ble_eq_true rfl) ?_
  intro p e s m args below meth c ls S hr hlk htab E Y G hl
  have hl : lv_has ls 4 [(0, .ref (fk_a g 0)), (1, .int v), (2, .ref (fk_a g 110))] := hl
  refine lv_aload_n S.1 S.2.1 d_L_fault_0 rfl (lv_at hl 2 rfl) ?_
  refine lv_iconst (v := nI 0) S.1 S.2.1 d_L_fault_1 (by decide +kernel) ?_
  refine lv_aload_n S.1 S.2.1 d_L_fault_2 rfl (lv_at hl 0 rfl) ?_
  refine lv_iload_n S.1 S.2.1 d_L_fault_3 rfl (lv_at hl 1 rfl) ?_
  have htb : fk_tb s "FlowDeskLaw" x_IA 4 12 c.exceptionTable.toList := by
    rw [htab]
    exact ⟨by decide, by decide, _, i_355, Or.inl ⟨rfl, rfl⟩⟩
  refine fk_cxv S E Y.1 G 0 (by decide) (congrArg (fk_ce g ov 0 (M 0)) kd_0) rfl (rest := [.int (nI 0), .ref (fk_a g 110)]) con m_D_fault i_499 hrm hR rfl rfl hl.1 (Nat.le_of_ble_eq_true rfl) d_L_fault_4 ⟨by decide, by decide⟩ htb (fun x H locs G => ?_)
  refine lv_astore_n (lv' := [(3, .ref x), (0, .ref (fk_a g 0)), (1, .int v), (2, .ref (fk_a g 110))]) S.1 S.2.1 d_L_fault_12 rfl hl (by decide) rfl (fun ls hl => ?_)
  refine lv_iconst (v := nI 1) S.1 S.2.1 d_L_fault_13 (by decide +kernel) ?_
  exact fk_iretH S hr hlk E G rfl rfl ⟨Nat.le_refl _, Nat.le_refl _⟩ d_L_fault_14
theorem d_L_order_0 : decode b_L_order 0 = .ok (.aload_n 2, 1) := by decide +kernel
theorem d_L_order_1 : decode b_L_order 1 = .ok (.iconst 0, 1) := by decide +kernel
theorem d_L_order_2 : decode b_L_order 2 = .ok (.aload_n 0, 1) := by decide +kernel
theorem d_L_order_3 : decode b_L_order 3 = .ok (.iload_n 1, 1) := by decide +kernel
theorem d_L_order_4 : decode b_L_order 4 = .ok (.invokevirtual 29, 3) := by decide +kernel
theorem d_L_order_7 : decode b_L_order 7 = .ok (.i2l, 1) := by decide +kernel
theorem d_L_order_8 : decode b_L_order 8 = .ok (.lastore, 1) := by decide +kernel
theorem d_L_order_9 : decode b_L_order 9 = .ok (.goto 9, 3) := by decide +kernel
theorem d_L_order_12 : decode b_L_order 12 = .ok (.astore_n 3, 1) := by decide +kernel
theorem d_L_order_13 : decode b_L_order 13 = .ok (.iconst 1, 1) := by decide +kernel
theorem d_L_order_14 : decode b_L_order 14 = .ok (.ireturn, 1) := by decide +kernel
theorem d_L_order_15 : decode b_L_order 15 = .ok (.astore_n 3, 1) := by decide +kernel
theorem d_L_order_16 : decode b_L_order 16 = .ok (.iconst 2, 1) := by decide +kernel
theorem d_L_order_17 : decode b_L_order 17 = .ok (.ireturn, 1) := by decide +kernel
theorem d_L_order_18 : decode b_L_order 18 = .ok (.iconst 0, 1) := by decide +kernel
theorem d_L_order_19 : decode b_L_order 19 = .ok (.ireturn, 1) := by decide +kernel
set_option maxHeartbeats 4000000 in
set_option maxRecDepth 100000 in
theorem h_order_r (l : Launch) (g : fk_G) (ov : Int64) (M Mq : fk_M) (v : Int32) (r : Int32) {rm : Room} (con : fk_CI l y_D_order b_D_order 2 (some .int) rm g ov M Mq [.ref (fk_a g 0), .int v] r) (hrm : rm.cells = 0 ∧ rm.slots = 0) (hR : rm.frames + 1 ≤ (fk_rx 40).frames ∧ 8 + (2 + 11) + rm.locals ≤ (fk_rx 40).locals) : fk_CH l y_L_order b_L_order 4 [(0, 9, 12, 15), (0, 9, 15, 32)] (fk_rx 40) g ov r.toInt64 M Mq [.ref (fk_a g 0), .int v, .ref (fk_a g 110)] (nI 0) := by
  refine fk_ofH rfl (Nat.le_of_ble_eq_true rfl) ?_
  intro p e s m args below meth c ls S hr hlk htab E Y G hl
  have hl : lv_has ls 4 [(0, .ref (fk_a g 0)), (1, .int v), (2, .ref (fk_a g 110))] := hl
  refine lv_aload_n S.1 S.2.1 d_L_order_0 rfl (lv_at hl 2 rfl) ?_
  refine lv_iconst (v := nI 0) S.1 S.2.1 d_L_order_1 (by decide +kernel) ?_
  refine lv_aload_n S.1 S.2.1 d_L_order_2 rfl (lv_at hl 0 rfl) ?_
  refine lv_iload_n S.1 S.2.1 d_L_order_3 rfl (lv_at hl 1 rfl) ?_
  refine fk_cvi S E G 0 (by decide) (congrArg (fk_ce g ov 0 (M 0)) kd_0) rfl (rest := [.int (nI 0), .ref (fk_a g 110)]) con m_D_order i_508 hrm hR rfl rfl hl.1 (Nat.le_of_ble_eq_true rfl) d_L_order_4 ⟨Nat.zero_le _, Nat.zero_le _⟩ (fun H locs G => ?_)
  refine lv_i2l (v := (r).toInt64) S.1 S.2.1 d_L_order_7 rfl ?_
  refine fk_lst S E G d_L_order_8 (fun H locs G => ?_)
  refine lv_goto (tgt := 18) S.1 S.2.1 d_L_order_9 rfl ?_
  refine lv_iconst (v := nI 0) S.1 S.2.1 d_L_order_18 (by decide +kernel) ?_
  exact fk_iretH S hr hlk E G rfl rfl ⟨Nat.zero_le _, Nat.zero_le _⟩ d_L_order_19
set_option maxHeartbeats 4000000 in
set_option maxRecDepth 100000 in
theorem h_order_t1 (l : Launch) (g : fk_G) (ov : Int64) (M Mq : fk_M) (v : Int32) {rm : Room} (con : fk_CX l y_D_order b_D_order 2 (some .int) rm g ov M Mq [.ref (fk_a g 0), .int v] x_IS) (hrm : rm.cells = 1 ∧ rm.slots = 6) (hR : rm.frames + 1 ≤ (fk_rx 40).frames ∧ 8 + (2 + 11) + rm.locals ≤ (fk_rx 40).locals) : fk_CH l y_L_order b_L_order 4 [(0, 9, 12, 15), (0, 9, 15, 32)] (fk_rx 40) g ov ov M Mq [.ref (fk_a g 0), .int v, .ref (fk_a g 110)] (nI 1) := by
  refine fk_ofH rfl (Nat.le_of_ble_eq_true rfl) ?_
  intro p e s m args below meth c ls S hr hlk htab E Y G hl
  have hl : lv_has ls 4 [(0, .ref (fk_a g 0)), (1, .int v), (2, .ref (fk_a g 110))] := hl
  refine lv_aload_n S.1 S.2.1 d_L_order_0 rfl (lv_at hl 2 rfl) ?_
  refine lv_iconst (v := nI 0) S.1 S.2.1 d_L_order_1 (by decide +kernel) ?_
  refine lv_aload_n S.1 S.2.1 d_L_order_2 rfl (lv_at hl 0 rfl) ?_
  refine lv_iload_n S.1 S.2.1 d_L_order_3 rfl (lv_at hl 1 rfl) ?_
  have htb : fk_tb s "FlowDeskLaw" x_IS 4 12 c.exceptionTable.toList := by
    rw [htab]
    exact ⟨by decide, by decide, _, i_356, Or.inl ⟨rfl, rfl⟩⟩
  refine fk_cxv S E Y.1 G 0 (by decide) (congrArg (fk_ce g ov 0 (M 0)) kd_0) rfl (rest := [.int (nI 0), .ref (fk_a g 110)]) con m_D_order i_508 hrm hR rfl rfl hl.1 (Nat.le_of_ble_eq_true rfl) d_L_order_4 ⟨by decide, by decide⟩ htb (fun x H locs G => ?_)
  refine lv_astore_n (lv' := [(3, .ref x), (0, .ref (fk_a g 0)), (1, .int v), (2, .ref (fk_a g 110))]) S.1 S.2.1 d_L_order_12 rfl hl (by decide) rfl (fun ls hl => ?_)
  refine lv_iconst (v := nI 1) S.1 S.2.1 d_L_order_13 (by decide +kernel) ?_
  exact fk_iretH S hr hlk E G rfl rfl ⟨Nat.le_refl _, Nat.le_refl _⟩ d_L_order_14
set_option maxHeartbeats 4000000 in
set_option maxRecDepth 100000 in
theorem h_order_t2 (l : Launch) (g : fk_G) (ov : Int64) (M Mq : fk_M) (v : Int32) {rm : Room} (con : fk_CX l y_D_order b_D_order 2 (some .int) rm g ov M Mq [.ref (fk_a g 0), .int v] x_NS) (hrm : rm.cells = 1 ∧ rm.slots = 6) (hR : rm.frames + 1 ≤ (fk_rx 40).frames ∧ 8 + (2 + 11) + rm.locals ≤ (fk_rx 40).locals) : fk_CH l y_L_order b_L_order 4 [(0, 9, 12, 15), (0, 9, 15, 32)] (fk_rx 40) g ov ov M Mq [.ref (fk_a g 0), .int v, .ref (fk_a g 110)] (nI 2) := by
  refine fk_ofH rfl (Nat.le_of_ble_eq_true rfl) ?_
  intro p e s m args below meth c ls S hr hlk htab E Y G hl
  have hl : lv_has ls 4 [(0, .ref (fk_a g 0)), (1, .int v), (2, .ref (fk_a g 110))] := hl
  refine lv_aload_n S.1 S.2.1 d_L_order_0 rfl (lv_at hl 2 rfl) ?_
  refine lv_iconst (v := nI 0) S.1 S.2.1 d_L_order_1 (by decide +kernel) ?_
  refine lv_aload_n S.1 S.2.1 d_L_order_2 rfl (lv_at hl 0 rfl) ?_
  refine lv_iload_n S.1 S.2.1 d_L_order_3 rfl (lv_at hl 1 rfl) ?_
  have htb : fk_tb s "FlowDeskLaw" x_NS 4 15 c.exceptionTable.toList := by
    rw [htab]
    exact ⟨by decide, by decide, _, i_356, Or.inr ⟨Y.2.2.1, ⟨by decide, by decide, _, i_507, Or.inl ⟨rfl, rfl⟩⟩⟩⟩
  refine fk_cxv S E Y.1 G 0 (by decide) (congrArg (fk_ce g ov 0 (M 0)) kd_0) rfl (rest := [.int (nI 0), .ref (fk_a g 110)]) con m_D_order i_508 hrm hR rfl rfl hl.1 (Nat.le_of_ble_eq_true rfl) d_L_order_4 ⟨by decide, by decide⟩ htb (fun x H locs G => ?_)
  refine lv_astore_n (lv' := [(3, .ref x), (0, .ref (fk_a g 0)), (1, .int v), (2, .ref (fk_a g 110))]) S.1 S.2.1 d_L_order_15 rfl hl (by decide) rfl (fun ls hl => ?_)
  refine lv_iconst (v := nI 2) S.1 S.2.1 d_L_order_16 (by decide +kernel) ?_
  exact fk_iretH S hr hlk E G rfl rfl ⟨Nat.le_refl _, Nat.le_refl _⟩ d_L_order_17
theorem d_L_set_0 : decode b_L_set 0 = .ok (.aload_n 0, 1) := by decide +kernel
theorem d_L_set_1 : decode b_L_set 1 = .ok (.iload_n 1, 1) := by decide +kernel
theorem d_L_set_2 : decode b_L_set 2 = .ok (.iload_n 2, 1) := by decide +kernel
theorem d_L_set_3 : decode b_L_set 3 = .ok (.invokevirtual 34, 3) := by decide +kernel
theorem d_L_set_6 : decode b_L_set 6 = .ok (.goto 6, 3) := by decide +kernel
theorem d_L_set_9 : decode b_L_set 9 = .ok (.astore_n 3, 1) := by decide +kernel
theorem d_L_set_10 : decode b_L_set 10 = .ok (.iconst 1, 1) := by decide +kernel
theorem d_L_set_11 : decode b_L_set 11 = .ok (.ireturn, 1) := by decide +kernel
theorem d_L_set_12 : decode b_L_set 12 = .ok (.iconst 0, 1) := by decide +kernel
theorem d_L_set_13 : decode b_L_set 13 = .ok (.ireturn, 1) := by decide +kernel
set_option maxHeartbeats 4000000 in
set_option maxRecDepth 100000 in
theorem h_set_r (l : Launch) (g : fk_G) (ov : Int64) (M Mq : fk_M) (v w : Int32) {rm : Room} (con : fk_CV l y_D_set b_D_set 4 rm g ov M Mq [.ref (fk_a g 0), .int v, .int w]) (hrm : rm.cells = 0 ∧ rm.slots = 0) (hR : rm.frames + 1 ≤ (fk_rx 40).frames ∧ 8 + (4 + 11) + rm.locals ≤ (fk_rx 40).locals) : fk_CH l y_L_set b_L_set 4 [(0, 6, 9, 13)] (fk_rx 40) g ov ov M Mq [.ref (fk_a g 0), .int v, .int w] (nI 0) := by
  refine fk_ofH rfl (Nat.le_of_ble_eq_true rfl) ?_
  intro p e s m args below meth c ls S hr hlk htab E Y G hl
  have hl : lv_has ls 4 [(0, .ref (fk_a g 0)), (1, .int v), (2, .int w)] := hl
  refine lv_aload_n S.1 S.2.1 d_L_set_0 rfl (lv_at hl 0 rfl) ?_
  refine lv_iload_n S.1 S.2.1 d_L_set_1 rfl (lv_at hl 1 rfl) ?_
  refine lv_iload_n S.1 S.2.1 d_L_set_2 rfl (lv_at hl 2 rfl) ?_
  refine fk_cvv S E G 0 (by decide) (congrArg (fk_ce g ov 0 (M 0)) kd_0) rfl (rest := []) con m_D_set i_532 hrm hR rfl rfl hl.1 (Nat.le_of_ble_eq_true rfl) d_L_set_3 ⟨Nat.zero_le _, Nat.zero_le _⟩ (fun H locs G => ?_)
  refine lv_goto (tgt := 12) S.1 S.2.1 d_L_set_6 rfl ?_
  refine lv_iconst (v := nI 0) S.1 S.2.1 d_L_set_12 (by decide +kernel) ?_
  exact fk_iretH S hr hlk E G rfl rfl ⟨Nat.zero_le _, Nat.zero_le _⟩ d_L_set_13
set_option maxHeartbeats 4000000 in
set_option maxRecDepth 100000 in
theorem h_set_t1 (l : Launch) (g : fk_G) (ov : Int64) (M Mq : fk_M) (v w : Int32) {rm : Room} (con : fk_CX l y_D_set b_D_set 4 none rm g ov M Mq [.ref (fk_a g 0), .int v, .int w] x_IA) (hrm : rm.cells = 1 ∧ rm.slots = 6) (hR : rm.frames + 1 ≤ (fk_rx 40).frames ∧ 8 + (4 + 11) + rm.locals ≤ (fk_rx 40).locals) : fk_CH l y_L_set b_L_set 4 [(0, 6, 9, 13)] (fk_rx 40) g ov ov M Mq [.ref (fk_a g 0), .int v, .int w] (nI 1) := by
  refine fk_ofH rfl (Nat.le_of_ble_eq_true rfl) ?_
  intro p e s m args below meth c ls S hr hlk htab E Y G hl
  have hl : lv_has ls 4 [(0, .ref (fk_a g 0)), (1, .int v), (2, .int w)] := hl
  refine lv_aload_n S.1 S.2.1 d_L_set_0 rfl (lv_at hl 0 rfl) ?_
  refine lv_iload_n S.1 S.2.1 d_L_set_1 rfl (lv_at hl 1 rfl) ?_
  refine lv_iload_n S.1 S.2.1 d_L_set_2 rfl (lv_at hl 2 rfl) ?_
  have htb : fk_tb s "FlowDeskLaw" x_IA 3 9 c.exceptionTable.toList := by
    rw [htab]
    exact ⟨by decide, by decide, _, i_355, Or.inl ⟨rfl, rfl⟩⟩
  refine fk_cxv S E Y.1 G 0 (by decide) (congrArg (fk_ce g ov 0 (M 0)) kd_0) rfl (rest := []) con m_D_set i_532 hrm hR rfl rfl hl.1 (Nat.le_of_ble_eq_true rfl) d_L_set_3 ⟨by decide, by decide⟩ htb (fun x H locs G => ?_)
  refine lv_astore_n (lv' := [(3, .ref x), (0, .ref (fk_a g 0)), (1, .int v), (2, .int w)]) S.1 S.2.1 d_L_set_9 rfl hl (by decide) rfl (fun ls hl => ?_)
  refine lv_iconst (v := nI 1) S.1 S.2.1 d_L_set_10 (by decide +kernel) ?_
  exact fk_iretH S hr hlk E G rfl rfl ⟨Nat.le_refl _, Nat.le_refl _⟩ d_L_set_11
theorem d_L_instants_0 : decode b_L_instants 0 = .ok (.aload_n 0, 1) := by decide +kernel
theorem d_L_instants_1 : decode b_L_instants 1 = .ok (.iload_n 1, 1) := by decide +kernel
theorem d_L_instants_2 : decode b_L_instants 2 = .ok (.invokevirtual 38, 3) := by decide +kernel
theorem d_L_instants_5 : decode b_L_instants 5 = .ok (.goto 9, 3) := by decide +kernel
theorem d_L_instants_8 : decode b_L_instants 8 = .ok (.astore_n 2, 1) := by decide +kernel
theorem d_L_instants_9 : decode b_L_instants 9 = .ok (.iconst 1, 1) := by decide +kernel
theorem d_L_instants_10 : decode b_L_instants 10 = .ok (.ireturn, 1) := by decide +kernel
theorem d_L_instants_11 : decode b_L_instants 11 = .ok (.astore_n 2, 1) := by decide +kernel
theorem d_L_instants_12 : decode b_L_instants 12 = .ok (.iconst 2, 1) := by decide +kernel
theorem d_L_instants_13 : decode b_L_instants 13 = .ok (.ireturn, 1) := by decide +kernel
theorem d_L_instants_14 : decode b_L_instants 14 = .ok (.iconst 0, 1) := by decide +kernel
theorem d_L_instants_15 : decode b_L_instants 15 = .ok (.ireturn, 1) := by decide +kernel
set_option maxHeartbeats 4000000 in
set_option maxRecDepth 100000 in
theorem h_instants_r (l : Launch) (g : fk_G) (ov : Int64) (M Mq : fk_M) (v : Int32) {rm : Room} (con : fk_CV l y_D_instants b_D_instants 3 rm g ov M Mq [.ref (fk_a g 0), .int v]) (hrm : rm.cells = 0 ∧ rm.slots = 0) (hR : rm.frames + 1 ≤ (fk_rx 40).frames ∧ 8 + (3 + 11) + rm.locals ≤ (fk_rx 40).locals) : fk_CH l y_L_instants b_L_instants 3 [(0, 5, 8, 13), (0, 5, 11, 15)] (fk_rx 40) g ov ov M Mq [.ref (fk_a g 0), .int v] (nI 0) := by
  refine fk_ofH rfl (Nat.le_of_ble_eq_true rfl) ?_
  intro p e s m args below meth c ls S hr hlk htab E Y G hl
  have hl : lv_has ls 3 [(0, .ref (fk_a g 0)), (1, .int v)] := hl
  refine lv_aload_n S.1 S.2.1 d_L_instants_0 rfl (lv_at hl 0 rfl) ?_
  refine lv_iload_n S.1 S.2.1 d_L_instants_1 rfl (lv_at hl 1 rfl) ?_
  refine fk_cvv S E G 0 (by decide) (congrArg (fk_ce g ov 0 (M 0)) kd_0) rfl (rest := []) con m_D_instants i_540 hrm hR rfl rfl hl.1 (Nat.le_of_ble_eq_true rfl) d_L_instants_2 ⟨Nat.zero_le _, Nat.zero_le _⟩ (fun H locs G => ?_)
  refine lv_goto (tgt := 14) S.1 S.2.1 d_L_instants_5 rfl ?_
  refine lv_iconst (v := nI 0) S.1 S.2.1 d_L_instants_14 (by decide +kernel) ?_
  exact fk_iretH S hr hlk E G rfl rfl ⟨Nat.zero_le _, Nat.zero_le _⟩ d_L_instants_15
set_option maxHeartbeats 4000000 in
set_option maxRecDepth 100000 in
theorem h_instants_t1 (l : Launch) (g : fk_G) (ov : Int64) (M Mq : fk_M) (v : Int32) {rm : Room} (con : fk_CX l y_D_instants b_D_instants 3 none rm g ov M Mq [.ref (fk_a g 0), .int v] x_IA) (hrm : rm.cells = 1 ∧ rm.slots = 6) (hR : rm.frames + 1 ≤ (fk_rx 40).frames ∧ 8 + (3 + 11) + rm.locals ≤ (fk_rx 40).locals) : fk_CH l y_L_instants b_L_instants 3 [(0, 5, 8, 13), (0, 5, 11, 15)] (fk_rx 40) g ov ov M Mq [.ref (fk_a g 0), .int v] (nI 1) := by
  refine fk_ofH rfl (Nat.le_of_ble_eq_true rfl) ?_
  intro p e s m args below meth c ls S hr hlk htab E Y G hl
  have hl : lv_has ls 3 [(0, .ref (fk_a g 0)), (1, .int v)] := hl
  refine lv_aload_n S.1 S.2.1 d_L_instants_0 rfl (lv_at hl 0 rfl) ?_
  refine lv_iload_n S.1 S.2.1 d_L_instants_1 rfl (lv_at hl 1 rfl) ?_
  have htb : fk_tb s "FlowDeskLaw" x_IA 2 8 c.exceptionTable.toList := by
    rw [htab]
    exact ⟨by decide, by decide, _, i_355, Or.inl ⟨rfl, rfl⟩⟩
  refine fk_cxv S E Y.1 G 0 (by decide) (congrArg (fk_ce g ov 0 (M 0)) kd_0) rfl (rest := []) con m_D_instants i_540 hrm hR rfl rfl hl.1 (Nat.le_of_ble_eq_true rfl) d_L_instants_2 ⟨by decide, by decide⟩ htb (fun x H locs G => ?_)
  refine lv_astore_n (lv' := [(2, .ref x), (0, .ref (fk_a g 0)), (1, .int v)]) S.1 S.2.1 d_L_instants_8 rfl hl (by decide) rfl (fun ls hl => ?_)
  refine lv_iconst (v := nI 1) S.1 S.2.1 d_L_instants_9 (by decide +kernel) ?_
  exact fk_iretH S hr hlk E G rfl rfl ⟨Nat.le_refl _, Nat.le_refl _⟩ d_L_instants_10
set_option maxHeartbeats 4000000 in
set_option maxRecDepth 100000 in
theorem h_instants_t2 (l : Launch) (g : fk_G) (ov : Int64) (M Mq : fk_M) (v : Int32) {rm : Room} (con : fk_CX l y_D_instants b_D_instants 3 none rm g ov M Mq [.ref (fk_a g 0), .int v] x_IS) (hrm : rm.cells = 1 ∧ rm.slots = 6) (hR : rm.frames + 1 ≤ (fk_rx 40).frames ∧ 8 + (3 + 11) + rm.locals ≤ (fk_rx 40).locals) : fk_CH l y_L_instants b_L_instants 3 [(0, 5, 8, 13), (0, 5, 11, 15)] (fk_rx 40) g ov ov M Mq [.ref (fk_a g 0), .int v] (nI 2) := by
  refine fk_ofH rfl (Nat.le_of_ble_eq_true rfl) ?_
  intro p e s m args below meth c ls S hr hlk htab E Y G hl
  have hl : lv_has ls 3 [(0, .ref (fk_a g 0)), (1, .int v)] := hl
  refine lv_aload_n S.1 S.2.1 d_L_instants_0 rfl (lv_at hl 0 rfl) ?_
  refine lv_iload_n S.1 S.2.1 d_L_instants_1 rfl (lv_at hl 1 rfl) ?_
  have htb : fk_tb s "FlowDeskLaw" x_IS 2 11 c.exceptionTable.toList := by
    rw [htab]
    exact ⟨by decide, by decide, _, i_355, Or.inr ⟨Y.2.1, ⟨by decide, by decide, _, i_356, Or.inl ⟨rfl, rfl⟩⟩⟩⟩
  refine fk_cxv S E Y.1 G 0 (by decide) (congrArg (fk_ce g ov 0 (M 0)) kd_0) rfl (rest := []) con m_D_instants i_540 hrm hR rfl rfl hl.1 (Nat.le_of_ble_eq_true rfl) d_L_instants_2 ⟨by decide, by decide⟩ htb (fun x H locs G => ?_)
  refine lv_astore_n (lv' := [(2, .ref x), (0, .ref (fk_a g 0)), (1, .int v)]) S.1 S.2.1 d_L_instants_11 rfl hl (by decide) rfl (fun ls hl => ?_)
  refine lv_iconst (v := nI 2) S.1 S.2.1 d_L_instants_12 (by decide +kernel) ?_
  exact fk_iretH S hr hlk E G rfl rfl ⟨Nat.le_refl _, Nat.le_refl _⟩ d_L_instants_13
theorem d_L_present_0 : decode b_L_present 0 = .ok (.aload_n 2, 1) := by decide +kernel
theorem d_L_present_1 : decode b_L_present 1 = .ok (.iconst 0, 1) := by decide +kernel
theorem d_L_present_2 : decode b_L_present 2 = .ok (.aload_n 0, 1) := by decide +kernel
theorem d_L_present_3 : decode b_L_present 3 = .ok (.iload_n 1, 1) := by decide +kernel
theorem d_L_present_4 : decode b_L_present 4 = .ok (.invokevirtual 41, 3) := by decide +kernel
theorem d_L_present_7 : decode b_L_present 7 = .ok (.ifCond .eq 7, 3) := by decide +kernel
theorem d_L_present_10 : decode b_L_present 10 = .ok (.lconst 1, 1) := by decide +kernel
theorem d_L_present_11 : decode b_L_present 11 = .ok (.goto 4, 3) := by decide +kernel
theorem d_L_present_14 : decode b_L_present 14 = .ok (.lconst 0, 1) := by decide +kernel
theorem d_L_present_15 : decode b_L_present 15 = .ok (.lastore, 1) := by decide +kernel
theorem d_L_present_16 : decode b_L_present 16 = .ok (.goto 6, 3) := by decide +kernel
theorem d_L_present_19 : decode b_L_present 19 = .ok (.astore_n 3, 1) := by decide +kernel
theorem d_L_present_20 : decode b_L_present 20 = .ok (.iconst 1, 1) := by decide +kernel
theorem d_L_present_21 : decode b_L_present 21 = .ok (.ireturn, 1) := by decide +kernel
theorem d_L_present_22 : decode b_L_present 22 = .ok (.iconst 0, 1) := by decide +kernel
theorem d_L_present_23 : decode b_L_present 23 = .ok (.ireturn, 1) := by decide +kernel
set_option maxHeartbeats 4000000 in
set_option maxRecDepth 100000 in
theorem h_present_r (l : Launch) (g : fk_G) (ov : Int64) (M Mq : fk_M) (v : Int32) (r : Int32) (hr01 : r = 0 ∨ r = 1) {rm : Room} (con : fk_CI l y_D_present b_D_present 2 (some .boolean) rm g ov M Mq [.ref (fk_a g 0), .int v] r) (hrm : rm.cells = 0 ∧ rm.slots = 0) (hR : rm.frames + 1 ≤ (fk_rx 40).frames ∧ 8 + (2 + 11) + rm.locals ≤ (fk_rx 40).locals) : fk_CH l y_L_present b_L_present 4 [(0, 16, 19, 13)] (fk_rx 40) g ov ((r.toInt64)) M Mq [.ref (fk_a g 0), .int v, .ref (fk_a g 110)] (nI 0) := by
  refine fk_ofH rfl (Nat.le_of_ble_eq_true rfl) ?_
  intro p e s m args below meth c ls S hr hlk htab E Y G hl
  have hl : lv_has ls 4 [(0, .ref (fk_a g 0)), (1, .int v), (2, .ref (fk_a g 110))] := hl
  refine lv_aload_n S.1 S.2.1 d_L_present_0 rfl (lv_at hl 2 rfl) ?_
  refine lv_iconst (v := nI 0) S.1 S.2.1 d_L_present_1 (by decide +kernel) ?_
  refine lv_aload_n S.1 S.2.1 d_L_present_2 rfl (lv_at hl 0 rfl) ?_
  refine lv_iload_n S.1 S.2.1 d_L_present_3 rfl (lv_at hl 1 rfl) ?_
  refine fk_cvi S E G 0 (by decide) (congrArg (fk_ce g ov 0 (M 0)) kd_0) rfl (rest := [.int (nI 0), .ref (fk_a g 110)]) con m_D_present i_592 hrm hR rfl rfl hl.1 (Nat.le_of_ble_eq_true rfl) d_L_present_4 ⟨Nat.zero_le _, Nat.zero_le _⟩ (fun H locs G => ?_)
  refine lv_if_eq (tgt := 14) S.1 S.2.1 d_L_present_7 rfl (fun hc1 => ?_) (fun hc1 => ?_)
  · subst hc1
    refine lv_lconst (v := Int32.toInt64 0) S.1 S.2.1 d_L_present_14 (by decide +kernel) ?_
    refine fk_lst S E G d_L_present_15 (fun H locs G => ?_)
    refine lv_goto (tgt := 22) S.1 S.2.1 d_L_present_16 rfl ?_
    refine lv_iconst (v := nI 0) S.1 S.2.1 d_L_present_22 (by decide +kernel) ?_
    exact fk_iretH S hr hlk E G rfl rfl ⟨Nat.zero_le _, Nat.zero_le _⟩ d_L_present_23
  · have hr1 : r = 1 := hr01.resolve_left hc1
    subst hr1
    refine lv_lconst (v := Int32.toInt64 1) S.1 S.2.1 d_L_present_10 (by decide +kernel) ?_
    refine lv_goto (tgt := 15) S.1 S.2.1 d_L_present_11 rfl ?_
    refine fk_lst S E G d_L_present_15 (fun H locs G => ?_)
    refine lv_goto (tgt := 22) S.1 S.2.1 d_L_present_16 rfl ?_
    refine lv_iconst (v := nI 0) S.1 S.2.1 d_L_present_22 (by decide +kernel) ?_
    exact fk_iretH S hr hlk E G rfl rfl ⟨Nat.zero_le _, Nat.zero_le _⟩ d_L_present_23
set_option maxHeartbeats 4000000 in
set_option maxRecDepth 100000 in
theorem h_present_t1 (l : Launch) (g : fk_G) (ov : Int64) (M Mq : fk_M) (v : Int32) {rm : Room} (con : fk_CX l y_D_present b_D_present 2 (some .boolean) rm g ov M Mq [.ref (fk_a g 0), .int v] x_IA) (hrm : rm.cells = 1 ∧ rm.slots = 6) (hR : rm.frames + 1 ≤ (fk_rx 40).frames ∧ 8 + (2 + 11) + rm.locals ≤ (fk_rx 40).locals) : fk_CH l y_L_present b_L_present 4 [(0, 16, 19, 13)] (fk_rx 40) g ov ov M Mq [.ref (fk_a g 0), .int v, .ref (fk_a g 110)] (nI 1) := by
  refine fk_ofH rfl (Nat.le_of_ble_eq_true rfl) ?_
  intro p e s m args below meth c ls S hr hlk htab E Y G hl
  have hl : lv_has ls 4 [(0, .ref (fk_a g 0)), (1, .int v), (2, .ref (fk_a g 110))] := hl
  refine lv_aload_n S.1 S.2.1 d_L_present_0 rfl (lv_at hl 2 rfl) ?_
  refine lv_iconst (v := nI 0) S.1 S.2.1 d_L_present_1 (by decide +kernel) ?_
  refine lv_aload_n S.1 S.2.1 d_L_present_2 rfl (lv_at hl 0 rfl) ?_
  refine lv_iload_n S.1 S.2.1 d_L_present_3 rfl (lv_at hl 1 rfl) ?_
  have htb : fk_tb s "FlowDeskLaw" x_IA 4 19 c.exceptionTable.toList := by
    rw [htab]
    exact ⟨by decide, by decide, _, i_355, Or.inl ⟨rfl, rfl⟩⟩
  refine fk_cxv S E Y.1 G 0 (by decide) (congrArg (fk_ce g ov 0 (M 0)) kd_0) rfl (rest := [.int (nI 0), .ref (fk_a g 110)]) con m_D_present i_592 hrm hR rfl rfl hl.1 (Nat.le_of_ble_eq_true rfl) d_L_present_4 ⟨by decide, by decide⟩ htb (fun x H locs G => ?_)
  refine lv_astore_n (lv' := [(3, .ref x), (0, .ref (fk_a g 0)), (1, .int v), (2, .ref (fk_a g 110))]) S.1 S.2.1 d_L_present_19 rfl hl (by decide) rfl (fun ls hl => ?_)
  refine lv_iconst (v := nI 1) S.1 S.2.1 d_L_present_20 (by decide +kernel) ?_
  exact fk_iretH S hr hlk E G rfl rfl ⟨Nat.le_refl _, Nat.le_refl _⟩ d_L_present_21
theorem d_L_value_0 : decode b_L_value 0 = .ok (.aload_n 2, 1) := by decide +kernel
theorem d_L_value_1 : decode b_L_value 1 = .ok (.iconst 0, 1) := by decide +kernel
theorem d_L_value_2 : decode b_L_value 2 = .ok (.aload_n 0, 1) := by decide +kernel
theorem d_L_value_3 : decode b_L_value 3 = .ok (.iload_n 1, 1) := by decide +kernel
theorem d_L_value_4 : decode b_L_value 4 = .ok (.invokevirtual 45, 3) := by decide +kernel
theorem d_L_value_7 : decode b_L_value 7 = .ok (.i2l, 1) := by decide +kernel
theorem d_L_value_8 : decode b_L_value 8 = .ok (.lastore, 1) := by decide +kernel
theorem d_L_value_9 : decode b_L_value 9 = .ok (.goto 9, 3) := by decide +kernel
theorem d_L_value_12 : decode b_L_value 12 = .ok (.astore_n 3, 1) := by decide +kernel
theorem d_L_value_13 : decode b_L_value 13 = .ok (.iconst 1, 1) := by decide +kernel
theorem d_L_value_14 : decode b_L_value 14 = .ok (.ireturn, 1) := by decide +kernel
theorem d_L_value_15 : decode b_L_value 15 = .ok (.astore_n 3, 1) := by decide +kernel
theorem d_L_value_16 : decode b_L_value 16 = .ok (.iconst 2, 1) := by decide +kernel
theorem d_L_value_17 : decode b_L_value 17 = .ok (.ireturn, 1) := by decide +kernel
theorem d_L_value_18 : decode b_L_value 18 = .ok (.iconst 0, 1) := by decide +kernel
theorem d_L_value_19 : decode b_L_value 19 = .ok (.ireturn, 1) := by decide +kernel
set_option maxHeartbeats 4000000 in
set_option maxRecDepth 100000 in
theorem h_value_r (l : Launch) (g : fk_G) (ov : Int64) (M Mq : fk_M) (v : Int32) (r : Int32) {rm : Room} (con : fk_CI l y_D_value b_D_value 2 (some .int) rm g ov M Mq [.ref (fk_a g 0), .int v] r) (hrm : rm.cells = 0 ∧ rm.slots = 0) (hR : rm.frames + 1 ≤ (fk_rx 40).frames ∧ 8 + (2 + 11) + rm.locals ≤ (fk_rx 40).locals) : fk_CH l y_L_value b_L_value 4 [(0, 9, 12, 13), (0, 9, 15, 32)] (fk_rx 40) g ov r.toInt64 M Mq [.ref (fk_a g 0), .int v, .ref (fk_a g 110)] (nI 0) := by
  refine fk_ofH rfl (Nat.le_of_ble_eq_true rfl) ?_
  intro p e s m args below meth c ls S hr hlk htab E Y G hl
  have hl : lv_has ls 4 [(0, .ref (fk_a g 0)), (1, .int v), (2, .ref (fk_a g 110))] := hl
  refine lv_aload_n S.1 S.2.1 d_L_value_0 rfl (lv_at hl 2 rfl) ?_
  refine lv_iconst (v := nI 0) S.1 S.2.1 d_L_value_1 (by decide +kernel) ?_
  refine lv_aload_n S.1 S.2.1 d_L_value_2 rfl (lv_at hl 0 rfl) ?_
  refine lv_iload_n S.1 S.2.1 d_L_value_3 rfl (lv_at hl 1 rfl) ?_
  refine fk_cvi S E G 0 (by decide) (congrArg (fk_ce g ov 0 (M 0)) kd_0) rfl (rest := [.int (nI 0), .ref (fk_a g 110)]) con m_D_value i_600 hrm hR rfl rfl hl.1 (Nat.le_of_ble_eq_true rfl) d_L_value_4 ⟨Nat.zero_le _, Nat.zero_le _⟩ (fun H locs G => ?_)
  refine lv_i2l (v := (r).toInt64) S.1 S.2.1 d_L_value_7 rfl ?_
  refine fk_lst S E G d_L_value_8 (fun H locs G => ?_)
  refine lv_goto (tgt := 18) S.1 S.2.1 d_L_value_9 rfl ?_
  refine lv_iconst (v := nI 0) S.1 S.2.1 d_L_value_18 (by decide +kernel) ?_
  exact fk_iretH S hr hlk E G rfl rfl ⟨Nat.zero_le _, Nat.zero_le _⟩ d_L_value_19
set_option maxHeartbeats 4000000 in
set_option maxRecDepth 100000 in
theorem h_value_t1 (l : Launch) (g : fk_G) (ov : Int64) (M Mq : fk_M) (v : Int32) {rm : Room} (con : fk_CX l y_D_value b_D_value 2 (some .int) rm g ov M Mq [.ref (fk_a g 0), .int v] x_IA) (hrm : rm.cells = 1 ∧ rm.slots = 6) (hR : rm.frames + 1 ≤ (fk_rx 40).frames ∧ 8 + (2 + 11) + rm.locals ≤ (fk_rx 40).locals) : fk_CH l y_L_value b_L_value 4 [(0, 9, 12, 13), (0, 9, 15, 32)] (fk_rx 40) g ov ov M Mq [.ref (fk_a g 0), .int v, .ref (fk_a g 110)] (nI 1) := by
  refine fk_ofH rfl (Nat.le_of_ble_eq_true rfl) ?_
  intro p e s m args below meth c ls S hr hlk htab E Y G hl
  have hl : lv_has ls 4 [(0, .ref (fk_a g 0)), (1, .int v), (2, .ref (fk_a g 110))] := hl
  refine lv_aload_n S.1 S.2.1 d_L_value_0 rfl (lv_at hl 2 rfl) ?_
  refine lv_iconst (v := nI 0) S.1 S.2.1 d_L_value_1 (by decide +kernel) ?_
  refine lv_aload_n S.1 S.2.1 d_L_value_2 rfl (lv_at hl 0 rfl) ?_
  refine lv_iload_n S.1 S.2.1 d_L_value_3 rfl (lv_at hl 1 rfl) ?_
  have htb : fk_tb s "FlowDeskLaw" x_IA 4 12 c.exceptionTable.toList := by
    rw [htab]
    exact ⟨by decide, by decide, _, i_355, Or.inl ⟨rfl, rfl⟩⟩
  refine fk_cxv S E Y.1 G 0 (by decide) (congrArg (fk_ce g ov 0 (M 0)) kd_0) rfl (rest := [.int (nI 0), .ref (fk_a g 110)]) con m_D_value i_600 hrm hR rfl rfl hl.1 (Nat.le_of_ble_eq_true rfl) d_L_value_4 ⟨by decide, by decide⟩ htb (fun x H locs G => ?_)
  refine lv_astore_n (lv' := [(3, .ref x), (0, .ref (fk_a g 0)), (1, .int v), (2, .ref (fk_a g 110))]) S.1 S.2.1 d_L_value_12 rfl hl (by decide) rfl (fun ls hl => ?_)
  refine lv_iconst (v := nI 1) S.1 S.2.1 d_L_value_13 (by decide +kernel) ?_
  exact fk_iretH S hr hlk E G rfl rfl ⟨Nat.le_refl _, Nat.le_refl _⟩ d_L_value_14
set_option maxHeartbeats 4000000 in
set_option maxRecDepth 100000 in
theorem h_value_t2 (l : Launch) (g : fk_G) (ov : Int64) (M Mq : fk_M) (v : Int32) {rm : Room} (con : fk_CX l y_D_value b_D_value 2 (some .int) rm g ov M Mq [.ref (fk_a g 0), .int v] x_NS) (hrm : rm.cells = 1 ∧ rm.slots = 6) (hR : rm.frames + 1 ≤ (fk_rx 40).frames ∧ 8 + (2 + 11) + rm.locals ≤ (fk_rx 40).locals) : fk_CH l y_L_value b_L_value 4 [(0, 9, 12, 13), (0, 9, 15, 32)] (fk_rx 40) g ov ov M Mq [.ref (fk_a g 0), .int v, .ref (fk_a g 110)] (nI 2) := by
  refine fk_ofH rfl (Nat.le_of_ble_eq_true rfl) ?_
  intro p e s m args below meth c ls S hr hlk htab E Y G hl
  have hl : lv_has ls 4 [(0, .ref (fk_a g 0)), (1, .int v), (2, .ref (fk_a g 110))] := hl
  refine lv_aload_n S.1 S.2.1 d_L_value_0 rfl (lv_at hl 2 rfl) ?_
  refine lv_iconst (v := nI 0) S.1 S.2.1 d_L_value_1 (by decide +kernel) ?_
  refine lv_aload_n S.1 S.2.1 d_L_value_2 rfl (lv_at hl 0 rfl) ?_
  refine lv_iload_n S.1 S.2.1 d_L_value_3 rfl (lv_at hl 1 rfl) ?_
  have htb : fk_tb s "FlowDeskLaw" x_NS 4 15 c.exceptionTable.toList := by
    rw [htab]
    exact ⟨by decide, by decide, _, i_355, Or.inr ⟨Y.2.2.2, ⟨by decide, by decide, _, i_507, Or.inl ⟨rfl, rfl⟩⟩⟩⟩
  refine fk_cxv S E Y.1 G 0 (by decide) (congrArg (fk_ce g ov 0 (M 0)) kd_0) rfl (rest := [.int (nI 0), .ref (fk_a g 110)]) con m_D_value i_600 hrm hR rfl rfl hl.1 (Nat.le_of_ble_eq_true rfl) d_L_value_4 ⟨by decide, by decide⟩ htb (fun x H locs G => ?_)
  refine lv_astore_n (lv' := [(3, .ref x), (0, .ref (fk_a g 0)), (1, .int v), (2, .ref (fk_a g 110))]) S.1 S.2.1 d_L_value_15 rfl hl (by decide) rfl (fun ls hl => ?_)
  refine lv_iconst (v := nI 2) S.1 S.2.1 d_L_value_16 (by decide +kernel) ?_
  exact fk_iretH S hr hlk E G rfl rfl ⟨Nat.le_refl _, Nat.le_refl _⟩ d_L_value_17
theorem d_L_seen_0 : decode b_L_seen 0 = .ok (.aload_n 2, 1) := by decide +kernel
theorem d_L_seen_1 : decode b_L_seen 1 = .ok (.iconst 0, 1) := by decide +kernel
theorem d_L_seen_2 : decode b_L_seen 2 = .ok (.aload_n 0, 1) := by decide +kernel
theorem d_L_seen_3 : decode b_L_seen 3 = .ok (.iload_n 1, 1) := by decide +kernel
theorem d_L_seen_4 : decode b_L_seen 4 = .ok (.invokevirtual 48, 3) := by decide +kernel
theorem d_L_seen_7 : decode b_L_seen 7 = .ok (.i2l, 1) := by decide +kernel
theorem d_L_seen_8 : decode b_L_seen 8 = .ok (.lastore, 1) := by decide +kernel
theorem d_L_seen_9 : decode b_L_seen 9 = .ok (.goto 6, 3) := by decide +kernel
theorem d_L_seen_12 : decode b_L_seen 12 = .ok (.astore_n 3, 1) := by decide +kernel
theorem d_L_seen_13 : decode b_L_seen 13 = .ok (.iconst 1, 1) := by decide +kernel
theorem d_L_seen_14 : decode b_L_seen 14 = .ok (.ireturn, 1) := by decide +kernel
theorem d_L_seen_15 : decode b_L_seen 15 = .ok (.iconst 0, 1) := by decide +kernel
theorem d_L_seen_16 : decode b_L_seen 16 = .ok (.ireturn, 1) := by decide +kernel
set_option maxHeartbeats 4000000 in
set_option maxRecDepth 100000 in
theorem h_seen_r (l : Launch) (g : fk_G) (ov : Int64) (M Mq : fk_M) (v : Int32) (r : Int32) {rm : Room} (con : fk_CI l y_D_seen b_D_seen 2 (some .int) rm g ov M Mq [.ref (fk_a g 0), .int v] r) (hrm : rm.cells = 0 ∧ rm.slots = 0) (hR : rm.frames + 1 ≤ (fk_rx 40).frames ∧ 8 + (2 + 11) + rm.locals ≤ (fk_rx 40).locals) : fk_CH l y_L_seen b_L_seen 4 [(0, 9, 12, 13)] (fk_rx 40) g ov r.toInt64 M Mq [.ref (fk_a g 0), .int v, .ref (fk_a g 110)] (nI 0) := by
  refine fk_ofH rfl (Nat.le_of_ble_eq_true rfl) ?_
  intro p e s m args below meth c ls S hr hlk htab E Y G hl
  have hl : lv_has ls 4 [(0, .ref (fk_a g 0)), (1, .int v), (2, .ref (fk_a g 110))] := hl
  refine lv_aload_n S.1 S.2.1 d_L_seen_0 rfl (lv_at hl 2 rfl) ?_
  refine lv_iconst (v := nI 0) S.1 S.2.1 d_L_seen_1 (by decide +kernel) ?_
  refine lv_aload_n S.1 S.2.1 d_L_seen_2 rfl (lv_at hl 0 rfl) ?_
  refine lv_iload_n S.1 S.2.1 d_L_seen_3 rfl (lv_at hl 1 rfl) ?_
  refine fk_cvi S E G 0 (by decide) (congrArg (fk_ce g ov 0 (M 0)) kd_0) rfl (rest := [.int (nI 0), .ref (fk_a g 110)]) con m_D_seen i_612 hrm hR rfl rfl hl.1 (Nat.le_of_ble_eq_true rfl) d_L_seen_4 ⟨Nat.zero_le _, Nat.zero_le _⟩ (fun H locs G => ?_)
  refine lv_i2l (v := (r).toInt64) S.1 S.2.1 d_L_seen_7 rfl ?_
  refine fk_lst S E G d_L_seen_8 (fun H locs G => ?_)
  refine lv_goto (tgt := 15) S.1 S.2.1 d_L_seen_9 rfl ?_
  refine lv_iconst (v := nI 0) S.1 S.2.1 d_L_seen_15 (by decide +kernel) ?_
  exact fk_iretH S hr hlk E G rfl rfl ⟨Nat.zero_le _, Nat.zero_le _⟩ d_L_seen_16
set_option maxHeartbeats 4000000 in
set_option maxRecDepth 100000 in
theorem h_seen_t1 (l : Launch) (g : fk_G) (ov : Int64) (M Mq : fk_M) (v : Int32) {rm : Room} (con : fk_CX l y_D_seen b_D_seen 2 (some .int) rm g ov M Mq [.ref (fk_a g 0), .int v] x_IA) (hrm : rm.cells = 1 ∧ rm.slots = 6) (hR : rm.frames + 1 ≤ (fk_rx 40).frames ∧ 8 + (2 + 11) + rm.locals ≤ (fk_rx 40).locals) : fk_CH l y_L_seen b_L_seen 4 [(0, 9, 12, 13)] (fk_rx 40) g ov ov M Mq [.ref (fk_a g 0), .int v, .ref (fk_a g 110)] (nI 1) := by
  refine fk_ofH rfl (Nat.le_of_ble_eq_true rfl) ?_
  intro p e s m args below meth c ls S hr hlk htab E Y G hl
  have hl : lv_has ls 4 [(0, .ref (fk_a g 0)), (1, .int v), (2, .ref (fk_a g 110))] := hl
  refine lv_aload_n S.1 S.2.1 d_L_seen_0 rfl (lv_at hl 2 rfl) ?_
  refine lv_iconst (v := nI 0) S.1 S.2.1 d_L_seen_1 (by decide +kernel) ?_
  refine lv_aload_n S.1 S.2.1 d_L_seen_2 rfl (lv_at hl 0 rfl) ?_
  refine lv_iload_n S.1 S.2.1 d_L_seen_3 rfl (lv_at hl 1 rfl) ?_
  have htb : fk_tb s "FlowDeskLaw" x_IA 4 12 c.exceptionTable.toList := by
    rw [htab]
    exact ⟨by decide, by decide, _, i_355, Or.inl ⟨rfl, rfl⟩⟩
  refine fk_cxv S E Y.1 G 0 (by decide) (congrArg (fk_ce g ov 0 (M 0)) kd_0) rfl (rest := [.int (nI 0), .ref (fk_a g 110)]) con m_D_seen i_612 hrm hR rfl rfl hl.1 (Nat.le_of_ble_eq_true rfl) d_L_seen_4 ⟨by decide, by decide⟩ htb (fun x H locs G => ?_)
  refine lv_astore_n (lv' := [(3, .ref x), (0, .ref (fk_a g 0)), (1, .int v), (2, .ref (fk_a g 110))]) S.1 S.2.1 d_L_seen_12 rfl hl (by decide) rfl (fun ls hl => ?_)
  refine lv_iconst (v := nI 1) S.1 S.2.1 d_L_seen_13 (by decide +kernel) ?_
  exact fk_iretH S hr hlk E G rfl rfl ⟨Nat.le_refl _, Nat.le_refl _⟩ d_L_seen_14
