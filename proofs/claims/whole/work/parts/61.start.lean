/-! What holds at the law's entry. Written by wip/gen/s_start.py. -/
def fk_iel : Nat → Nat := fun i => match i with | 0 => 51 | 1 => 73 | 2 => 7 | _ => 29
def fk_iar : Nat → Nat := fun i => match i with | 0 => 49 | 1 => 71 | 2 => 5 | _ => 27
def fk_ile : Nat → Nat := fun i => match i with | 0 => 50 | 1 => 72 | 2 => 6 | _ => 28
def fk_ils : Nat → Nat := fun i => match i with | 0 => 306 | 1 => 308 | 2 => 294 | _ => 300
theorem fk_nel : ∀ i, i < 4 → ∀ j, j < 19 → (flatC (Jvm.Cond.and given_1 narrow_1))[fk_iel i + j]? = some (Cond.eq (.elem (.static "FlowDesk" (fk_tn i) "[I") (.int (Int32.ofNat j))) (.int ((fk_tv i).getD j 0))) := by decide +kernel
theorem fk_nar9 : ∀ i, i < 4 → (flatC (Jvm.Cond.and given_1 narrow_1))[fk_iar i]? = some (Cond.arrayOf (.static "FlowDesk" (fk_tn i) "[I") .int) := by decide +kernel
theorem fk_nle : ∀ i, i < 4 → (flatC (Jvm.Cond.and given_1 narrow_1))[fk_ile i]? = some (Cond.eq (.length (.static "FlowDesk" (fk_tn i) "[I")) (.int (Int32.ofNat 19))) := by decide +kernel
theorem fk_nls : ∀ i, i < 4 → tables_1[fk_ils i]? = some (Cond.laysStatic "FlowDesk" (fk_tn i) "[I") := by decide +kernel
def fk_iNF : List Nat := [44, 45, 46, 48, 49, 51, 52, 54, 55, 57, 58, 59, 60, 74, 75, 76, 77, 78, 79, 80, 81, 82, 83, 84, 85, 86, 87, 88, 89, 90, 91, 92, 93, 94, 111, 112, 113, 114, 116, 117, 118, 119, 134, 136, 138, 161, 163, 165, 191, 293, 299, 305, 307, 494]
def fk_iNM : List Nat := [26, 33, 39, 127, 152, 184, 200, 221, 228, 236, 244, 247, 251, 257, 273, 274, 278, 286, 291, 292, 301, 317, 336, 361, 365, 454, 462, 472, 483, 484, 493, 545, 557, 562, 567, 568, 573, 581, 588, 604]
theorem fk_nnf : ∀ k, k < 54 → tables_1[fk_iNF.getD k 0]? = (fk_NF[k]?).map (fun x => Cond.fieldLinkNest x.1 x.2.1 x.2.2.1 x.2.2.2.1 x.2.2.2.2.1 x.2.2.2.2.2) := by decide +kernel
theorem fk_nnm : ∀ k, k < 40 → tables_1[fk_iNM.getD k 0]? = (fk_NM[k]?).map (fun x => Cond.methodLinkNest x.1 x.2.1 x.2.2.1 x.2.2.2) := by decide +kernel
theorem fk_inNF {x : String × Nat × String × String × String × String} (h : x ∈ fk_NF) : Cond.fieldLinkNest x.1 x.2.1 x.2.2.1 x.2.2.2.1 x.2.2.2.2.1 x.2.2.2.2.2 ∈ tables_1 := by
  obtain ⟨k, hk⟩ := List.mem_iff_getElem?.mp h
  have hl : k < 54 := (List.getElem?_eq_some_iff.mp hk).1
  have h1 := fk_nnf k hl
  rw [hk] at h1
  exact List.mem_of_getElem? h1
theorem fk_inNM {x : String × Nat × MethodName × String} (h : x ∈ fk_NM) : Cond.methodLinkNest x.1 x.2.1 x.2.2.1 x.2.2.2 ∈ tables_1 := by
  obtain ⟨k, hk⟩ := List.mem_iff_getElem?.mp h
  have hl : k < 40 := (List.getElem?_eq_some_iff.mp hk).1
  have h1 := fk_nnm k hl
  rw [hk] at h1
  exact List.mem_of_getElem? h1
def fk_iSR : List Nat := [411, 447, 470, 471, 495, 503, 512, 522, 536, 544, 596, 608]
def fk_iSX : List Nat := [124, 141, 159, 181, 215, 266, 298, 340, 370, 395, 428, 454]
theorem fk_nsr : ∀ k, k < 12 → tables_1[fk_iSR.getD k 0]? = (fk_str[k]?).map (fun x => Cond.stringRef "FlowDesk" x.1 x.2) := by decide +kernel
theorem fk_nsx : ∀ k, k < 12 → (flatC (Jvm.Cond.and given_1 narrow_1))[fk_iSX.getD k 0]? = (fk_str[k]?).map (fun x => Cond.exactly (.string "FlowDesk" x.1) "java/lang/String") := by decide +kernel
theorem fk_ncof {C D : String} {s : State} {args : Array Value} {c d : ClassId} (hc : s.vm.findClass C = some c) (hd : s.vm.findClass D = some d) (h : (Cond.not (Cond.castable C D)).before args s = true) : fk_nc C D s := by
  refine ⟨c, d, hc, hd, ?_⟩
  cases ha : s.vm.assignable c d with
  | false => rfl
  | true => simp [Cond.before, Cond.holds, Cond.value, hc, hd, ha] at h
theorem fk_xzof {n d : String} {g : fk_G} {s : State} {args : Array Value} (hA : ∀ a : Nat, a < s.heap.size → ¬ fk_A g a) (hl : (Cond.laysStatic "java/lang/Throwable" n d).before args s = true) (hr : (Cond.isRef (.static "java/lang/Throwable" n d)).before args s = true) : fk_xz n d g s s.heap := by
  obtain ⟨c, k, i, f, a, cell, h1, h2, h3, h4, h5, h6, h7, h8, h9⟩ := Cond.laysStatic_spec hl
  obtain ⟨u, hu⟩ := Cond.staticRefV h2 h3 h4 h5 h6 hr
  exact ⟨c, k, i, f, a, cell, h1, h2, h3, h4, h5, h6, h7, h8, h9, ⟨u.v, hu, u.ok⟩, hA a (Array.getElem?_eq_some_iff.mp h5).1⟩
theorem fk_prim {s : State} {args : Array Value} {ty : FieldType} (h : (Cond.arrayClass ty).before args s = true) : ∃ cA : ClassId, s.vm.findClass ("[" ++ ty.toString) = some cA ∧ ArrOfT s cA ty := by
  obtain ⟨c, k, comp, h1, h2, h3⟩ := Cond.arrayClass_spec h
  exact ⟨c, h1, fun n z => ⟨fun q e => (by cases e), k, h2, comp, h3⟩⟩
set_option maxHeartbeats 2000000 in
theorem fk_entry {s : State} {b : Nat} (hts : ∀ w ∈ lw_tbl, w.before #[Value.ref b] s = true) (hgv : (Jvm.Cond.and given_1 narrow_1).before #[Value.ref b] s = true) :
    ∃ g : fk_G, g.2.2.2.1 = s.heap.size ∧ fk_row g ∧ fk_E g s s.heap ∧ fk_ys g s s.heap ∧ va_AO "FlowDesk$Flow" s := by
  have hall : ∀ w, w ∈ fk_ALL → w.before #[Value.ref b] s = true := fun w hw => hts w (List.mem_filter.mp hw).1
  have hs := flat_of_before _ hgv
  have hk : ∀ ci : Nat, ∃ q : ClassId × (Nat → Nat), ∀ r, fk_cl[ci]? = some r → u_Kn s r.1 r.2.1 r.2.2 q.1 q.2 := by
    intro ci
    match ci with
    | 0 =>
      obtain ⟨cC, iS, h⟩ := u_known (C := R_K) (T := T_K) (N := 7) hall hin_K (hall _ i_151)
      exact ⟨(cC, iS), fun r hr => by cases hr; exact h⟩
    | 1 =>
      obtain ⟨cC, iS, h⟩ := u_known (C := R_C) (T := T_C) (N := 3) hall hin_C (hall _ i_183)
      exact ⟨(cC, iS), fun r hr => by cases hr; exact h⟩
    | 2 =>
      obtain ⟨cC, iS, h⟩ := u_known (C := R_E) (T := T_E) (N := 5) hall hin_E (hall _ i_38)
      exact ⟨(cC, iS), fun r hr => by cases hr; exact h⟩
    | 3 =>
      obtain ⟨cC, iS, h⟩ := u_known (C := R_F) (T := T_F) (N := 7) hall hin_F (hall _ i_32)
      exact ⟨(cC, iS), fun r hr => by cases hr; exact h⟩
    | 4 =>
      obtain ⟨cC, iS, h⟩ := u_known (C := R_N) (T := T_N) (N := 2) hall hin_N (hall _ i_25)
      exact ⟨(cC, iS), fun r hr => by cases hr; exact h⟩
    | 5 =>
      obtain ⟨cC, iS, h⟩ := u_known (C := R_W) (T := T_W) (N := 5) hall hin_W (hall _ i_126)
      exact ⟨(cC, iS), fun r hr => by cases hr; exact h⟩
    | 6 =>
      obtain ⟨cC, iS, h⟩ := u_known (C := R_D) (T := T_D) (N := 5) hall hin_D (hall _ i_17)
      exact ⟨(cC, iS), fun r hr => by cases hr; exact h⟩
    | 7 =>
      obtain ⟨cC, iS, h⟩ := u_known (C := R_M) (T := T_M) (N := 31) hall hin_M (hall _ i_617)
      exact ⟨(cC, iS), fun r hr => by cases hr; exact h⟩
    | k + 8 => exact ⟨(0, fun _ => 0), fun r hr => by cases hr⟩
  obtain ⟨DD, hDD⟩ := Classical.axiomOfChoice hk
  obtain ⟨c0, h0, a0⟩ := fk_prim (hall _ fk_rw0)
  obtain ⟨c1, h1, a1⟩ := fk_prim (hall _ fk_rw1)
  obtain ⟨c2, h2, a2⟩ := fk_prim (hall _ fk_rw2)
  have hao : (Cond.arrayOver (.object "FlowDesk$Flow")).before #[Value.ref b] s = true := (hts _ (List.mem_append_right _ (List.mem_of_getElem? (i := 31) (by decide +kernel))))
  obtain ⟨comp, c3, k3, g1, g2, g3, g4, g5⟩ := Cond.arrayOver_spec hao
  have hA : ∀ a : Nat, a < s.heap.size → ¬ s.heap.size ≤ a := fun a h => by omega
  have htab : ∀ i : Nat, ∃ t9 : Nat, i < 4 → va_Z "FlowDesk" (fk_tn i) "[I" (.ref t9) (fun q => s.heap.size ≤ q) s s.heap ∧ va_T .int t9 19 (fun j => .int ((fk_tv i).getD j 0)) (fun q => s.heap.size ≤ q) s s.heap := by
    intro i
    by_cases hi : i < 4
    · obtain ⟨t9, q1, q2⟩ := va_Tof (A := fun q => s.heap.size ≤ q) (f := fun j => .int ((fk_tv i).getD j 0)) (N := 19) (by decide) (hs _ (List.mem_of_getElem? (fk_nar9 i hi))) (va_eqt (hs _ (List.mem_of_getElem? (fk_nle i hi)))) (fun j hj => va_eqt (hs _ (List.mem_of_getElem? (fk_nel i hi j hj)))) hA
      exact ⟨t9, fun _ => ⟨va_Zof (hts _ (List.mem_append_right _ (List.mem_of_getElem? (fk_nls i hi)))) (hall _ i_1) q1 hA, q2⟩⟩
    · exact ⟨0, fun h => absurd h hi⟩
  obtain ⟨tt, htt⟩ := Classical.axiomOfChoice htab
  refine ⟨((fun ci => (DD ci).1, fun ci => (DD ci).2), (fun i => match i with | 0 => c0 | 1 => c1 | 2 => c2 | _ => c3), (fun k => s.heap.size + k), s.heap.size, tt), rfl, fun k => rfl, ⟨Nat.le_refl _, ⟨fun ci r hr => hDD ci r hr, fun k q hq => ?_⟩, fun x hx => va_Nw.of rfl (hts _ (List.mem_append_right _ (fk_inNF hx))), fun x hx => va_Nw.of rfl (hts _ (List.mem_append_right _ (fk_inNM hx))), fun i hi => htt i hi⟩, ⟨⟨?_, ?_, ?_, ?_⟩, ?_, ?_, ?_⟩, va_AO.of hao⟩
  · match k, hq with
    | 0, hq => cases hq; exact ⟨a0, h0⟩
    | 1, hq => cases hq; exact ⟨a1, h1⟩
    | 2, hq => cases hq; exact ⟨a2, h2⟩
    | 3, hq => cases hq; exact ⟨fun N z => ⟨fun q e => (by cases e), k3, g3, comp, g4⟩, k3, comp, g3, g4, g1, g5⟩
    | k + 4, hq => cases hq
  · exact fk_xzof hA (hts _ (List.mem_append_right _ (List.mem_of_getElem? (i := 397) (by decide +kernel)))) (hs _ (List.mem_of_getElem? (i := 92) (by decide +kernel)))
  · exact fk_xzof hA (hts _ (List.mem_append_right _ (List.mem_of_getElem? (i := 399) (by decide +kernel)))) (hs _ (List.mem_of_getElem? (i := 93) (by decide +kernel)))
  · intro x hx
    simp only [fk_xd, List.mem_cons, List.not_mem_nil, or_false] at hx
    rcases hx with rfl | rfl | rfl
    · exact va_Nw.of rfl (hts _ (List.mem_append_right _ (List.mem_of_getElem? (i := 378) (by decide +kernel))))
    · exact va_Nw.of rfl (hts _ (List.mem_append_right _ (List.mem_of_getElem? (i := 376) (by decide +kernel))))
    · exact va_Nw.of rfl (hts _ (List.mem_append_right _ (List.mem_of_getElem? (i := 374) (by decide +kernel))))
  · intro x hx
    obtain ⟨k, hk⟩ := List.mem_iff_getElem?.mp hx
    have hl : k < 12 := (List.getElem?_eq_some_iff.mp hk).1
    have q1 := fk_nsr k hl
    have q2 := fk_nsx k hl
    rw [hk] at q1 q2
    have w1 := hts _ (List.mem_append_right _ (List.mem_of_getElem? q1))
    obtain ⟨a, cc, cell, kk, ha, -⟩ := Cond.exactly_spec (hs _ (List.mem_of_getElem? q2))
    exact ⟨a, vk_R.of w1 ha⟩
  · obtain ⟨x1, hfx1⟩ : ∃ q, s.vm.findClass "java/lang/IllegalStateException" = some q := by
      obtain ⟨q, _, hq, _⟩ := Cond.instantiable_spec (hall _ i_439)
      exact ⟨q, hq⟩
    obtain ⟨x2, hfx2⟩ : ∃ q, s.vm.findClass "java/lang/IllegalArgumentException" = some q := by
      obtain ⟨q, _, hq, _⟩ := Cond.instantiable_spec (hall _ i_371)
      exact ⟨q, hq⟩
    exact fk_ncof hfx1 hfx2 (hs _ (List.mem_of_getElem? (i := 102) (by decide +kernel)))
  · obtain ⟨x1, hfx1⟩ : ∃ q, s.vm.findClass "java/util/NoSuchElementException" = some q := by
      obtain ⟨q, _, hq, _⟩ := Cond.instantiable_spec (hall _ i_514)
      exact ⟨q, hq⟩
    obtain ⟨x2, hfx2⟩ : ∃ q, s.vm.findClass "java/lang/IllegalStateException" = some q := by
      obtain ⟨q, _, hq, _⟩ := Cond.instantiable_spec (hall _ i_439)
      exact ⟨q, hq⟩
    exact fk_ncof hfx1 hfx2 (hs _ (List.mem_of_getElem? (i := 113) (by decide +kernel)))
  · obtain ⟨x1, hfx1⟩ : ∃ q, s.vm.findClass "java/util/NoSuchElementException" = some q := by
      obtain ⟨q, _, hq, _⟩ := Cond.instantiable_spec (hall _ i_514)
      exact ⟨q, hq⟩
    obtain ⟨x2, hfx2⟩ : ∃ q, s.vm.findClass "java/lang/IllegalArgumentException" = some q := by
      obtain ⟨q, _, hq, _⟩ := Cond.instantiable_spec (hall _ i_371)
      exact ⟨q, hq⟩
    exact fk_ncof hfx1 hfx2 (hs _ (List.mem_of_getElem? (i := 103) (by decide +kernel)))
