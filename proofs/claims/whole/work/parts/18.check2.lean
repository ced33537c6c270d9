/-! Checker: clocks and beginnings. Written by wip/gen/s_check2.py. -/
def fk_oc (ck : Nat → Nat) (k w : Nat) (v : Int32) : Int32 := match k with
  | 3 => nI (ck w)
  | 16 => nI (2 * w + 1)
  | 17 => nI (2 * w + 2)
  | 18 => nI (ck w)
  | _ => v
def fk_cpt (ck : Nat → Nat) (k w q : Nat) (v : Int32) : Int32 := match k with
  | 16 => nI (ck w)
  | 17 => nI (ck w)
  | 18 => nI (2 * w + if q = 0 then 1 else 2)
  | _ => v
def fk_wc (E : Nat → Int32) (ck : Nat → Nat) (k w i : Nat) : Nat → Nat → Nat → (Nat → Int32) → Nat → Int32
  | 0, _, _, A => A
  | d + 1, q, y, A => fk_wc E ck k w i d (q + 1) (E y).toNatClampNeg (upd A y (fk_cpt ck k w q (A i)))
def fk_cf (b : Nat → Nat) (E : Nat → Int32) (ck : Nat → Nat) : Nat → Nat → (Nat → Int32) → Option Nat × (Nat → Int32)
  | 0, _, A => (none, A)
  | d + 1, i, A => if ¬ 0 < E i then fk_cf b E ck d (i + 1) A else if fk_oc ck (b i) (b (i + 1)) (A i) = A i then fk_cf b E ck d (i + 1) (fk_wc E ck (b i) (b (i + 1)) i (fk_ar (b i)) 0 (i + fk_hd (b i)) A) else (some i, A)
theorem fk_cf_S (b : Nat → Nat) (E : Nat → Int32) (ck : Nat → Nat) (d i : Nat) (A : Nat → Int32) : fk_cf b E ck (d + 1) i A = if ¬ 0 < E i then fk_cf b E ck d (i + 1) A else if fk_oc ck (b i) (b (i + 1)) (A i) = A i then fk_cf b E ck d (i + 1) (fk_wc E ck (b i) (b (i + 1)) i (fk_ar (b i)) 0 (i + fk_hd (b i)) A) else (some i, A) := rfl
def fk_hn (E A : Nat → Int32) : Nat → Nat → Bool
  | 0, _ => false
  | d + 1, y => if A y = 0 then fk_hn E A d (E y).toNatClampNeg else true
theorem fk_hn_S (E A : Nat → Int32) (d y : Nat) : fk_hn E A (d + 1) y = if A y = 0 then fk_hn E A d (E y).toNatClampNeg else true := rfl
def fk_as (k : Nat) : Nat := if k = 15 then 1 else fk_ar k
def fk_bg (b : Nat → Nat) (E : Nat → Int32) : Nat → Option Nat → (Nat → Int32) → Option Nat × (Nat → Int32)
  | 0, lo, A => (lo, A)
  | i + 1, lo, A => if ¬ 0 < E i then fk_bg b E i lo A else fk_bg b E i (if (b i = 14 ∨ b i = 15) ∧ ¬ A (i + fk_hd (b i)) = 0 then some i else lo) (upd A i (nI (decide (b i = 14) || fk_hn E A (fk_as (b i)) (i + fk_hd (b i))).toNat))
theorem fk_bg_S (b : Nat → Nat) (E : Nat → Int32) (i : Nat) (lo : Option Nat) (A : Nat → Int32) : fk_bg b E (i + 1) lo A = if ¬ 0 < E i then fk_bg b E i lo A else fk_bg b E i (if (b i = 14 ∨ b i = 15) ∧ ¬ A (i + fk_hd (b i)) = 0 then some i else lo) (upd A i (nI (decide (b i = 14) || fk_hn E A (fk_as (b i)) (i + fk_hd (b i))).toNat)) := rfl
theorem fk_dec (v : Int32) : v + Int32.ofInt (-1) = v - 1 := by
  rw [Int32.sub_eq_add_neg]
  rfl
theorem d_K_ownClock_0 : decode b_K_ownClock 0 = .ok (.aload_n 1, 1) := by decide +kernel
theorem d_K_ownClock_1 : decode b_K_ownClock 1 = .ok (.getfield 117, 3) := by decide +kernel
theorem d_K_ownClock_4 : decode b_K_ownClock 4 = .ok (.iload_n 2, 1) := by decide +kernel
theorem d_K_ownClock_5 : decode b_K_ownClock 5 = .ok (.iaload, 1) := by decide +kernel
theorem d_K_ownClock_6 : decode b_K_ownClock 6 = .ok (.lookupswitch 79 #[(3, 42), (16, 59), (17, 69), (18, 42)], 42) := by decide +kernel
theorem d_K_ownClock_48 : decode b_K_ownClock 48 = .ok (.aload_n 0, 1) := by decide +kernel
theorem d_K_ownClock_49 : decode b_K_ownClock 49 = .ok (.getfield 26, 3) := by decide +kernel
theorem d_K_ownClock_52 : decode b_K_ownClock 52 = .ok (.getfield 62, 3) := by decide +kernel
theorem d_K_ownClock_55 : decode b_K_ownClock 55 = .ok (.aload_n 1, 1) := by decide +kernel
theorem d_K_ownClock_56 : decode b_K_ownClock 56 = .ok (.iload_n 2, 1) := by decide +kernel
theorem d_K_ownClock_57 : decode b_K_ownClock 57 = .ok (.invokevirtual 120, 3) := by decide +kernel
theorem d_K_ownClock_60 : decode b_K_ownClock 60 = .ok (.aaload, 1) := by decide +kernel
theorem d_K_ownClock_61 : decode b_K_ownClock 61 = .ok (.getfield 91, 3) := by decide +kernel
theorem d_K_ownClock_64 : decode b_K_ownClock 64 = .ok (.ireturn, 1) := by decide +kernel
theorem d_K_ownClock_65 : decode b_K_ownClock 65 = .ok (.aload_n 1, 1) := by decide +kernel
theorem d_K_ownClock_66 : decode b_K_ownClock 66 = .ok (.iload_n 2, 1) := by decide +kernel
theorem d_K_ownClock_67 : decode b_K_ownClock 67 = .ok (.invokevirtual 120, 3) := by decide +kernel
theorem d_K_ownClock_70 : decode b_K_ownClock 70 = .ok (.iconst 1, 1) := by decide +kernel
theorem d_K_ownClock_71 : decode b_K_ownClock 71 = .ok (.invokestatic 150, 3) := by decide +kernel
theorem d_K_ownClock_74 : decode b_K_ownClock 74 = .ok (.ireturn, 1) := by decide +kernel
theorem d_K_ownClock_75 : decode b_K_ownClock 75 = .ok (.aload_n 1, 1) := by decide +kernel
theorem d_K_ownClock_76 : decode b_K_ownClock 76 = .ok (.iload_n 2, 1) := by decide +kernel
theorem d_K_ownClock_77 : decode b_K_ownClock 77 = .ok (.invokevirtual 120, 3) := by decide +kernel
theorem d_K_ownClock_80 : decode b_K_ownClock 80 = .ok (.iconst 0, 1) := by decide +kernel
theorem d_K_ownClock_81 : decode b_K_ownClock 81 = .ok (.invokestatic 150, 3) := by decide +kernel
theorem d_K_ownClock_84 : decode b_K_ownClock 84 = .ok (.ireturn, 1) := by decide +kernel
theorem d_K_ownClock_85 : decode b_K_ownClock 85 = .ok (.aload_n 1, 1) := by decide +kernel
theorem d_K_ownClock_86 : decode b_K_ownClock 86 = .ok (.getfield 141, 3) := by decide +kernel
theorem d_K_ownClock_89 : decode b_K_ownClock 89 = .ok (.iload_n 2, 1) := by decide +kernel
theorem d_K_ownClock_90 : decode b_K_ownClock 90 = .ok (.iaload, 1) := by decide +kernel
theorem d_K_ownClock_91 : decode b_K_ownClock 91 = .ok (.ireturn, 1) := by decide +kernel
theorem m_K_ownClock : fk_MI y_K_ownClock b_K_ownClock 3 (some .int) 2 := ⟨i_316, i_315, fk_mp (q := (y_K_ownClock, 7)) (by decide +kernel), i_6, by decide +kernel⟩
set_option maxHeartbeats 4000000 in
set_option maxRecDepth 100000 in
theorem c_K_ownClock (l : Launch) (g : fk_G) (ov : Int64) (M : fk_M) (x : Nat) (hX : fk_X x) (bf : Nat → Nat) (n cnt : Nat) (hn40 : n ≤ 40) (h12 : cnt ≤ 12) (hb : ∀ j, j < n → M (x + 1) j = nI (bf j)) (i : Nat) (hok : fk_ok bf n cnt i) (ck : Nat → Nat) (hck : ∀ j, j < 12 → M (3 + 6 * j) 3 = nI (ck j)) : fk_CI l y_K_ownClock b_K_ownClock 3 (some .int) (fk_rm 1) g ov M M [.ref (fk_a g 79), .ref (fk_a g x), .int (nI i)] (fk_oc ck (bf i) (bf (i + 1)) (M (x + 3) i)) := by
  refine fk_ofI rfl (Nat.le_of_ble_eq_true rfl) ?_
  intro p e s m args below meth c ls S hr hlk E G hl
  have hl : lv_has ls 3 [(0, .ref (fk_a g 79)), (1, .ref (fk_a g x)), (2, .int (nI i))] := hl
  have hok2 := hok.2.1
  have hi := hok.1
  rcases (show bf i = 0 ∨ bf i = 1 ∨ bf i = 2 ∨ bf i = 3 ∨ bf i = 4 ∨ bf i = 5 ∨ bf i = 6 ∨ bf i = 7 ∨ bf i = 8 ∨ bf i = 9 ∨ bf i = 10 ∨ bf i = 11 ∨ bf i = 12 ∨ bf i = 13 ∨ bf i = 14 ∨ bf i = 15 ∨ bf i = 16 ∨ bf i = 17 ∨ bf i = 18 by omega) with hk | hk | hk | hk | hk | hk | hk | hk | hk | hk | hk | hk | hk | hk | hk | hk | hk | hk | hk
  · refine lv_aload_n S.1 S.2.1 d_K_ownClock_0 rfl (lv_at hl 1 rfl) ?_
    refine fk_gn S E G x (by have := fk_Xlt hX; omega) (v := .ref (fk_a g (x + 1))) (congrArg (fk_ce g ov x (M x)) (fk_kx0 hX)) rfl 0 (by decide) rfl (List.mem_of_getElem? (i := 1) rfl) rfl d_K_ownClock_1 ?_
    refine lv_iload_n S.1 S.2.1 d_K_ownClock_4 rfl (lv_at hl 2 rfl) ?_
    refine fk_ia S E G (x + 1) (by have := fk_Xlt hX; omega) (congrArg (fk_ce g ov (x + 1) (M (x + 1))) (fk_kx1 hX)) i rfl (by omega) (by decide) (v := nI 0) (by rw [hb i hok.1, hk]) d_K_ownClock_5 ?_
    refine lv_lookup (off := 79) (tgt := 85) S.1 S.2.1 d_K_ownClock_6 (by decide +kernel) (by decide +kernel) rfl ?_
    refine lv_aload_n S.1 S.2.1 d_K_ownClock_85 rfl (lv_at hl 1 rfl) ?_
    refine fk_gn S E G x (by have := fk_Xlt hX; omega) (v := .ref (fk_a g (x + 3))) (congrArg (fk_ce g ov x (M x)) (fk_kx0 hX)) rfl 2 (by decide) rfl (List.mem_of_getElem? (i := 6) rfl) rfl d_K_ownClock_86 ?_
    refine lv_iload_n S.1 S.2.1 d_K_ownClock_89 rfl (lv_at hl 2 rfl) ?_
    refine fk_ia S E G (x + 3) (by have := fk_Xlt hX; omega) (congrArg (fk_ce g ov (x + 3) (M (x + 3))) (fk_kx3 hX)) i rfl (by omega) (by decide) (v := M (x + 3) i) rfl d_K_ownClock_90 ?_
    exact fk_iret S hr hlk E G rfl (by rw [hk]; rfl) d_K_ownClock_91
  · refine lv_aload_n S.1 S.2.1 d_K_ownClock_0 rfl (lv_at hl 1 rfl) ?_
    refine fk_gn S E G x (by have := fk_Xlt hX; omega) (v := .ref (fk_a g (x + 1))) (congrArg (fk_ce g ov x (M x)) (fk_kx0 hX)) rfl 0 (by decide) rfl (List.mem_of_getElem? (i := 1) rfl) rfl d_K_ownClock_1 ?_
    refine lv_iload_n S.1 S.2.1 d_K_ownClock_4 rfl (lv_at hl 2 rfl) ?_
    refine fk_ia S E G (x + 1) (by have := fk_Xlt hX; omega) (congrArg (fk_ce g ov (x + 1) (M (x + 1))) (fk_kx1 hX)) i rfl (by omega) (by decide) (v := nI 1) (by rw [hb i hok.1, hk]) d_K_ownClock_5 ?_
    refine lv_lookup (off := 79) (tgt := 85) S.1 S.2.1 d_K_ownClock_6 (by decide +kernel) (by decide +kernel) rfl ?_
    refine lv_aload_n S.1 S.2.1 d_K_ownClock_85 rfl (lv_at hl 1 rfl) ?_
    refine fk_gn S E G x (by have := fk_Xlt hX; omega) (v := .ref (fk_a g (x + 3))) (congrArg (fk_ce g ov x (M x)) (fk_kx0 hX)) rfl 2 (by decide) rfl (List.mem_of_getElem? (i := 6) rfl) rfl d_K_ownClock_86 ?_
    refine lv_iload_n S.1 S.2.1 d_K_ownClock_89 rfl (lv_at hl 2 rfl) ?_
    refine fk_ia S E G (x + 3) (by have := fk_Xlt hX; omega) (congrArg (fk_ce g ov (x + 3) (M (x + 3))) (fk_kx3 hX)) i rfl (by omega) (by decide) (v := M (x + 3) i) rfl d_K_ownClock_90 ?_
    exact fk_iret S hr hlk E G rfl (by rw [hk]; rfl) d_K_ownClock_91
  · refine lv_aload_n S.1 S.2.1 d_K_ownClock_0 rfl (lv_at hl 1 rfl) ?_
    refine fk_gn S E G x (by have := fk_Xlt hX; omega) (v := .ref (fk_a g (x + 1))) (congrArg (fk_ce g ov x (M x)) (fk_kx0 hX)) rfl 0 (by decide) rfl (List.mem_of_getElem? (i := 1) rfl) rfl d_K_ownClock_1 ?_
    refine lv_iload_n S.1 S.2.1 d_K_ownClock_4 rfl (lv_at hl 2 rfl) ?_
    refine fk_ia S E G (x + 1) (by have := fk_Xlt hX; omega) (congrArg (fk_ce g ov (x + 1) (M (x + 1))) (fk_kx1 hX)) i rfl (by omega) (by decide) (v := nI 2) (by rw [hb i hok.1, hk]) d_K_ownClock_5 ?_
    refine lv_lookup (off := 79) (tgt := 85) S.1 S.2.1 d_K_ownClock_6 (by decide +kernel) (by decide +kernel) rfl ?_
    refine lv_aload_n S.1 S.2.1 d_K_ownClock_85 rfl (lv_at hl 1 rfl) ?_
    refine fk_gn S E G x (by have := fk_Xlt hX; omega) (v := .ref (fk_a g (x + 3))) (congrArg (fk_ce g ov x (M x)) (fk_kx0 hX)) rfl 2 (by decide) rfl (List.mem_of_getElem? (i := 6) rfl) rfl d_K_ownClock_86 ?_
    refine lv_iload_n S.1 S.2.1 d_K_ownClock_89 rfl (lv_at hl 2 rfl) ?_
    refine fk_ia S E G (x + 3) (by have := fk_Xlt hX; omega) (congrArg (fk_ce g ov (x + 3) (M (x + 3))) (fk_kx3 hX)) i rfl (by omega) (by decide) (v := M (x + 3) i) rfl d_K_ownClock_90 ?_
    exact fk_iret S hr hlk E G rfl (by rw [hk]; rfl) d_K_ownClock_91
  · refine lv_aload_n S.1 S.2.1 d_K_ownClock_0 rfl (lv_at hl 1 rfl) ?_
    refine fk_gn S E G x (by have := fk_Xlt hX; omega) (v := .ref (fk_a g (x + 1))) (congrArg (fk_ce g ov x (M x)) (fk_kx0 hX)) rfl 0 (by decide) rfl (List.mem_of_getElem? (i := 1) rfl) rfl d_K_ownClock_1 ?_
    refine lv_iload_n S.1 S.2.1 d_K_ownClock_4 rfl (lv_at hl 2 rfl) ?_
    refine fk_ia S E G (x + 1) (by have := fk_Xlt hX; omega) (congrArg (fk_ce g ov (x + 1) (M (x + 1))) (fk_kx1 hX)) i rfl (by omega) (by decide) (v := nI 3) (by rw [hb i hok.1, hk]) d_K_ownClock_5 ?_
    refine lv_lookup (off := 42) (tgt := 48) S.1 S.2.1 d_K_ownClock_6 (by decide +kernel) (by decide +kernel) rfl ?_
    have hw := hok.2.2.2 (by omega)
    have hd2 := fk_hd2 (k := bf i) (by omega)
    have hlen := hok.2.2.1
    refine lv_aload_n S.1 S.2.1 d_K_ownClock_48 rfl (lv_at hl 0 rfl) ?_
    refine fk_gf S E G 79 (by decide) (v := .ref (fk_a g 1)) (congrArg (fk_ce g ov 79 (M 79)) kd_79) rfl 0 (by decide) rfl i_156 rfl d_K_ownClock_49 ?_
    refine fk_gn S E G 1 (by decide) (v := .ref (fk_a g 2)) (congrArg (fk_ce g ov 1 (M 1)) kd_1) rfl 0 (by decide) rfl (List.mem_of_getElem? (i := 37) rfl) rfl d_K_ownClock_52 ?_
    refine lv_aload_n S.1 S.2.1 d_K_ownClock_55 rfl (lv_at hl 1 rfl) ?_
    refine lv_iload_n S.1 S.2.1 d_K_ownClock_56 rfl (lv_at hl 2 rfl) ?_
    refine fk_cni S E G x (by have := fk_Xlt hX; omega) (congrArg (fk_ce g ov x (M x)) (fk_kx0 hX)) rfl (rest := [.ref (fk_a g 2)]) (hb (i + 1) (by omega) ▸ c_E_named l g ov M x hX i (by omega)) m_E_named (List.mem_of_getElem? (i := 18) rfl) ⟨rfl, rfl⟩ ⟨by decide, by decide⟩ rfl rfl hl.1 (Nat.le_of_ble_eq_true rfl) d_K_ownClock_57 ⟨Nat.zero_le _, Nat.zero_le _⟩ (fun H locs G => ?_)
    refine fk_rw S E G (bf (i + 1)) rfl (by omega) d_K_ownClock_60 ?_
    refine fk_gn S E G (3 + 6 * (bf (i + 1))) (by omega) (v := .int (M (3 + 6 * (bf (i + 1))) 3)) (congrArg (fk_ce g ov (3 + 6 * (bf (i + 1))) (M (3 + 6 * (bf (i + 1))))) (fk_kf (show bf (i + 1) < 12 by omega))) rfl 3 (by decide) rfl (List.mem_of_getElem? (i := 27) rfl) rfl d_K_ownClock_61 ?_
    rw [hck _ (by omega)]
    exact fk_iret S hr hlk E G rfl (by rw [hk]; rfl) d_K_ownClock_64
  · refine lv_aload_n S.1 S.2.1 d_K_ownClock_0 rfl (lv_at hl 1 rfl) ?_
    refine fk_gn S E G x (by have := fk_Xlt hX; omega) (v := .ref (fk_a g (x + 1))) (congrArg (fk_ce g ov x (M x)) (fk_kx0 hX)) rfl 0 (by decide) rfl (List.mem_of_getElem? (i := 1) rfl) rfl d_K_ownClock_1 ?_
    refine lv_iload_n S.1 S.2.1 d_K_ownClock_4 rfl (lv_at hl 2 rfl) ?_
    refine fk_ia S E G (x + 1) (by have := fk_Xlt hX; omega) (congrArg (fk_ce g ov (x + 1) (M (x + 1))) (fk_kx1 hX)) i rfl (by omega) (by decide) (v := nI 4) (by rw [hb i hok.1, hk]) d_K_ownClock_5 ?_
    refine lv_lookup (off := 79) (tgt := 85) S.1 S.2.1 d_K_ownClock_6 (by decide +kernel) (by decide +kernel) rfl ?_
    refine lv_aload_n S.1 S.2.1 d_K_ownClock_85 rfl (lv_at hl 1 rfl) ?_
    refine fk_gn S E G x (by have := fk_Xlt hX; omega) (v := .ref (fk_a g (x + 3))) (congrArg (fk_ce g ov x (M x)) (fk_kx0 hX)) rfl 2 (by decide) rfl (List.mem_of_getElem? (i := 6) rfl) rfl d_K_ownClock_86 ?_
    refine lv_iload_n S.1 S.2.1 d_K_ownClock_89 rfl (lv_at hl 2 rfl) ?_
    refine fk_ia S E G (x + 3) (by have := fk_Xlt hX; omega) (congrArg (fk_ce g ov (x + 3) (M (x + 3))) (fk_kx3 hX)) i rfl (by omega) (by decide) (v := M (x + 3) i) rfl d_K_ownClock_90 ?_
    exact fk_iret S hr hlk E G rfl (by rw [hk]; rfl) d_K_ownClock_91
  · refine lv_aload_n S.1 S.2.1 d_K_ownClock_0 rfl (lv_at hl 1 rfl) ?_
    refine fk_gn S E G x (by have := fk_Xlt hX; omega) (v := .ref (fk_a g (x + 1))) (congrArg (fk_ce g ov x (M x)) (fk_kx0 hX)) rfl 0 (by decide) rfl (List.mem_of_getElem? (i := 1) rfl) rfl d_K_ownClock_1 ?_
    refine lv_iload_n S.1 S.2.1 d_K_ownClock_4 rfl (lv_at hl 2 rfl) ?_
    refine fk_ia S E G (x + 1) (by have := fk_Xlt hX; omega) (congrArg (fk_ce g ov (x + 1) (M (x + 1))) (fk_kx1 hX)) i rfl (by omega) (by decide) (v := nI 5) (by rw [hb i hok.1, hk]) d_K_ownClock_5 ?_
    refine lv_lookup (off := 79) (tgt := 85) S.1 S.2.1 d_K_ownClock_6 (by decide +kernel) (by decide +kernel) rfl ?_
    refine lv_aload_n S.1 S.2.1 d_K_ownClock_85 rfl (lv_at hl 1 rfl) ?_
    refine fk_gn S E G x (by have := fk_Xlt hX; omega) (v := .ref (fk_a g (x + 3))) (congrArg (fk_ce g ov x (M x)) (fk_kx0 hX)) rfl 2 (by decide) rfl (List.mem_of_getElem? (i := 6) rfl) rfl d_K_ownClock_86 ?_
    refine lv_iload_n S.1 S.2.1 d_K_ownClock_89 rfl (lv_at hl 2 rfl) ?_
    refine fk_ia S E G (x + 3) (by have := fk_Xlt hX; omega) (congrArg (fk_ce g ov (x + 3) (M (x + 3))) (fk_kx3 hX)) i rfl (by omega) (by decide) (v := M (x + 3) i) rfl d_K_ownClock_90 ?_
    exact fk_iret S hr hlk E G rfl (by rw [hk]; rfl) d_K_ownClock_91
  · refine lv_aload_n S.1 S.2.1 d_K_ownClock_0 rfl (lv_at hl 1 rfl) ?_
    refine fk_gn S E G x (by have := fk_Xlt hX; omega) (v := .ref (fk_a g (x + 1))) (congrArg (fk_ce g ov x (M x)) (fk_kx0 hX)) rfl 0 (by decide) rfl (List.mem_of_getElem? (i := 1) rfl) rfl d_K_ownClock_1 ?_
    refine lv_iload_n S.1 S.2.1 d_K_ownClock_4 rfl (lv_at hl 2 rfl) ?_
    refine fk_ia S E G (x + 1) (by have := fk_Xlt hX; omega) (congrArg (fk_ce g ov (x + 1) (M (x + 1))) (fk_kx1 hX)) i rfl (by omega) (by decide) (v := nI 6) (by rw [hb i hok.1, hk]) d_K_ownClock_5 ?_
    refine lv_lookup (off := 79) (tgt := 85) S.1 S.2.1 d_K_ownClock_6 (by decide +kernel) (by decide +kernel) rfl ?_
    refine lv_aload_n S.1 S.2.1 d_K_ownClock_85 rfl (lv_at hl 1 rfl) ?_
    refine fk_gn S E G x (by have := fk_Xlt hX; omega) (v := .ref (fk_a g (x + 3))) (congrArg (fk_ce g ov x (M x)) (fk_kx0 hX)) rfl 2 (by decide) rfl (List.mem_of_getElem? (i := 6) rfl) rfl d_K_ownClock_86 ?_
    refine lv_iload_n S.1 S.2.1 d_K_ownClock_89 rfl (lv_at hl 2 rfl) ?_
    refine fk_ia S E G (x + 3) (by have := fk_Xlt hX; omega) (congrArg (fk_ce g ov (x + 3) (M (x + 3))) (fk_kx3 hX)) i rfl (by omega) (by decide) (v := M (x + 3) i) rfl d_K_ownClock_90 ?_
    exact fk_iret S hr hlk E G rfl (by rw [hk]; rfl) d_K_ownClock_91
  · refine lv_aload_n S.1 S.2.1 d_K_ownClock_0 rfl (lv_at hl 1 rfl) ?_
    refine fk_gn S E G x (by have := fk_Xlt hX; omega) (v := .ref (fk_a g (x + 1))) (congrArg (fk_ce g ov x (M x)) (fk_kx0 hX)) rfl 0 (by decide) rfl (List.mem_of_getElem? (i := 1) rfl) rfl d_K_ownClock_1 ?_
    refine lv_iload_n S.1 S.2.1 d_K_ownClock_4 rfl (lv_at hl 2 rfl) ?_
    refine fk_ia S E G (x + 1) (by have := fk_Xlt hX; omega) (congrArg (fk_ce g ov (x + 1) (M (x + 1))) (fk_kx1 hX)) i rfl (by omega) (by decide) (v := nI 7) (by rw [hb i hok.1, hk]) d_K_ownClock_5 ?_
    refine lv_lookup (off := 79) (tgt := 85) S.1 S.2.1 d_K_ownClock_6 (by decide +kernel) (by decide +kernel) rfl ?_
    refine lv_aload_n S.1 S.2.1 d_K_ownClock_85 rfl (lv_at hl 1 rfl) ?_
    refine fk_gn S E G x (by have := fk_Xlt hX; omega) (v := .ref (fk_a g (x + 3))) (congrArg (fk_ce g ov x (M x)) (fk_kx0 hX)) rfl 2 (by decide) rfl (List.mem_of_getElem? (i := 6) rfl) rfl d_K_ownClock_86 ?_
    refine lv_iload_n S.1 S.2.1 d_K_ownClock_89 rfl (lv_at hl 2 rfl) ?_
    refine fk_ia S E G (x + 3) (by have := fk_Xlt hX; omega) (congrArg (fk_ce g ov (x + 3) (M (x + 3))) (fk_kx3 hX)) i rfl (by omega) (by decide) (v := M (x + 3) i) rfl d_K_ownClock_90 ?_
    exact fk_iret S hr hlk E G rfl (by rw [hk]; rfl) d_K_ownClock_91
  · refine lv_aload_n S.1 S.2.1 d_K_ownClock_0 rfl (lv_at hl 1 rfl) ?_
    refine fk_gn S E G x (by have := fk_Xlt hX; omega) (v := .ref (fk_a g (x + 1))) (congrArg (fk_ce g ov x (M x)) (fk_kx0 hX)) rfl 0 (by decide) rfl (List.mem_of_getElem? (i := 1) rfl) rfl d_K_ownClock_1 ?_
    refine lv_iload_n S.1 S.2.1 d_K_ownClock_4 rfl (lv_at hl 2 rfl) ?_
    refine fk_ia S E G (x + 1) (by have := fk_Xlt hX; omega) (congrArg (fk_ce g ov (x + 1) (M (x + 1))) (fk_kx1 hX)) i rfl (by omega) (by decide) (v := nI 8) (by rw [hb i hok.1, hk]) d_K_ownClock_5 ?_
    refine lv_lookup (off := 79) (tgt := 85) S.1 S.2.1 d_K_ownClock_6 (by decide +kernel) (by decide +kernel) rfl ?_
    refine lv_aload_n S.1 S.2.1 d_K_ownClock_85 rfl (lv_at hl 1 rfl) ?_
    refine fk_gn S E G x (by have := fk_Xlt hX; omega) (v := .ref (fk_a g (x + 3))) (congrArg (fk_ce g ov x (M x)) (fk_kx0 hX)) rfl 2 (by decide) rfl (List.mem_of_getElem? (i := 6) rfl) rfl d_K_ownClock_86 ?_
    refine lv_iload_n S.1 S.2.1 d_K_ownClock_89 rfl (lv_at hl 2 rfl) ?_
    refine fk_ia S E G (x + 3) (by have := fk_Xlt hX; omega) (congrArg (fk_ce g ov (x + 3) (M (x + 3))) (fk_kx3 hX)) i rfl (by omega) (by decide) (v := M (x + 3) i) rfl d_K_ownClock_90 ?_
    exact fk_iret S hr hlk E G rfl (by rw [hk]; rfl) d_K_ownClock_91
  · refine lv_aload_n S.1 S.2.1 d_K_ownClock_0 rfl (lv_at hl 1 rfl) ?_
    refine fk_gn S E G x (by have := fk_Xlt hX; omega) (v := .ref (fk_a g (x + 1))) (congrArg (fk_ce g ov x (M x)) (fk_kx0 hX)) rfl 0 (by decide) rfl (List.mem_of_getElem? (i := 1) rfl) rfl d_K_ownClock_1 ?_
    refine lv_iload_n S.1 S.2.1 d_K_ownClock_4 rfl (lv_at hl 2 rfl) ?_
    refine fk_ia S E G (x + 1) (by have := fk_Xlt hX; omega) (congrArg (fk_ce g ov (x + 1) (M (x + 1))) (fk_kx1 hX)) i rfl (by omega) (by decide) (v := nI 9) (by rw [hb i hok.1, hk]) d_K_ownClock_5 ?_
    refine lv_lookup (off := 79) (tgt := 85) S.1 S.2.1 d_K_ownClock_6 (by decide +kernel) (by decide +kernel) rfl ?_
    refine lv_aload_n S.1 S.2.1 d_K_ownClock_85 rfl (lv_at hl 1 rfl) ?_
    refine fk_gn S E G x (by have := fk_Xlt hX; omega) (v := .ref (fk_a g (x + 3))) (congrArg (fk_ce g ov x (M x)) (fk_kx0 hX)) rfl 2 (by decide) rfl (List.mem_of_getElem? (i := 6) rfl) rfl d_K_ownClock_86 ?_
    refine lv_iload_n S.1 S.2.1 d_K_ownClock_89 rfl (lv_at hl 2 rfl) ?_
    refine fk_ia S E G (x + 3) (by have := fk_Xlt hX; omega) (congrArg (fk_ce g ov (x + 3) (M (x + 3))) (fk_kx3 hX)) i rfl (by omega) (by decide) (v := M (x + 3) i) rfl d_K_ownClock_90 ?_
    exact fk_iret S hr hlk E G rfl (by rw [hk]; rfl) d_K_ownClock_91
  · refine lv_aload_n S.1 S.2.1 d_K_ownClock_0 rfl (lv_at hl 1 rfl) ?_
    refine fk_gn S E G x (by have := fk_Xlt hX; omega) (v := .ref (fk_a g (x + 1))) (congrArg (fk_ce g ov x (M x)) (fk_kx0 hX)) rfl 0 (by decide) rfl (List.mem_of_getElem? (i := 1) rfl) rfl d_K_ownClock_1 ?_
    refine lv_iload_n S.1 S.2.1 d_K_ownClock_4 rfl (lv_at hl 2 rfl) ?_
    refine fk_ia S E G (x + 1) (by have := fk_Xlt hX; omega) (congrArg (fk_ce g ov (x + 1) (M (x + 1))) (fk_kx1 hX)) i rfl (by omega) (by decide) (v := nI 10) (by rw [hb i hok.1, hk]) d_K_ownClock_5 ?_
    refine lv_lookup (off := 79) (tgt := 85) S.1 S.2.1 d_K_ownClock_6 (by decide +kernel) (by decide +kernel) rfl ?_
    refine lv_aload_n S.1 S.2.1 d_K_ownClock_85 rfl (lv_at hl 1 rfl) ?_
    refine fk_gn S E G x (by have := fk_Xlt hX; omega) (v := .ref (fk_a g (x + 3))) (congrArg (fk_ce g ov x (M x)) (fk_kx0 hX)) rfl 2 (by decide) rfl (List.mem_of_getElem? (i := 6) rfl) rfl d_K_ownClock_86 ?_
    refine lv_iload_n S.1 S.2.1 d_K_ownClock_89 rfl (lv_at hl 2 rfl) ?_
    refine fk_ia S E G (x + 3) (by have := fk_Xlt hX; omega) (congrArg (fk_ce g ov (x + 3) (M (x + 3))) (fk_kx3 hX)) i rfl (by omega) (by decide) (v := M (x + 3) i) rfl d_K_ownClock_90 ?_
    exact fk_iret S hr hlk E G rfl (by rw [hk]; rfl) d_K_ownClock_91
  · refine lv_aload_n S.1 S.2.1 d_K_ownClock_0 rfl (lv_at hl 1 rfl) ?_
    refine fk_gn S E G x (by have := fk_Xlt hX; omega) (v := .ref (fk_a g (x + 1))) (congrArg (fk_ce g ov x (M x)) (fk_kx0 hX)) rfl 0 (by decide) rfl (List.mem_of_getElem? (i := 1) rfl) rfl d_K_ownClock_1 ?_
    refine lv_iload_n S.1 S.2.1 d_K_ownClock_4 rfl (lv_at hl 2 rfl) ?_
    refine fk_ia S E G (x + 1) (by have := fk_Xlt hX; omega) (congrArg (fk_ce g ov (x + 1) (M (x + 1))) (fk_kx1 hX)) i rfl (by omega) (by decide) (v := nI 11) (by rw [hb i hok.1, hk]) d_K_ownClock_5 ?_
    refine lv_lookup (off := 79) (tgt := 85) S.1 S.2.1 d_K_ownClock_6 (by decide +kernel) (by decide +kernel) rfl ?_
    refine lv_aload_n S.1 S.2.1 d_K_ownClock_85 rfl (lv_at hl 1 rfl) ?_
    refine fk_gn S E G x (by have := fk_Xlt hX; omega) (v := .ref (fk_a g (x + 3))) (congrArg (fk_ce g ov x (M x)) (fk_kx0 hX)) rfl 2 (by decide) rfl (List.mem_of_getElem? (i := 6) rfl) rfl d_K_ownClock_86 ?_
    refine lv_iload_n S.1 S.2.1 d_K_ownClock_89 rfl (lv_at hl 2 rfl) ?_
    refine fk_ia S E G (x + 3) (by have := fk_Xlt hX; omega) (congrArg (fk_ce g ov (x + 3) (M (x + 3))) (fk_kx3 hX)) i rfl (by omega) (by decide) (v := M (x + 3) i) rfl d_K_ownClock_90 ?_
    exact fk_iret S hr hlk E G rfl (by rw [hk]; rfl) d_K_ownClock_91
  · refine lv_aload_n S.1 S.2.1 d_K_ownClock_0 rfl (lv_at hl 1 rfl) ?_
    refine fk_gn S E G x (by have := fk_Xlt hX; omega) (v := .ref (fk_a g (x + 1))) (congrArg (fk_ce g ov x (M x)) (fk_kx0 hX)) rfl 0 (by decide) rfl (List.mem_of_getElem? (i := 1) rfl) rfl d_K_ownClock_1 ?_
    refine lv_iload_n S.1 S.2.1 d_K_ownClock_4 rfl (lv_at hl 2 rfl) ?_
    refine fk_ia S E G (x + 1) (by have := fk_Xlt hX; omega) (congrArg (fk_ce g ov (x + 1) (M (x + 1))) (fk_kx1 hX)) i rfl (by omega) (by decide) (v := nI 12) (by rw [hb i hok.1, hk]) d_K_ownClock_5 ?_
    refine lv_lookup (off := 79) (tgt := 85) S.1 S.2.1 d_K_ownClock_6 (by decide +kernel) (by decide +kernel) rfl ?_
    refine lv_aload_n S.1 S.2.1 d_K_ownClock_85 rfl (lv_at hl 1 rfl) ?_
    refine fk_gn S E G x (by have := fk_Xlt hX; omega) (v := .ref (fk_a g (x + 3))) (congrArg (fk_ce g ov x (M x)) (fk_kx0 hX)) rfl 2 (by decide) rfl (List.mem_of_getElem? (i := 6) rfl) rfl d_K_ownClock_86 ?_
    refine lv_iload_n S.1 S.2.1 d_K_ownClock_89 rfl (lv_at hl 2 rfl) ?_
    refine fk_ia S E G (x + 3) (by have := fk_Xlt hX; omega) (congrArg (fk_ce g ov (x + 3) (M (x + 3))) (fk_kx3 hX)) i rfl (by omega) (by decide) (v := M (x + 3) i) rfl d_K_ownClock_90 ?_
    exact fk_iret S hr hlk E G rfl (by rw [hk]; rfl) d_K_ownClock_91
  · refine lv_aload_n S.1 S.2.1 d_K_ownClock_0 rfl (lv_at hl 1 rfl) ?_
    refine fk_gn S E G x (by have := fk_Xlt hX; omega) (v := .ref (fk_a g (x + 1))) (congrArg (fk_ce g ov x (M x)) (fk_kx0 hX)) rfl 0 (by decide) rfl (List.mem_of_getElem? (i := 1) rfl) rfl d_K_ownClock_1 ?_
    refine lv_iload_n S.1 S.2.1 d_K_ownClock_4 rfl (lv_at hl 2 rfl) ?_
    refine fk_ia S E G (x + 1) (by have := fk_Xlt hX; omega) (congrArg (fk_ce g ov (x + 1) (M (x + 1))) (fk_kx1 hX)) i rfl (by omega) (by decide) (v := nI 13) (by rw [hb i hok.1, hk]) d_K_ownClock_5 ?_
    refine lv_lookup (off := 79) (tgt := 85) S.1 S.2.1 d_K_ownClock_6 (by decide +kernel) (by decide +kernel) rfl ?_
    refine lv_aload_n S.1 S.2.1 d_K_ownClock_85 rfl (lv_at hl 1 rfl) ?_
    refine fk_gn S E G x (by have := fk_Xlt hX; omega) (v := .ref (fk_a g (x + 3))) (congrArg (fk_ce g ov x (M x)) (fk_kx0 hX)) rfl 2 (by decide) rfl (List.mem_of_getElem? (i := 6) rfl) rfl d_K_ownClock_86 ?_
    refine lv_iload_n S.1 S.2.1 d_K_ownClock_89 rfl (lv_at hl 2 rfl) ?_
    refine fk_ia S E G (x + 3) (by have := fk_Xlt hX; omega) (congrArg (fk_ce g ov (x + 3) (M (x + 3))) (fk_kx3 hX)) i rfl (by omega) (by decide) (v := M (x + 3) i) rfl d_K_ownClock_90 ?_
    exact fk_iret S hr hlk E G rfl (by rw [hk]; rfl) d_K_ownClock_91
  · refine lv_aload_n S.1 S.2.1 d_K_ownClock_0 rfl (lv_at hl 1 rfl) ?_
    refine fk_gn S E G x (by have := fk_Xlt hX; omega) (v := .ref (fk_a g (x + 1))) (congrArg (fk_ce g ov x (M x)) (fk_kx0 hX)) rfl 0 (by decide) rfl (List.mem_of_getElem? (i := 1) rfl) rfl d_K_ownClock_1 ?_
    refine lv_iload_n S.1 S.2.1 d_K_ownClock_4 rfl (lv_at hl 2 rfl) ?_
    refine fk_ia S E G (x + 1) (by have := fk_Xlt hX; omega) (congrArg (fk_ce g ov (x + 1) (M (x + 1))) (fk_kx1 hX)) i rfl (by omega) (by decide) (v := nI 14) (by rw [hb i hok.1, hk]) d_K_ownClock_5 ?_
    refine lv_lookup (off := 79) (tgt := 85) S.1 S.2.1 d_K_ownClock_6 (by decide +kernel) (by decide +kernel) rfl ?_
    refine lv_aload_n S.1 S.2.1 d_K_ownClock_85 rfl (lv_at hl 1 rfl) ?_
    refine fk_gn S E G x (by have := fk_Xlt hX; omega) (v := .ref (fk_a g (x + 3))) (congrArg (fk_ce g ov x (M x)) (fk_kx0 hX)) rfl 2 (by decide) rfl (List.mem_of_getElem? (i := 6) rfl) rfl d_K_ownClock_86 ?_
    refine lv_iload_n S.1 S.2.1 d_K_ownClock_89 rfl (lv_at hl 2 rfl) ?_
    refine fk_ia S E G (x + 3) (by have := fk_Xlt hX; omega) (congrArg (fk_ce g ov (x + 3) (M (x + 3))) (fk_kx3 hX)) i rfl (by omega) (by decide) (v := M (x + 3) i) rfl d_K_ownClock_90 ?_
    exact fk_iret S hr hlk E G rfl (by rw [hk]; rfl) d_K_ownClock_91
  · refine lv_aload_n S.1 S.2.1 d_K_ownClock_0 rfl (lv_at hl 1 rfl) ?_
    refine fk_gn S E G x (by have := fk_Xlt hX; omega) (v := .ref (fk_a g (x + 1))) (congrArg (fk_ce g ov x (M x)) (fk_kx0 hX)) rfl 0 (by decide) rfl (List.mem_of_getElem? (i := 1) rfl) rfl d_K_ownClock_1 ?_
    refine lv_iload_n S.1 S.2.1 d_K_ownClock_4 rfl (lv_at hl 2 rfl) ?_
    refine fk_ia S E G (x + 1) (by have := fk_Xlt hX; omega) (congrArg (fk_ce g ov (x + 1) (M (x + 1))) (fk_kx1 hX)) i rfl (by omega) (by decide) (v := nI 15) (by rw [hb i hok.1, hk]) d_K_ownClock_5 ?_
    refine lv_lookup (off := 79) (tgt := 85) S.1 S.2.1 d_K_ownClock_6 (by decide +kernel) (by decide +kernel) rfl ?_
    refine lv_aload_n S.1 S.2.1 d_K_ownClock_85 rfl (lv_at hl 1 rfl) ?_
    refine fk_gn S E G x (by have := fk_Xlt hX; omega) (v := .ref (fk_a g (x + 3))) (congrArg (fk_ce g ov x (M x)) (fk_kx0 hX)) rfl 2 (by decide) rfl (List.mem_of_getElem? (i := 6) rfl) rfl d_K_ownClock_86 ?_
    refine lv_iload_n S.1 S.2.1 d_K_ownClock_89 rfl (lv_at hl 2 rfl) ?_
    refine fk_ia S E G (x + 3) (by have := fk_Xlt hX; omega) (congrArg (fk_ce g ov (x + 3) (M (x + 3))) (fk_kx3 hX)) i rfl (by omega) (by decide) (v := M (x + 3) i) rfl d_K_ownClock_90 ?_
    exact fk_iret S hr hlk E G rfl (by rw [hk]; rfl) d_K_ownClock_91
  · refine lv_aload_n S.1 S.2.1 d_K_ownClock_0 rfl (lv_at hl 1 rfl) ?_
    refine fk_gn S E G x (by have := fk_Xlt hX; omega) (v := .ref (fk_a g (x + 1))) (congrArg (fk_ce g ov x (M x)) (fk_kx0 hX)) rfl 0 (by decide) rfl (List.mem_of_getElem? (i := 1) rfl) rfl d_K_ownClock_1 ?_
    refine lv_iload_n S.1 S.2.1 d_K_ownClock_4 rfl (lv_at hl 2 rfl) ?_
    refine fk_ia S E G (x + 1) (by have := fk_Xlt hX; omega) (congrArg (fk_ce g ov (x + 1) (M (x + 1))) (fk_kx1 hX)) i rfl (by omega) (by decide) (v := nI 16) (by rw [hb i hok.1, hk]) d_K_ownClock_5 ?_
    refine lv_lookup (off := 59) (tgt := 65) S.1 S.2.1 d_K_ownClock_6 (by decide +kernel) (by decide +kernel) rfl ?_
    have hw := hok.2.2.2 (by omega)
    have hd2 := fk_hd2 (k := bf i) (by omega)
    have hlen := hok.2.2.1
    refine lv_aload_n S.1 S.2.1 d_K_ownClock_65 rfl (lv_at hl 1 rfl) ?_
    refine lv_iload_n S.1 S.2.1 d_K_ownClock_66 rfl (lv_at hl 2 rfl) ?_
    refine fk_cni S E G x (by have := fk_Xlt hX; omega) (congrArg (fk_ce g ov x (M x)) (fk_kx0 hX)) rfl (rest := []) (hb (i + 1) (by omega) ▸ c_E_named l g ov M x hX i (by omega)) m_E_named (List.mem_of_getElem? (i := 18) rfl) ⟨rfl, rfl⟩ ⟨by decide, by decide⟩ rfl rfl hl.1 (Nat.le_of_ble_eq_true rfl) d_K_ownClock_67 ⟨Nat.zero_le _, Nat.zero_le _⟩ (fun H locs G => ?_)
    refine lv_iconst (v := nI 1) S.1 S.2.1 d_K_ownClock_70 (by decide +kernel) ?_
    refine fk_cti S E G (rest := []) (show fk_CI _ _ _ _ _ _ _ _ _ _ _ (nI (2 * bf (i + 1) + 1)) from c_D_clockWhere l g ov M (bf (i + 1)) 1 (by decide)) m_D_clockWhere (List.mem_of_getElem? (i := 21) rfl) ⟨rfl, rfl⟩ ⟨by decide, by decide⟩ rfl rfl hl.1 (Nat.le_of_ble_eq_true rfl) d_K_ownClock_71 ⟨Nat.zero_le _, Nat.zero_le _⟩ (fun H locs G => ?_)
    exact fk_iret S hr hlk E G rfl (by rw [hk]; rfl) d_K_ownClock_74
  · refine lv_aload_n S.1 S.2.1 d_K_ownClock_0 rfl (lv_at hl 1 rfl) ?_
    refine fk_gn S E G x (by have := fk_Xlt hX; omega) (v := .ref (fk_a g (x + 1))) (congrArg (fk_ce g ov x (M x)) (fk_kx0 hX)) rfl 0 (by decide) rfl (List.mem_of_getElem? (i := 1) rfl) rfl d_K_ownClock_1 ?_
    refine lv_iload_n S.1 S.2.1 d_K_ownClock_4 rfl (lv_at hl 2 rfl) ?_
    refine fk_ia S E G (x + 1) (by have := fk_Xlt hX; omega) (congrArg (fk_ce g ov (x + 1) (M (x + 1))) (fk_kx1 hX)) i rfl (by omega) (by decide) (v := nI 17) (by rw [hb i hok.1, hk]) d_K_ownClock_5 ?_
    refine lv_lookup (off := 69) (tgt := 75) S.1 S.2.1 d_K_ownClock_6 (by decide +kernel) (by decide +kernel) rfl ?_
    have hw := hok.2.2.2 (by omega)
    have hd2 := fk_hd2 (k := bf i) (by omega)
    have hlen := hok.2.2.1
    refine lv_aload_n S.1 S.2.1 d_K_ownClock_75 rfl (lv_at hl 1 rfl) ?_
    refine lv_iload_n S.1 S.2.1 d_K_ownClock_76 rfl (lv_at hl 2 rfl) ?_
    refine fk_cni S E G x (by have := fk_Xlt hX; omega) (congrArg (fk_ce g ov x (M x)) (fk_kx0 hX)) rfl (rest := []) (hb (i + 1) (by omega) ▸ c_E_named l g ov M x hX i (by omega)) m_E_named (List.mem_of_getElem? (i := 18) rfl) ⟨rfl, rfl⟩ ⟨by decide, by decide⟩ rfl rfl hl.1 (Nat.le_of_ble_eq_true rfl) d_K_ownClock_77 ⟨Nat.zero_le _, Nat.zero_le _⟩ (fun H locs G => ?_)
    refine lv_iconst (v := nI 0) S.1 S.2.1 d_K_ownClock_80 (by decide +kernel) ?_
    refine fk_cti S E G (rest := []) (show fk_CI _ _ _ _ _ _ _ _ _ _ _ (nI (2 * bf (i + 1) + 2)) from c_D_clockWhere l g ov M (bf (i + 1)) 0 (by decide)) m_D_clockWhere (List.mem_of_getElem? (i := 21) rfl) ⟨rfl, rfl⟩ ⟨by decide, by decide⟩ rfl rfl hl.1 (Nat.le_of_ble_eq_true rfl) d_K_ownClock_81 ⟨Nat.zero_le _, Nat.zero_le _⟩ (fun H locs G => ?_)
    exact fk_iret S hr hlk E G rfl (by rw [hk]; rfl) d_K_ownClock_84
  · refine lv_aload_n S.1 S.2.1 d_K_ownClock_0 rfl (lv_at hl 1 rfl) ?_
    refine fk_gn S E G x (by have := fk_Xlt hX; omega) (v := .ref (fk_a g (x + 1))) (congrArg (fk_ce g ov x (M x)) (fk_kx0 hX)) rfl 0 (by decide) rfl (List.mem_of_getElem? (i := 1) rfl) rfl d_K_ownClock_1 ?_
    refine lv_iload_n S.1 S.2.1 d_K_ownClock_4 rfl (lv_at hl 2 rfl) ?_
    refine fk_ia S E G (x + 1) (by have := fk_Xlt hX; omega) (congrArg (fk_ce g ov (x + 1) (M (x + 1))) (fk_kx1 hX)) i rfl (by omega) (by decide) (v := nI 18) (by rw [hb i hok.1, hk]) d_K_ownClock_5 ?_
    refine lv_lookup (off := 42) (tgt := 48) S.1 S.2.1 d_K_ownClock_6 (by decide +kernel) (by decide +kernel) rfl ?_
    have hw := hok.2.2.2 (by omega)
    have hd2 := fk_hd2 (k := bf i) (by omega)
    have hlen := hok.2.2.1
    refine lv_aload_n S.1 S.2.1 d_K_ownClock_48 rfl (lv_at hl 0 rfl) ?_
    refine fk_gf S E G 79 (by decide) (v := .ref (fk_a g 1)) (congrArg (fk_ce g ov 79 (M 79)) kd_79) rfl 0 (by decide) rfl i_156 rfl d_K_ownClock_49 ?_
    refine fk_gn S E G 1 (by decide) (v := .ref (fk_a g 2)) (congrArg (fk_ce g ov 1 (M 1)) kd_1) rfl 0 (by decide) rfl (List.mem_of_getElem? (i := 37) rfl) rfl d_K_ownClock_52 ?_
    refine lv_aload_n S.1 S.2.1 d_K_ownClock_55 rfl (lv_at hl 1 rfl) ?_
    refine lv_iload_n S.1 S.2.1 d_K_ownClock_56 rfl (lv_at hl 2 rfl) ?_
    refine fk_cni S E G x (by have := fk_Xlt hX; omega) (congrArg (fk_ce g ov x (M x)) (fk_kx0 hX)) rfl (rest := [.ref (fk_a g 2)]) (hb (i + 1) (by omega) ▸ c_E_named l g ov M x hX i (by omega)) m_E_named (List.mem_of_getElem? (i := 18) rfl) ⟨rfl, rfl⟩ ⟨by decide, by decide⟩ rfl rfl hl.1 (Nat.le_of_ble_eq_true rfl) d_K_ownClock_57 ⟨Nat.zero_le _, Nat.zero_le _⟩ (fun H locs G => ?_)
    refine fk_rw S E G (bf (i + 1)) rfl (by omega) d_K_ownClock_60 ?_
    refine fk_gn S E G (3 + 6 * (bf (i + 1))) (by omega) (v := .int (M (3 + 6 * (bf (i + 1))) 3)) (congrArg (fk_ce g ov (3 + 6 * (bf (i + 1))) (M (3 + 6 * (bf (i + 1))))) (fk_kf (show bf (i + 1) < 12 by omega))) rfl 3 (by decide) rfl (List.mem_of_getElem? (i := 27) rfl) rfl d_K_ownClock_61 ?_
    rw [hck _ (by omega)]
    exact fk_iret S hr hlk E G rfl (by rw [hk]; rfl) d_K_ownClock_64
theorem d_K_clockOfPart_0 : decode b_K_clockOfPart 0 = .ok (.aload_n 1, 1) := by decide +kernel
theorem d_K_clockOfPart_1 : decode b_K_clockOfPart 1 = .ok (.getfield 117, 3) := by decide +kernel
theorem d_K_clockOfPart_4 : decode b_K_clockOfPart 4 = .ok (.iload_n 2, 1) := by decide +kernel
theorem d_K_clockOfPart_5 : decode b_K_clockOfPart 5 = .ok (.iaload, 1) := by decide +kernel
theorem d_K_clockOfPart_6 : decode b_K_clockOfPart 6 = .ok (.tableswitch 61 16 18 #[26, 26, 43], 26) := by decide +kernel
theorem d_K_clockOfPart_32 : decode b_K_clockOfPart 32 = .ok (.aload_n 0, 1) := by decide +kernel
theorem d_K_clockOfPart_33 : decode b_K_clockOfPart 33 = .ok (.getfield 26, 3) := by decide +kernel
theorem d_K_clockOfPart_36 : decode b_K_clockOfPart 36 = .ok (.getfield 62, 3) := by decide +kernel
theorem d_K_clockOfPart_39 : decode b_K_clockOfPart 39 = .ok (.aload_n 1, 1) := by decide +kernel
theorem d_K_clockOfPart_40 : decode b_K_clockOfPart 40 = .ok (.iload_n 2, 1) := by decide +kernel
theorem d_K_clockOfPart_41 : decode b_K_clockOfPart 41 = .ok (.invokevirtual 120, 3) := by decide +kernel
theorem d_K_clockOfPart_44 : decode b_K_clockOfPart 44 = .ok (.aaload, 1) := by decide +kernel
theorem d_K_clockOfPart_45 : decode b_K_clockOfPart 45 = .ok (.getfield 91, 3) := by decide +kernel
theorem d_K_clockOfPart_48 : decode b_K_clockOfPart 48 = .ok (.ireturn, 1) := by decide +kernel
theorem d_K_clockOfPart_49 : decode b_K_clockOfPart 49 = .ok (.aload_n 1, 1) := by decide +kernel
theorem d_K_clockOfPart_50 : decode b_K_clockOfPart 50 = .ok (.iload_n 2, 1) := by decide +kernel
theorem d_K_clockOfPart_51 : decode b_K_clockOfPart 51 = .ok (.invokevirtual 120, 3) := by decide +kernel
theorem d_K_clockOfPart_54 : decode b_K_clockOfPart 54 = .ok (.iload_n 3, 1) := by decide +kernel
theorem d_K_clockOfPart_55 : decode b_K_clockOfPart 55 = .ok (.ifCond .ne 7, 3) := by decide +kernel
theorem d_K_clockOfPart_58 : decode b_K_clockOfPart 58 = .ok (.iconst 1, 1) := by decide +kernel
theorem d_K_clockOfPart_59 : decode b_K_clockOfPart 59 = .ok (.goto 4, 3) := by decide +kernel
theorem d_K_clockOfPart_62 : decode b_K_clockOfPart 62 = .ok (.iconst 0, 1) := by decide +kernel
theorem d_K_clockOfPart_63 : decode b_K_clockOfPart 63 = .ok (.invokestatic 150, 3) := by decide +kernel
theorem d_K_clockOfPart_66 : decode b_K_clockOfPart 66 = .ok (.ireturn, 1) := by decide +kernel
theorem d_K_clockOfPart_67 : decode b_K_clockOfPart 67 = .ok (.aload_n 1, 1) := by decide +kernel
theorem d_K_clockOfPart_68 : decode b_K_clockOfPart 68 = .ok (.getfield 141, 3) := by decide +kernel
theorem d_K_clockOfPart_71 : decode b_K_clockOfPart 71 = .ok (.iload_n 2, 1) := by decide +kernel
theorem d_K_clockOfPart_72 : decode b_K_clockOfPart 72 = .ok (.iaload, 1) := by decide +kernel
theorem d_K_clockOfPart_73 : decode b_K_clockOfPart 73 = .ok (.ireturn, 1) := by decide +kernel
theorem m_K_clockOfPart : fk_MI y_K_clockOfPart b_K_clockOfPart 4 (some .int) 3 := ⟨i_327, i_326, fk_mp (q := (y_K_clockOfPart, 7)) (by decide +kernel), i_6, by decide +kernel⟩
set_option maxHeartbeats 4000000 in
set_option maxRecDepth 100000 in
theorem c_K_clockOfPart (l : Launch) (g : fk_G) (ov : Int64) (M : fk_M) (x : Nat) (hX : fk_X x) (bf : Nat → Nat) (n cnt : Nat) (hn40 : n ≤ 40) (h12 : cnt ≤ 12) (hb : ∀ j, j < n → M (x + 1) j = nI (bf j)) (i : Nat) (hok : fk_ok bf n cnt i) (ck : Nat → Nat) (hck : ∀ j, j < 12 → M (3 + 6 * j) 3 = nI (ck j)) (q : Nat) (hq : q < 4) : fk_CI l y_K_clockOfPart b_K_clockOfPart 4 (some .int) (fk_rm 1) g ov M M [.ref (fk_a g 79), .ref (fk_a g x), .int (nI i), .int (nI q)] (fk_cpt ck (bf i) (bf (i + 1)) q (M (x + 3) i)) := by
  refine fk_ofI rfl (Nat.le_of_ble_eq_true rfl) ?_
  intro p e s m args below meth c ls S hr hlk E G hl
  have hl : lv_has ls 4 [(0, .ref (fk_a g 79)), (1, .ref (fk_a g x)), (2, .int (nI i)), (3, .int (nI q))] := hl
  have hok2 := hok.2.1
  have hi := hok.1
  rcases (show bf i = 0 ∨ bf i = 1 ∨ bf i = 2 ∨ bf i = 3 ∨ bf i = 4 ∨ bf i = 5 ∨ bf i = 6 ∨ bf i = 7 ∨ bf i = 8 ∨ bf i = 9 ∨ bf i = 10 ∨ bf i = 11 ∨ bf i = 12 ∨ bf i = 13 ∨ bf i = 14 ∨ bf i = 15 ∨ bf i = 16 ∨ bf i = 17 ∨ bf i = 18 by omega) with hk | hk | hk | hk | hk | hk | hk | hk | hk | hk | hk | hk | hk | hk | hk | hk | hk | hk | hk
  · refine lv_aload_n S.1 S.2.1 d_K_clockOfPart_0 rfl (lv_at hl 1 rfl) ?_
    refine fk_gn S E G x (by have := fk_Xlt hX; omega) (v := .ref (fk_a g (x + 1))) (congrArg (fk_ce g ov x (M x)) (fk_kx0 hX)) rfl 0 (by decide) rfl (List.mem_of_getElem? (i := 1) rfl) rfl d_K_clockOfPart_1 ?_
    refine lv_iload_n S.1 S.2.1 d_K_clockOfPart_4 rfl (lv_at hl 2 rfl) ?_
    refine fk_ia S E G (x + 1) (by have := fk_Xlt hX; omega) (congrArg (fk_ce g ov (x + 1) (M (x + 1))) (fk_kx1 hX)) i rfl (by omega) (by decide) (v := nI 0) (by rw [hb i hok.1, hk]) d_K_clockOfPart_5 ?_
    refine lv_tableOut (tgt := 67) S.1 S.2.1 d_K_clockOfPart_6 (by decide +kernel) rfl ?_
    refine lv_aload_n S.1 S.2.1 d_K_clockOfPart_67 rfl (lv_at hl 1 rfl) ?_
    refine fk_gn S E G x (by have := fk_Xlt hX; omega) (v := .ref (fk_a g (x + 3))) (congrArg (fk_ce g ov x (M x)) (fk_kx0 hX)) rfl 2 (by decide) rfl (List.mem_of_getElem? (i := 6) rfl) rfl d_K_clockOfPart_68 ?_
    refine lv_iload_n S.1 S.2.1 d_K_clockOfPart_71 rfl (lv_at hl 2 rfl) ?_
    refine fk_ia S E G (x + 3) (by have := fk_Xlt hX; omega) (congrArg (fk_ce g ov (x + 3) (M (x + 3))) (fk_kx3 hX)) i rfl (by omega) (by decide) (v := M (x + 3) i) rfl d_K_clockOfPart_72 ?_
    exact fk_iret S hr hlk E G rfl (by rw [hk]; rfl) d_K_clockOfPart_73
  · refine lv_aload_n S.1 S.2.1 d_K_clockOfPart_0 rfl (lv_at hl 1 rfl) ?_
    refine fk_gn S E G x (by have := fk_Xlt hX; omega) (v := .ref (fk_a g (x + 1))) (congrArg (fk_ce g ov x (M x)) (fk_kx0 hX)) rfl 0 (by decide) rfl (List.mem_of_getElem? (i := 1) rfl) rfl d_K_clockOfPart_1 ?_
    refine lv_iload_n S.1 S.2.1 d_K_clockOfPart_4 rfl (lv_at hl 2 rfl) ?_
    refine fk_ia S E G (x + 1) (by have := fk_Xlt hX; omega) (congrArg (fk_ce g ov (x + 1) (M (x + 1))) (fk_kx1 hX)) i rfl (by omega) (by decide) (v := nI 1) (by rw [hb i hok.1, hk]) d_K_clockOfPart_5 ?_
    refine lv_tableOut (tgt := 67) S.1 S.2.1 d_K_clockOfPart_6 (by decide +kernel) rfl ?_
    refine lv_aload_n S.1 S.2.1 d_K_clockOfPart_67 rfl (lv_at hl 1 rfl) ?_
    refine fk_gn S E G x (by have := fk_Xlt hX; omega) (v := .ref (fk_a g (x + 3))) (congrArg (fk_ce g ov x (M x)) (fk_kx0 hX)) rfl 2 (by decide) rfl (List.mem_of_getElem? (i := 6) rfl) rfl d_K_clockOfPart_68 ?_
    refine lv_iload_n S.1 S.2.1 d_K_clockOfPart_71 rfl (lv_at hl 2 rfl) ?_
    refine fk_ia S E G (x + 3) (by have := fk_Xlt hX; omega) (congrArg (fk_ce g ov (x + 3) (M (x + 3))) (fk_kx3 hX)) i rfl (by omega) (by decide) (v := M (x + 3) i) rfl d_K_clockOfPart_72 ?_
    exact fk_iret S hr hlk E G rfl (by rw [hk]; rfl) d_K_clockOfPart_73
  · refine lv_aload_n S.1 S.2.1 d_K_clockOfPart_0 rfl (lv_at hl 1 rfl) ?_
    refine fk_gn S E G x (by have := fk_Xlt hX; omega) (v := .ref (fk_a g (x + 1))) (congrArg (fk_ce g ov x (M x)) (fk_kx0 hX)) rfl 0 (by decide) rfl (List.mem_of_getElem? (i := 1) rfl) rfl d_K_clockOfPart_1 ?_
    refine lv_iload_n S.1 S.2.1 d_K_clockOfPart_4 rfl (lv_at hl 2 rfl) ?_
    refine fk_ia S E G (x + 1) (by have := fk_Xlt hX; omega) (congrArg (fk_ce g ov (x + 1) (M (x + 1))) (fk_kx1 hX)) i rfl (by omega) (by decide) (v := nI 2) (by rw [hb i hok.1, hk]) d_K_clockOfPart_5 ?_
    refine lv_tableOut (tgt := 67) S.1 S.2.1 d_K_clockOfPart_6 (by decide +kernel) rfl ?_
    refine lv_aload_n S.1 S.2.1 d_K_clockOfPart_67 rfl (lv_at hl 1 rfl) ?_
    refine fk_gn S E G x (by have := fk_Xlt hX; omega) (v := .ref (fk_a g (x + 3))) (congrArg (fk_ce g ov x (M x)) (fk_kx0 hX)) rfl 2 (by decide) rfl (List.mem_of_getElem? (i := 6) rfl) rfl d_K_clockOfPart_68 ?_
    refine lv_iload_n S.1 S.2.1 d_K_clockOfPart_71 rfl (lv_at hl 2 rfl) ?_
    refine fk_ia S E G (x + 3) (by have := fk_Xlt hX; omega) (congrArg (fk_ce g ov (x + 3) (M (x + 3))) (fk_kx3 hX)) i rfl (by omega) (by decide) (v := M (x + 3) i) rfl d_K_clockOfPart_72 ?_
    exact fk_iret S hr hlk E G rfl (by rw [hk]; rfl) d_K_clockOfPart_73
  · refine lv_aload_n S.1 S.2.1 d_K_clockOfPart_0 rfl (lv_at hl 1 rfl) ?_
    refine fk_gn S E G x (by have := fk_Xlt hX; omega) (v := .ref (fk_a g (x + 1))) (congrArg (fk_ce g ov x (M x)) (fk_kx0 hX)) rfl 0 (by decide) rfl (List.mem_of_getElem? (i := 1) rfl) rfl d_K_clockOfPart_1 ?_
    refine lv_iload_n S.1 S.2.1 d_K_clockOfPart_4 rfl (lv_at hl 2 rfl) ?_
    refine fk_ia S E G (x + 1) (by have := fk_Xlt hX; omega) (congrArg (fk_ce g ov (x + 1) (M (x + 1))) (fk_kx1 hX)) i rfl (by omega) (by decide) (v := nI 3) (by rw [hb i hok.1, hk]) d_K_clockOfPart_5 ?_
    refine lv_tableOut (tgt := 67) S.1 S.2.1 d_K_clockOfPart_6 (by decide +kernel) rfl ?_
    refine lv_aload_n S.1 S.2.1 d_K_clockOfPart_67 rfl (lv_at hl 1 rfl) ?_
    refine fk_gn S E G x (by have := fk_Xlt hX; omega) (v := .ref (fk_a g (x + 3))) (congrArg (fk_ce g ov x (M x)) (fk_kx0 hX)) rfl 2 (by decide) rfl (List.mem_of_getElem? (i := 6) rfl) rfl d_K_clockOfPart_68 ?_
    refine lv_iload_n S.1 S.2.1 d_K_clockOfPart_71 rfl (lv_at hl 2 rfl) ?_
    refine fk_ia S E G (x + 3) (by have := fk_Xlt hX; omega) (congrArg (fk_ce g ov (x + 3) (M (x + 3))) (fk_kx3 hX)) i rfl (by omega) (by decide) (v := M (x + 3) i) rfl d_K_clockOfPart_72 ?_
    exact fk_iret S hr hlk E G rfl (by rw [hk]; rfl) d_K_clockOfPart_73
  · refine lv_aload_n S.1 S.2.1 d_K_clockOfPart_0 rfl (lv_at hl 1 rfl) ?_
    refine fk_gn S E G x (by have := fk_Xlt hX; omega) (v := .ref (fk_a g (x + 1))) (congrArg (fk_ce g ov x (M x)) (fk_kx0 hX)) rfl 0 (by decide) rfl (List.mem_of_getElem? (i := 1) rfl) rfl d_K_clockOfPart_1 ?_
    refine lv_iload_n S.1 S.2.1 d_K_clockOfPart_4 rfl (lv_at hl 2 rfl) ?_
    refine fk_ia S E G (x + 1) (by have := fk_Xlt hX; omega) (congrArg (fk_ce g ov (x + 1) (M (x + 1))) (fk_kx1 hX)) i rfl (by omega) (by decide) (v := nI 4) (by rw [hb i hok.1, hk]) d_K_clockOfPart_5 ?_
    refine lv_tableOut (tgt := 67) S.1 S.2.1 d_K_clockOfPart_6 (by decide +kernel) rfl ?_
    refine lv_aload_n S.1 S.2.1 d_K_clockOfPart_67 rfl (lv_at hl 1 rfl) ?_
    refine fk_gn S E G x (by have := fk_Xlt hX; omega) (v := .ref (fk_a g (x + 3))) (congrArg (fk_ce g ov x (M x)) (fk_kx0 hX)) rfl 2 (by decide) rfl (List.mem_of_getElem? (i := 6) rfl) rfl d_K_clockOfPart_68 ?_
    refine lv_iload_n S.1 S.2.1 d_K_clockOfPart_71 rfl (lv_at hl 2 rfl) ?_
    refine fk_ia S E G (x + 3) (by have := fk_Xlt hX; omega) (congrArg (fk_ce g ov (x + 3) (M (x + 3))) (fk_kx3 hX)) i rfl (by omega) (by decide) (v := M (x + 3) i) rfl d_K_clockOfPart_72 ?_
    exact fk_iret S hr hlk E G rfl (by rw [hk]; rfl) d_K_clockOfPart_73
  · refine lv_aload_n S.1 S.2.1 d_K_clockOfPart_0 rfl (lv_at hl 1 rfl) ?_
    refine fk_gn S E G x (by have := fk_Xlt hX; omega) (v := .ref (fk_a g (x + 1))) (congrArg (fk_ce g ov x (M x)) (fk_kx0 hX)) rfl 0 (by decide) rfl (List.mem_of_getElem? (i := 1) rfl) rfl d_K_clockOfPart_1 ?_
    refine lv_iload_n S.1 S.2.1 d_K_clockOfPart_4 rfl (lv_at hl 2 rfl) ?_
    refine fk_ia S E G (x + 1) (by have := fk_Xlt hX; omega) (congrArg (fk_ce g ov (x + 1) (M (x + 1))) (fk_kx1 hX)) i rfl (by omega) (by decide) (v := nI 5) (by rw [hb i hok.1, hk]) d_K_clockOfPart_5 ?_
    refine lv_tableOut (tgt := 67) S.1 S.2.1 d_K_clockOfPart_6 (by decide +kernel) rfl ?_
    refine lv_aload_n S.1 S.2.1 d_K_clockOfPart_67 rfl (lv_at hl 1 rfl) ?_
    refine fk_gn S E G x (by have := fk_Xlt hX; omega) (v := .ref (fk_a g (x + 3))) (congrArg (fk_ce g ov x (M x)) (fk_kx0 hX)) rfl 2 (by decide) rfl (List.mem_of_getElem? (i := 6) rfl) rfl d_K_clockOfPart_68 ?_
    refine lv_iload_n S.1 S.2.1 d_K_clockOfPart_71 rfl (lv_at hl 2 rfl) ?_
    refine fk_ia S E G (x + 3) (by have := fk_Xlt hX; omega) (congrArg (fk_ce g ov (x + 3) (M (x + 3))) (fk_kx3 hX)) i rfl (by omega) (by decide) (v := M (x + 3) i) rfl d_K_clockOfPart_72 ?_
    exact fk_iret S hr hlk E G rfl (by rw [hk]; rfl) d_K_clockOfPart_73
  · refine lv_aload_n S.1 S.2.1 d_K_clockOfPart_0 rfl (lv_at hl 1 rfl) ?_
    refine fk_gn S E G x (by have := fk_Xlt hX; omega) (v := .ref (fk_a g (x + 1))) (congrArg (fk_ce g ov x (M x)) (fk_kx0 hX)) rfl 0 (by decide) rfl (List.mem_of_getElem? (i := 1) rfl) rfl d_K_clockOfPart_1 ?_
    refine lv_iload_n S.1 S.2.1 d_K_clockOfPart_4 rfl (lv_at hl 2 rfl) ?_
    refine fk_ia S E G (x + 1) (by have := fk_Xlt hX; omega) (congrArg (fk_ce g ov (x + 1) (M (x + 1))) (fk_kx1 hX)) i rfl (by omega) (by decide) (v := nI 6) (by rw [hb i hok.1, hk]) d_K_clockOfPart_5 ?_
    refine lv_tableOut (tgt := 67) S.1 S.2.1 d_K_clockOfPart_6 (by decide +kernel) rfl ?_
    refine lv_aload_n S.1 S.2.1 d_K_clockOfPart_67 rfl (lv_at hl 1 rfl) ?_
    refine fk_gn S E G x (by have := fk_Xlt hX; omega) (v := .ref (fk_a g (x + 3))) (congrArg (fk_ce g ov x (M x)) (fk_kx0 hX)) rfl 2 (by decide) rfl (List.mem_of_getElem? (i := 6) rfl) rfl d_K_clockOfPart_68 ?_
    refine lv_iload_n S.1 S.2.1 d_K_clockOfPart_71 rfl (lv_at hl 2 rfl) ?_
    refine fk_ia S E G (x + 3) (by have := fk_Xlt hX; omega) (congrArg (fk_ce g ov (x + 3) (M (x + 3))) (fk_kx3 hX)) i rfl (by omega) (by decide) (v := M (x + 3) i) rfl d_K_clockOfPart_72 ?_
    exact fk_iret S hr hlk E G rfl (by rw [hk]; rfl) d_K_clockOfPart_73
  · refine lv_aload_n S.1 S.2.1 d_K_clockOfPart_0 rfl (lv_at hl 1 rfl) ?_
    refine fk_gn S E G x (by have := fk_Xlt hX; omega) (v := .ref (fk_a g (x + 1))) (congrArg (fk_ce g ov x (M x)) (fk_kx0 hX)) rfl 0 (by decide) rfl (List.mem_of_getElem? (i := 1) rfl) rfl d_K_clockOfPart_1 ?_
    refine lv_iload_n S.1 S.2.1 d_K_clockOfPart_4 rfl (lv_at hl 2 rfl) ?_
    refine fk_ia S E G (x + 1) (by have := fk_Xlt hX; omega) (congrArg (fk_ce g ov (x + 1) (M (x + 1))) (fk_kx1 hX)) i rfl (by omega) (by decide) (v := nI 7) (by rw [hb i hok.1, hk]) d_K_clockOfPart_5 ?_
    refine lv_tableOut (tgt := 67) S.1 S.2.1 d_K_clockOfPart_6 (by decide +kernel) rfl ?_
    refine lv_aload_n S.1 S.2.1 d_K_clockOfPart_67 rfl (lv_at hl 1 rfl) ?_
    refine fk_gn S E G x (by have := fk_Xlt hX; omega) (v := .ref (fk_a g (x + 3))) (congrArg (fk_ce g ov x (M x)) (fk_kx0 hX)) rfl 2 (by decide) rfl (List.mem_of_getElem? (i := 6) rfl) rfl d_K_clockOfPart_68 ?_
    refine lv_iload_n S.1 S.2.1 d_K_clockOfPart_71 rfl (lv_at hl 2 rfl) ?_
    refine fk_ia S E G (x + 3) (by have := fk_Xlt hX; omega) (congrArg (fk_ce g ov (x + 3) (M (x + 3))) (fk_kx3 hX)) i rfl (by omega) (by decide) (v := M (x + 3) i) rfl d_K_clockOfPart_72 ?_
    exact fk_iret S hr hlk E G rfl (by rw [hk]; rfl) d_K_clockOfPart_73
  · refine lv_aload_n S.1 S.2.1 d_K_clockOfPart_0 rfl (lv_at hl 1 rfl) ?_
    refine fk_gn S E G x (by have := fk_Xlt hX; omega) (v := .ref (fk_a g (x + 1))) (congrArg (fk_ce g ov x (M x)) (fk_kx0 hX)) rfl 0 (by decide) rfl (List.mem_of_getElem? (i := 1) rfl) rfl d_K_clockOfPart_1 ?_
    refine lv_iload_n S.1 S.2.1 d_K_clockOfPart_4 rfl (lv_at hl 2 rfl) ?_
    refine fk_ia S E G (x + 1) (by have := fk_Xlt hX; omega) (congrArg (fk_ce g ov (x + 1) (M (x + 1))) (fk_kx1 hX)) i rfl (by omega) (by decide) (v := nI 8) (by rw [hb i hok.1, hk]) d_K_clockOfPart_5 ?_
    refine lv_tableOut (tgt := 67) S.1 S.2.1 d_K_clockOfPart_6 (by decide +kernel) rfl ?_
    refine lv_aload_n S.1 S.2.1 d_K_clockOfPart_67 rfl (lv_at hl 1 rfl) ?_
    refine fk_gn S E G x (by have := fk_Xlt hX; omega) (v := .ref (fk_a g (x + 3))) (congrArg (fk_ce g ov x (M x)) (fk_kx0 hX)) rfl 2 (by decide) rfl (List.mem_of_getElem? (i := 6) rfl) rfl d_K_clockOfPart_68 ?_
    refine lv_iload_n S.1 S.2.1 d_K_clockOfPart_71 rfl (lv_at hl 2 rfl) ?_
    refine fk_ia S E G (x + 3) (by have := fk_Xlt hX; omega) (congrArg (fk_ce g ov (x + 3) (M (x + 3))) (fk_kx3 hX)) i rfl (by omega) (by decide) (v := M (x + 3) i) rfl d_K_clockOfPart_72 ?_
    exact fk_iret S hr hlk E G rfl (by rw [hk]; rfl) d_K_clockOfPart_73
  · refine lv_aload_n S.1 S.2.1 d_K_clockOfPart_0 rfl (lv_at hl 1 rfl) ?_
    refine fk_gn S E G x (by have := fk_Xlt hX; omega) (v := .ref (fk_a g (x + 1))) (congrArg (fk_ce g ov x (M x)) (fk_kx0 hX)) rfl 0 (by decide) rfl (List.mem_of_getElem? (i := 1) rfl) rfl d_K_clockOfPart_1 ?_
    refine lv_iload_n S.1 S.2.1 d_K_clockOfPart_4 rfl (lv_at hl 2 rfl) ?_
    refine fk_ia S E G (x + 1) (by have := fk_Xlt hX; omega) (congrArg (fk_ce g ov (x + 1) (M (x + 1))) (fk_kx1 hX)) i rfl (by omega) (by decide) (v := nI 9) (by rw [hb i hok.1, hk]) d_K_clockOfPart_5 ?_
    refine lv_tableOut (tgt := 67) S.1 S.2.1 d_K_clockOfPart_6 (by decide +kernel) rfl ?_
    refine lv_aload_n S.1 S.2.1 d_K_clockOfPart_67 rfl (lv_at hl 1 rfl) ?_
    refine fk_gn S E G x (by have := fk_Xlt hX; omega) (v := .ref (fk_a g (x + 3))) (congrArg (fk_ce g ov x (M x)) (fk_kx0 hX)) rfl 2 (by decide) rfl (List.mem_of_getElem? (i := 6) rfl) rfl d_K_clockOfPart_68 ?_
    refine lv_iload_n S.1 S.2.1 d_K_clockOfPart_71 rfl (lv_at hl 2 rfl) ?_
    refine fk_ia S E G (x + 3) (by have := fk_Xlt hX; omega) (congrArg (fk_ce g ov (x + 3) (M (x + 3))) (fk_kx3 hX)) i rfl (by omega) (by decide) (v := M (x + 3) i) rfl d_K_clockOfPart_72 ?_
    exact fk_iret S hr hlk E G rfl (by rw [hk]; rfl) d_K_clockOfPart_73
  · refine lv_aload_n S.1 S.2.1 d_K_clockOfPart_0 rfl (lv_at hl 1 rfl) ?_
    refine fk_gn S E G x (by have := fk_Xlt hX; omega) (v := .ref (fk_a g (x + 1))) (congrArg (fk_ce g ov x (M x)) (fk_kx0 hX)) rfl 0 (by decide) rfl (List.mem_of_getElem? (i := 1) rfl) rfl d_K_clockOfPart_1 ?_
    refine lv_iload_n S.1 S.2.1 d_K_clockOfPart_4 rfl (lv_at hl 2 rfl) ?_
    refine fk_ia S E G (x + 1) (by have := fk_Xlt hX; omega) (congrArg (fk_ce g ov (x + 1) (M (x + 1))) (fk_kx1 hX)) i rfl (by omega) (by decide) (v := nI 10) (by rw [hb i hok.1, hk]) d_K_clockOfPart_5 ?_
    refine lv_tableOut (tgt := 67) S.1 S.2.1 d_K_clockOfPart_6 (by decide +kernel) rfl ?_
    refine lv_aload_n S.1 S.2.1 d_K_clockOfPart_67 rfl (lv_at hl 1 rfl) ?_
    refine fk_gn S E G x (by have := fk_Xlt hX; omega) (v := .ref (fk_a g (x + 3))) (congrArg (fk_ce g ov x (M x)) (fk_kx0 hX)) rfl 2 (by decide) rfl (List.mem_of_getElem? (i := 6) rfl) rfl d_K_clockOfPart_68 ?_
    refine lv_iload_n S.1 S.2.1 d_K_clockOfPart_71 rfl (lv_at hl 2 rfl) ?_
    refine fk_ia S E G (x + 3) (by have := fk_Xlt hX; omega) (congrArg (fk_ce g ov (x + 3) (M (x + 3))) (fk_kx3 hX)) i rfl (by omega) (by decide) (v := M (x + 3) i) rfl d_K_clockOfPart_72 ?_
    exact fk_iret S hr hlk E G rfl (by rw [hk]; rfl) d_K_clockOfPart_73
  · refine lv_aload_n S.1 S.2.1 d_K_clockOfPart_0 rfl (lv_at hl 1 rfl) ?_
    refine fk_gn S E G x (by have := fk_Xlt hX; omega) (v := .ref (fk_a g (x + 1))) (congrArg (fk_ce g ov x (M x)) (fk_kx0 hX)) rfl 0 (by decide) rfl (List.mem_of_getElem? (i := 1) rfl) rfl d_K_clockOfPart_1 ?_
    refine lv_iload_n S.1 S.2.1 d_K_clockOfPart_4 rfl (lv_at hl 2 rfl) ?_
    refine fk_ia S E G (x + 1) (by have := fk_Xlt hX; omega) (congrArg (fk_ce g ov (x + 1) (M (x + 1))) (fk_kx1 hX)) i rfl (by omega) (by decide) (v := nI 11) (by rw [hb i hok.1, hk]) d_K_clockOfPart_5 ?_
    refine lv_tableOut (tgt := 67) S.1 S.2.1 d_K_clockOfPart_6 (by decide +kernel) rfl ?_
    refine lv_aload_n S.1 S.2.1 d_K_clockOfPart_67 rfl (lv_at hl 1 rfl) ?_
    refine fk_gn S E G x (by have := fk_Xlt hX; omega) (v := .ref (fk_a g (x + 3))) (congrArg (fk_ce g ov x (M x)) (fk_kx0 hX)) rfl 2 (by decide) rfl (List.mem_of_getElem? (i := 6) rfl) rfl d_K_clockOfPart_68 ?_
    refine lv_iload_n S.1 S.2.1 d_K_clockOfPart_71 rfl (lv_at hl 2 rfl) ?_
    refine fk_ia S E G (x + 3) (by have := fk_Xlt hX; omega) (congrArg (fk_ce g ov (x + 3) (M (x + 3))) (fk_kx3 hX)) i rfl (by omega) (by decide) (v := M (x + 3) i) rfl d_K_clockOfPart_72 ?_
    exact fk_iret S hr hlk E G rfl (by rw [hk]; rfl) d_K_clockOfPart_73
  · refine lv_aload_n S.1 S.2.1 d_K_clockOfPart_0 rfl (lv_at hl 1 rfl) ?_
    refine fk_gn S E G x (by have := fk_Xlt hX; omega) (v := .ref (fk_a g (x + 1))) (congrArg (fk_ce g ov x (M x)) (fk_kx0 hX)) rfl 0 (by decide) rfl (List.mem_of_getElem? (i := 1) rfl) rfl d_K_clockOfPart_1 ?_
    refine lv_iload_n S.1 S.2.1 d_K_clockOfPart_4 rfl (lv_at hl 2 rfl) ?_
    refine fk_ia S E G (x + 1) (by have := fk_Xlt hX; omega) (congrArg (fk_ce g ov (x + 1) (M (x + 1))) (fk_kx1 hX)) i rfl (by omega) (by decide) (v := nI 12) (by rw [hb i hok.1, hk]) d_K_clockOfPart_5 ?_
    refine lv_tableOut (tgt := 67) S.1 S.2.1 d_K_clockOfPart_6 (by decide +kernel) rfl ?_
    refine lv_aload_n S.1 S.2.1 d_K_clockOfPart_67 rfl (lv_at hl 1 rfl) ?_
    refine fk_gn S E G x (by have := fk_Xlt hX; omega) (v := .ref (fk_a g (x + 3))) (congrArg (fk_ce g ov x (M x)) (fk_kx0 hX)) rfl 2 (by decide) rfl (List.mem_of_getElem? (i := 6) rfl) rfl d_K_clockOfPart_68 ?_
    refine lv_iload_n S.1 S.2.1 d_K_clockOfPart_71 rfl (lv_at hl 2 rfl) ?_
    refine fk_ia S E G (x + 3) (by have := fk_Xlt hX; omega) (congrArg (fk_ce g ov (x + 3) (M (x + 3))) (fk_kx3 hX)) i rfl (by omega) (by decide) (v := M (x + 3) i) rfl d_K_clockOfPart_72 ?_
    exact fk_iret S hr hlk E G rfl (by rw [hk]; rfl) d_K_clockOfPart_73
  · refine lv_aload_n S.1 S.2.1 d_K_clockOfPart_0 rfl (lv_at hl 1 rfl) ?_
    refine fk_gn S E G x (by have := fk_Xlt hX; omega) (v := .ref (fk_a g (x + 1))) (congrArg (fk_ce g ov x (M x)) (fk_kx0 hX)) rfl 0 (by decide) rfl (List.mem_of_getElem? (i := 1) rfl) rfl d_K_clockOfPart_1 ?_
    refine lv_iload_n S.1 S.2.1 d_K_clockOfPart_4 rfl (lv_at hl 2 rfl) ?_
    refine fk_ia S E G (x + 1) (by have := fk_Xlt hX; omega) (congrArg (fk_ce g ov (x + 1) (M (x + 1))) (fk_kx1 hX)) i rfl (by omega) (by decide) (v := nI 13) (by rw [hb i hok.1, hk]) d_K_clockOfPart_5 ?_
    refine lv_tableOut (tgt := 67) S.1 S.2.1 d_K_clockOfPart_6 (by decide +kernel) rfl ?_
    refine lv_aload_n S.1 S.2.1 d_K_clockOfPart_67 rfl (lv_at hl 1 rfl) ?_
    refine fk_gn S E G x (by have := fk_Xlt hX; omega) (v := .ref (fk_a g (x + 3))) (congrArg (fk_ce g ov x (M x)) (fk_kx0 hX)) rfl 2 (by decide) rfl (List.mem_of_getElem? (i := 6) rfl) rfl d_K_clockOfPart_68 ?_
    refine lv_iload_n S.1 S.2.1 d_K_clockOfPart_71 rfl (lv_at hl 2 rfl) ?_
    refine fk_ia S E G (x + 3) (by have := fk_Xlt hX; omega) (congrArg (fk_ce g ov (x + 3) (M (x + 3))) (fk_kx3 hX)) i rfl (by omega) (by decide) (v := M (x + 3) i) rfl d_K_clockOfPart_72 ?_
    exact fk_iret S hr hlk E G rfl (by rw [hk]; rfl) d_K_clockOfPart_73
  · refine lv_aload_n S.1 S.2.1 d_K_clockOfPart_0 rfl (lv_at hl 1 rfl) ?_
    refine fk_gn S E G x (by have := fk_Xlt hX; omega) (v := .ref (fk_a g (x + 1))) (congrArg (fk_ce g ov x (M x)) (fk_kx0 hX)) rfl 0 (by decide) rfl (List.mem_of_getElem? (i := 1) rfl) rfl d_K_clockOfPart_1 ?_
    refine lv_iload_n S.1 S.2.1 d_K_clockOfPart_4 rfl (lv_at hl 2 rfl) ?_
    refine fk_ia S E G (x + 1) (by have := fk_Xlt hX; omega) (congrArg (fk_ce g ov (x + 1) (M (x + 1))) (fk_kx1 hX)) i rfl (by omega) (by decide) (v := nI 14) (by rw [hb i hok.1, hk]) d_K_clockOfPart_5 ?_
    refine lv_tableOut (tgt := 67) S.1 S.2.1 d_K_clockOfPart_6 (by decide +kernel) rfl ?_
    refine lv_aload_n S.1 S.2.1 d_K_clockOfPart_67 rfl (lv_at hl 1 rfl) ?_
    refine fk_gn S E G x (by have := fk_Xlt hX; omega) (v := .ref (fk_a g (x + 3))) (congrArg (fk_ce g ov x (M x)) (fk_kx0 hX)) rfl 2 (by decide) rfl (List.mem_of_getElem? (i := 6) rfl) rfl d_K_clockOfPart_68 ?_
    refine lv_iload_n S.1 S.2.1 d_K_clockOfPart_71 rfl (lv_at hl 2 rfl) ?_
    refine fk_ia S E G (x + 3) (by have := fk_Xlt hX; omega) (congrArg (fk_ce g ov (x + 3) (M (x + 3))) (fk_kx3 hX)) i rfl (by omega) (by decide) (v := M (x + 3) i) rfl d_K_clockOfPart_72 ?_
    exact fk_iret S hr hlk E G rfl (by rw [hk]; rfl) d_K_clockOfPart_73
  · refine lv_aload_n S.1 S.2.1 d_K_clockOfPart_0 rfl (lv_at hl 1 rfl) ?_
    refine fk_gn S E G x (by have := fk_Xlt hX; omega) (v := .ref (fk_a g (x + 1))) (congrArg (fk_ce g ov x (M x)) (fk_kx0 hX)) rfl 0 (by decide) rfl (List.mem_of_getElem? (i := 1) rfl) rfl d_K_clockOfPart_1 ?_
    refine lv_iload_n S.1 S.2.1 d_K_clockOfPart_4 rfl (lv_at hl 2 rfl) ?_
    refine fk_ia S E G (x + 1) (by have := fk_Xlt hX; omega) (congrArg (fk_ce g ov (x + 1) (M (x + 1))) (fk_kx1 hX)) i rfl (by omega) (by decide) (v := nI 15) (by rw [hb i hok.1, hk]) d_K_clockOfPart_5 ?_
    refine lv_tableOut (tgt := 67) S.1 S.2.1 d_K_clockOfPart_6 (by decide +kernel) rfl ?_
    refine lv_aload_n S.1 S.2.1 d_K_clockOfPart_67 rfl (lv_at hl 1 rfl) ?_
    refine fk_gn S E G x (by have := fk_Xlt hX; omega) (v := .ref (fk_a g (x + 3))) (congrArg (fk_ce g ov x (M x)) (fk_kx0 hX)) rfl 2 (by decide) rfl (List.mem_of_getElem? (i := 6) rfl) rfl d_K_clockOfPart_68 ?_
    refine lv_iload_n S.1 S.2.1 d_K_clockOfPart_71 rfl (lv_at hl 2 rfl) ?_
    refine fk_ia S E G (x + 3) (by have := fk_Xlt hX; omega) (congrArg (fk_ce g ov (x + 3) (M (x + 3))) (fk_kx3 hX)) i rfl (by omega) (by decide) (v := M (x + 3) i) rfl d_K_clockOfPart_72 ?_
    exact fk_iret S hr hlk E G rfl (by rw [hk]; rfl) d_K_clockOfPart_73
  · refine lv_aload_n S.1 S.2.1 d_K_clockOfPart_0 rfl (lv_at hl 1 rfl) ?_
    refine fk_gn S E G x (by have := fk_Xlt hX; omega) (v := .ref (fk_a g (x + 1))) (congrArg (fk_ce g ov x (M x)) (fk_kx0 hX)) rfl 0 (by decide) rfl (List.mem_of_getElem? (i := 1) rfl) rfl d_K_clockOfPart_1 ?_
    refine lv_iload_n S.1 S.2.1 d_K_clockOfPart_4 rfl (lv_at hl 2 rfl) ?_
    refine fk_ia S E G (x + 1) (by have := fk_Xlt hX; omega) (congrArg (fk_ce g ov (x + 1) (M (x + 1))) (fk_kx1 hX)) i rfl (by omega) (by decide) (v := nI 16) (by rw [hb i hok.1, hk]) d_K_clockOfPart_5 ?_
    refine lv_tableIn (off := 26) (tgt := 32) S.1 S.2.1 d_K_clockOfPart_6 (by decide +kernel) (by decide +kernel) (by decide +kernel) rfl ?_
    have hw := hok.2.2.2 (by omega)
    have hd2 := fk_hd2 (k := bf i) (by omega)
    have hlen := hok.2.2.1
    refine lv_aload_n S.1 S.2.1 d_K_clockOfPart_32 rfl (lv_at hl 0 rfl) ?_
    refine fk_gf S E G 79 (by decide) (v := .ref (fk_a g 1)) (congrArg (fk_ce g ov 79 (M 79)) kd_79) rfl 0 (by decide) rfl i_156 rfl d_K_clockOfPart_33 ?_
    refine fk_gn S E G 1 (by decide) (v := .ref (fk_a g 2)) (congrArg (fk_ce g ov 1 (M 1)) kd_1) rfl 0 (by decide) rfl (List.mem_of_getElem? (i := 37) rfl) rfl d_K_clockOfPart_36 ?_
    refine lv_aload_n S.1 S.2.1 d_K_clockOfPart_39 rfl (lv_at hl 1 rfl) ?_
    refine lv_iload_n S.1 S.2.1 d_K_clockOfPart_40 rfl (lv_at hl 2 rfl) ?_
    refine fk_cni S E G x (by have := fk_Xlt hX; omega) (congrArg (fk_ce g ov x (M x)) (fk_kx0 hX)) rfl (rest := [.ref (fk_a g 2)]) (hb (i + 1) (by omega) ▸ c_E_named l g ov M x hX i (by omega)) m_E_named (List.mem_of_getElem? (i := 18) rfl) ⟨rfl, rfl⟩ ⟨by decide, by decide⟩ rfl rfl hl.1 (Nat.le_of_ble_eq_true rfl) d_K_clockOfPart_41 ⟨Nat.zero_le _, Nat.zero_le _⟩ (fun H locs G => ?_)
    refine fk_rw S E G (bf (i + 1)) rfl (by omega) d_K_clockOfPart_44 ?_
    refine fk_gn S E G (3 + 6 * (bf (i + 1))) (by omega) (v := .int (M (3 + 6 * (bf (i + 1))) 3)) (congrArg (fk_ce g ov (3 + 6 * (bf (i + 1))) (M (3 + 6 * (bf (i + 1))))) (fk_kf (show bf (i + 1) < 12 by omega))) rfl 3 (by decide) rfl (List.mem_of_getElem? (i := 27) rfl) rfl d_K_clockOfPart_45 ?_
    rw [hck _ (by omega)]
    exact fk_iret S hr hlk E G rfl (by rw [hk]; rfl) d_K_clockOfPart_48
  · refine lv_aload_n S.1 S.2.1 d_K_clockOfPart_0 rfl (lv_at hl 1 rfl) ?_
    refine fk_gn S E G x (by have := fk_Xlt hX; omega) (v := .ref (fk_a g (x + 1))) (congrArg (fk_ce g ov x (M x)) (fk_kx0 hX)) rfl 0 (by decide) rfl (List.mem_of_getElem? (i := 1) rfl) rfl d_K_clockOfPart_1 ?_
    refine lv_iload_n S.1 S.2.1 d_K_clockOfPart_4 rfl (lv_at hl 2 rfl) ?_
    refine fk_ia S E G (x + 1) (by have := fk_Xlt hX; omega) (congrArg (fk_ce g ov (x + 1) (M (x + 1))) (fk_kx1 hX)) i rfl (by omega) (by decide) (v := nI 17) (by rw [hb i hok.1, hk]) d_K_clockOfPart_5 ?_
    refine lv_tableIn (off := 26) (tgt := 32) S.1 S.2.1 d_K_clockOfPart_6 (by decide +kernel) (by decide +kernel) (by decide +kernel) rfl ?_
    have hw := hok.2.2.2 (by omega)
    have hd2 := fk_hd2 (k := bf i) (by omega)
    have hlen := hok.2.2.1
    refine lv_aload_n S.1 S.2.1 d_K_clockOfPart_32 rfl (lv_at hl 0 rfl) ?_
    refine fk_gf S E G 79 (by decide) (v := .ref (fk_a g 1)) (congrArg (fk_ce g ov 79 (M 79)) kd_79) rfl 0 (by decide) rfl i_156 rfl d_K_clockOfPart_33 ?_
    refine fk_gn S E G 1 (by decide) (v := .ref (fk_a g 2)) (congrArg (fk_ce g ov 1 (M 1)) kd_1) rfl 0 (by decide) rfl (List.mem_of_getElem? (i := 37) rfl) rfl d_K_clockOfPart_36 ?_
    refine lv_aload_n S.1 S.2.1 d_K_clockOfPart_39 rfl (lv_at hl 1 rfl) ?_
    refine lv_iload_n S.1 S.2.1 d_K_clockOfPart_40 rfl (lv_at hl 2 rfl) ?_
    refine fk_cni S E G x (by have := fk_Xlt hX; omega) (congrArg (fk_ce g ov x (M x)) (fk_kx0 hX)) rfl (rest := [.ref (fk_a g 2)]) (hb (i + 1) (by omega) ▸ c_E_named l g ov M x hX i (by omega)) m_E_named (List.mem_of_getElem? (i := 18) rfl) ⟨rfl, rfl⟩ ⟨by decide, by decide⟩ rfl rfl hl.1 (Nat.le_of_ble_eq_true rfl) d_K_clockOfPart_41 ⟨Nat.zero_le _, Nat.zero_le _⟩ (fun H locs G => ?_)
    refine fk_rw S E G (bf (i + 1)) rfl (by omega) d_K_clockOfPart_44 ?_
    refine fk_gn S E G (3 + 6 * (bf (i + 1))) (by omega) (v := .int (M (3 + 6 * (bf (i + 1))) 3)) (congrArg (fk_ce g ov (3 + 6 * (bf (i + 1))) (M (3 + 6 * (bf (i + 1))))) (fk_kf (show bf (i + 1) < 12 by omega))) rfl 3 (by decide) rfl (List.mem_of_getElem? (i := 27) rfl) rfl d_K_clockOfPart_45 ?_
    rw [hck _ (by omega)]
    exact fk_iret S hr hlk E G rfl (by rw [hk]; rfl) d_K_clockOfPart_48
  · refine lv_aload_n S.1 S.2.1 d_K_clockOfPart_0 rfl (lv_at hl 1 rfl) ?_
    refine fk_gn S E G x (by have := fk_Xlt hX; omega) (v := .ref (fk_a g (x + 1))) (congrArg (fk_ce g ov x (M x)) (fk_kx0 hX)) rfl 0 (by decide) rfl (List.mem_of_getElem? (i := 1) rfl) rfl d_K_clockOfPart_1 ?_
    refine lv_iload_n S.1 S.2.1 d_K_clockOfPart_4 rfl (lv_at hl 2 rfl) ?_
    refine fk_ia S E G (x + 1) (by have := fk_Xlt hX; omega) (congrArg (fk_ce g ov (x + 1) (M (x + 1))) (fk_kx1 hX)) i rfl (by omega) (by decide) (v := nI 18) (by rw [hb i hok.1, hk]) d_K_clockOfPart_5 ?_
    refine lv_tableIn (off := 43) (tgt := 49) S.1 S.2.1 d_K_clockOfPart_6 (by decide +kernel) (by decide +kernel) (by decide +kernel) rfl ?_
    have hw := hok.2.2.2 (by omega)
    have hd2 := fk_hd2 (k := bf i) (by omega)
    have hlen := hok.2.2.1
    refine lv_aload_n S.1 S.2.1 d_K_clockOfPart_49 rfl (lv_at hl 1 rfl) ?_
    refine lv_iload_n S.1 S.2.1 d_K_clockOfPart_50 rfl (lv_at hl 2 rfl) ?_
    refine fk_cni S E G x (by have := fk_Xlt hX; omega) (congrArg (fk_ce g ov x (M x)) (fk_kx0 hX)) rfl (rest := []) (hb (i + 1) (by omega) ▸ c_E_named l g ov M x hX i (by omega)) m_E_named (List.mem_of_getElem? (i := 18) rfl) ⟨rfl, rfl⟩ ⟨by decide, by decide⟩ rfl rfl hl.1 (Nat.le_of_ble_eq_true rfl) d_K_clockOfPart_51 ⟨Nat.zero_le _, Nat.zero_le _⟩ (fun H locs G => ?_)
    refine lv_iload_n S.1 S.2.1 d_K_clockOfPart_54 rfl (lv_at hl 3 rfl) ?_
    refine fk_zne (tgt := 62) S.1 S.2.1 (by omega) d_K_clockOfPart_55 rfl (fun hc1 => ?_) (fun hc1 => ?_)
    · refine lv_iconst (v := nI 0) S.1 S.2.1 d_K_clockOfPart_62 (by decide +kernel) ?_
      refine fk_cti S E G (rest := []) (show fk_CI _ _ _ _ _ _ _ _ _ _ _ (nI (2 * bf (i + 1) + 2)) from c_D_clockWhere l g ov M (bf (i + 1)) 0 (by decide)) m_D_clockWhere (List.mem_of_getElem? (i := 21) rfl) ⟨rfl, rfl⟩ ⟨by decide, by decide⟩ rfl rfl hl.1 (Nat.le_of_ble_eq_true rfl) d_K_clockOfPart_63 ⟨Nat.zero_le _, Nat.zero_le _⟩ (fun H locs G => ?_)
      exact fk_iret S hr hlk E G rfl (by rw [hk]; show _ = nI (2 * bf (i + 1) + if q = 0 then 1 else 2); rw [if_neg (by omega)]) d_K_clockOfPart_66
    · refine lv_iconst (v := nI 1) S.1 S.2.1 d_K_clockOfPart_58 (by decide +kernel) ?_
      refine lv_goto (tgt := 63) S.1 S.2.1 d_K_clockOfPart_59 rfl ?_
      refine fk_cti S E G (rest := []) (show fk_CI _ _ _ _ _ _ _ _ _ _ _ (nI (2 * bf (i + 1) + 1)) from c_D_clockWhere l g ov M (bf (i + 1)) 1 (by decide)) m_D_clockWhere (List.mem_of_getElem? (i := 21) rfl) ⟨rfl, rfl⟩ ⟨by decide, by decide⟩ rfl rfl hl.1 (Nat.le_of_ble_eq_true rfl) d_K_clockOfPart_63 ⟨Nat.zero_le _, Nat.zero_le _⟩ (fun H locs G => ?_)
      exact fk_iret S hr hlk E G rfl (by rw [hk]; show _ = nI (2 * bf (i + 1) + if q = 0 then 1 else 2); rw [if_pos hc1]) d_K_clockOfPart_66
theorem d_K_wantClocksOfParts_0 : decode b_K_wantClocksOfParts 0 = .ok (.aload_n 1, 1) := by decide +kernel
theorem d_K_wantClocksOfParts_1 : decode b_K_wantClocksOfParts 1 = .ok (.iload_n 2, 1) := by decide +kernel
theorem d_K_wantClocksOfParts_2 : decode b_K_wantClocksOfParts 2 = .ok (.invokevirtual 132, 3) := by decide +kernel
theorem d_K_wantClocksOfParts_5 : decode b_K_wantClocksOfParts 5 = .ok (.istore_n 3, 1) := by decide +kernel
theorem d_K_wantClocksOfParts_6 : decode b_K_wantClocksOfParts 6 = .ok (.iconst 0, 1) := by decide +kernel
theorem d_K_wantClocksOfParts_7 : decode b_K_wantClocksOfParts 7 = .ok (.istore 4, 2) := by decide +kernel
theorem d_K_wantClocksOfParts_9 : decode b_K_wantClocksOfParts 9 = .ok (.iload 4, 2) := by decide +kernel
theorem d_K_wantClocksOfParts_11 : decode b_K_wantClocksOfParts 11 = .ok (.getstatic 135, 3) := by decide +kernel
theorem d_K_wantClocksOfParts_14 : decode b_K_wantClocksOfParts 14 = .ok (.aload_n 1, 1) := by decide +kernel
theorem d_K_wantClocksOfParts_15 : decode b_K_wantClocksOfParts 15 = .ok (.getfield 117, 3) := by decide +kernel
theorem d_K_wantClocksOfParts_18 : decode b_K_wantClocksOfParts 18 = .ok (.iload_n 2, 1) := by decide +kernel
theorem d_K_wantClocksOfParts_19 : decode b_K_wantClocksOfParts 19 = .ok (.iaload, 1) := by decide +kernel
theorem d_K_wantClocksOfParts_20 : decode b_K_wantClocksOfParts 20 = .ok (.iaload, 1) := by decide +kernel
theorem d_K_wantClocksOfParts_21 : decode b_K_wantClocksOfParts 21 = .ok (.if_icmp .ge 30, 3) := by decide +kernel
theorem d_K_wantClocksOfParts_24 : decode b_K_wantClocksOfParts 24 = .ok (.aload_n 1, 1) := by decide +kernel
theorem d_K_wantClocksOfParts_25 : decode b_K_wantClocksOfParts 25 = .ok (.getfield 141, 3) := by decide +kernel
theorem d_K_wantClocksOfParts_28 : decode b_K_wantClocksOfParts 28 = .ok (.iload_n 3, 1) := by decide +kernel
theorem d_K_wantClocksOfParts_29 : decode b_K_wantClocksOfParts 29 = .ok (.aload_n 0, 1) := by decide +kernel
theorem d_K_wantClocksOfParts_30 : decode b_K_wantClocksOfParts 30 = .ok (.aload_n 1, 1) := by decide +kernel
theorem d_K_wantClocksOfParts_31 : decode b_K_wantClocksOfParts 31 = .ok (.iload_n 2, 1) := by decide +kernel
theorem d_K_wantClocksOfParts_32 : decode b_K_wantClocksOfParts 32 = .ok (.iload 4, 2) := by decide +kernel
theorem d_K_wantClocksOfParts_34 : decode b_K_wantClocksOfParts 34 = .ok (.invokevirtual 154, 3) := by decide +kernel
theorem d_K_wantClocksOfParts_37 : decode b_K_wantClocksOfParts 37 = .ok (.iastore, 1) := by decide +kernel
theorem d_K_wantClocksOfParts_38 : decode b_K_wantClocksOfParts 38 = .ok (.aload_n 1, 1) := by decide +kernel
theorem d_K_wantClocksOfParts_39 : decode b_K_wantClocksOfParts 39 = .ok (.getfield 138, 3) := by decide +kernel
theorem d_K_wantClocksOfParts_42 : decode b_K_wantClocksOfParts 42 = .ok (.iload_n 3, 1) := by decide +kernel
theorem d_K_wantClocksOfParts_43 : decode b_K_wantClocksOfParts 43 = .ok (.iaload, 1) := by decide +kernel
theorem d_K_wantClocksOfParts_44 : decode b_K_wantClocksOfParts 44 = .ok (.istore_n 3, 1) := by decide +kernel
theorem d_K_wantClocksOfParts_45 : decode b_K_wantClocksOfParts 45 = .ok (.iinc 4 1, 3) := by decide +kernel
theorem d_K_wantClocksOfParts_48 : decode b_K_wantClocksOfParts 48 = .ok (.goto (-39), 3) := by decide +kernel
theorem d_K_wantClocksOfParts_51 : decode b_K_wantClocksOfParts 51 = .ok (.return_, 1) := by decide +kernel
theorem m_K_wantClocksOfParts : fk_MI y_K_wantClocksOfParts b_K_wantClocksOfParts 5 none 2 := ⟨i_323, i_322, fk_mp (q := (y_K_wantClocksOfParts, 7)) (by decide +kernel), i_6, by decide +kernel⟩
set_option maxHeartbeats 4000000 in
set_option maxRecDepth 100000 in
theorem c_K_wantClocksOfParts (l : Launch) (g : fk_G) (ov : Int64) (M : fk_M) (x : Nat) (hX : fk_X x) (bf : Nat → Nat) (n cnt : Nat) (hn40 : n ≤ 40) (h12 : cnt ≤ 12) (hb : ∀ j, j < n → M (x + 1) j = nI (bf j)) (i : Nat) (hok : fk_ok bf n cnt i) (ck : Nat → Nat) (hck : ∀ j, j < 12 → M (3 + 6 * j) 3 = nI (ck j)) (r ee : Nat) (hts : fk_Ts (fk_T bf n cnt (M (x + 2)) r) (fk_ar (bf i)) (i + fk_hd (bf i)) ee) : fk_CV l y_K_wantClocksOfParts b_K_wantClocksOfParts 5 (fk_rm 2) g ov M (va_up M (x + 3) (fk_wc (M (x + 2)) ck (bf i) (bf (i + 1)) i (fk_ar (bf i)) 0 (i + fk_hd (bf i)) (M (x + 3)))) [.ref (fk_a g 79), .ref (fk_a g x), .int (nI i)] := by
  refine fk_ofV rfl (Nat.le_of_ble_eq_true rfl) ?_
  intro p e s m args below meth c ls S hr hlk E G hl
  have hl : lv_has ls 5 [(0, .ref (fk_a g 79)), (1, .ref (fk_a g x)), (2, .int (nI i))] := hl
  have hok2 := hok.2.1
  have hi := hok.1
  have har := fk_ar_le (bf i)
  have exl := fk_Xlt hX
  have loop : ∀ (d : Nat) (q y : Nat) (A : Nat → Int32) (H : Heap) (locs : List Loc) (ls : Array Slot), q + d = fk_ar (bf i) → fk_Ts (fk_T bf n cnt (M (x + 2)) r) d y ee → va_up M (x + 3) (fk_wc (M (x + 2)) ck (bf i) (bf (i + 1)) i d q y A) = va_up M (x + 3) (fk_wc (M (x + 2)) ck (bf i) (bf (i + 1)) i (fk_ar (bf i)) 0 (i + fk_hd (bf i)) (M (x + 3))) → fk_H g ov (va_up M (x + 3) A) s H locs → lv_has ls 5 [(4, .int (nI q)), (3, .int (nI y)), (0, .ref (fk_a g 79)), (1, .ref (fk_a g x)), (2, .int (nI i))] → W p l e (fk_rm (2)) s m args below meth c H locs 0 0 (MQ below (va_Qv (fun (_ : Unit) => True) (fun _ t9 => fk_Wd g ov (va_up M (x + 3) (fk_wc (M (x + 2)) ck (bf i) (bf (i + 1)) i (fk_ar (bf i)) 0 (i + fk_hd (bf i)) (M (x + 3)))) t9) (fk_A g)) args s 0 0 (fk_A g)) (F0 m 9 ls []) := by
    intro d
    induction d with
    | zero =>
      intro q y A H locs ls hv0 hv1 hv2 G hl
      obtain ⟨M1, hM1⟩ : ∃ z : fk_M, z = va_up M (x + 3) A := ⟨_, rfl⟩
      rw [← hM1] at G
      have ex : ∀ k, k ≠ x + 3 → M1 k = M k := fun k hk => by rw [hM1, va_up_ne _ _ hk]
      have hx1 : M1 (x + 1) = M (x + 1) := ex _ (by omega)
      have hx2 : M1 (x + 2) = M (x + 2) := ex _ (by omega)
      have hx3 : M1 (x + 3) = A := by rw [hM1, va_up_self]
      have hb1 : ∀ j, j < n → M1 (x + 1) j = nI (bf j) := fun j hj => by rw [hx1]; exact hb j hj
      have hck1 : ∀ j, j < 12 → M1 (3 + 6 * j) 3 = nI (ck j) := fun j hj => by rw [ex _ (by rcases hX with h9 | ⟨z, h8, h9⟩ <;> omega)]; exact hck j hj
      refine lv_iload S.1 S.2.1 d_K_wantClocksOfParts_9 (lv_at hl 0 rfl) ?_
      refine fk_gsn S E G 1 (by decide) (List.mem_of_getElem? (i := 52) rfl) d_K_wantClocksOfParts_11 ?_
      refine lv_aload_n S.1 S.2.1 d_K_wantClocksOfParts_14 rfl (lv_at hl 3 rfl) ?_
      refine fk_gn S E G x (by have := fk_Xlt hX; omega) (v := .ref (fk_a g (x + 1))) (congrArg (fk_ce g ov x (M1 x)) (fk_kx0 hX)) rfl 0 (by decide) rfl (List.mem_of_getElem? (i := 1) rfl) rfl d_K_wantClocksOfParts_15 ?_
      refine lv_iload_n S.1 S.2.1 d_K_wantClocksOfParts_18 rfl (lv_at hl 4 rfl) ?_
      refine fk_ia S E G (x + 1) (by have := fk_Xlt hX; omega) (congrArg (fk_ce g ov (x + 1) (M1 (x + 1))) (fk_kx1 hX)) i rfl (by omega) (by decide) (v := nI (bf i)) (hb1 i hi) d_K_wantClocksOfParts_19 ?_
      refine fk_ti S E G 1 (by decide) (bf i) rfl (by omega) (v := nI (fk_ar (bf i))) (fk_tv1 _ (by omega)) d_K_wantClocksOfParts_20 ?_
      refine fk_cge (tgt := 51) S.1 S.2.1 (by omega) (by omega) d_K_wantClocksOfParts_21 rfl (fun hc1 => ?_) (fun hc1 => ?_)
      · exact fk_vret S hr hlk E G (by rw [hM1, ← hv2]; rfl) d_K_wantClocksOfParts_51
      · exact absurd hv0 (by omega)
    | succ d ih =>
      intro q y A H locs ls hv0 hv1 hv2 G hl
      obtain ⟨M1, hM1⟩ : ∃ z : fk_M, z = va_up M (x + 3) A := ⟨_, rfl⟩
      rw [← hM1] at G
      have ex : ∀ k, k ≠ x + 3 → M1 k = M k := fun k hk => by rw [hM1, va_up_ne _ _ hk]
      have hx1 : M1 (x + 1) = M (x + 1) := ex _ (by omega)
      have hx2 : M1 (x + 2) = M (x + 2) := ex _ (by omega)
      have hx3 : M1 (x + 3) = A := by rw [hM1, va_up_self]
      have hb1 : ∀ j, j < n → M1 (x + 1) j = nI (bf j) := fun j hj => by rw [hx1]; exact hb j hj
      have hck1 : ∀ j, j < 12 → M1 (3 + 6 * j) 3 = nI (ck j) := fun j hj => by rw [ex _ (by rcases hX with h9 | ⟨z, h8, h9⟩ <;> omega)]; exact hck j hj
      refine lv_iload S.1 S.2.1 d_K_wantClocksOfParts_9 (lv_at hl 0 rfl) ?_
      refine fk_gsn S E G 1 (by decide) (List.mem_of_getElem? (i := 52) rfl) d_K_wantClocksOfParts_11 ?_
      refine lv_aload_n S.1 S.2.1 d_K_wantClocksOfParts_14 rfl (lv_at hl 3 rfl) ?_
      refine fk_gn S E G x (by have := fk_Xlt hX; omega) (v := .ref (fk_a g (x + 1))) (congrArg (fk_ce g ov x (M1 x)) (fk_kx0 hX)) rfl 0 (by decide) rfl (List.mem_of_getElem? (i := 1) rfl) rfl d_K_wantClocksOfParts_15 ?_
      refine lv_iload_n S.1 S.2.1 d_K_wantClocksOfParts_18 rfl (lv_at hl 4 rfl) ?_
      refine fk_ia S E G (x + 1) (by have := fk_Xlt hX; omega) (congrArg (fk_ce g ov (x + 1) (M1 (x + 1))) (fk_kx1 hX)) i rfl (by omega) (by decide) (v := nI (bf i)) (hb1 i hi) d_K_wantClocksOfParts_19 ?_
      refine fk_ti S E G 1 (by decide) (bf i) rfl (by omega) (v := nI (fk_ar (bf i))) (fk_tv1 _ (by omega)) d_K_wantClocksOfParts_20 ?_
      refine fk_cge (tgt := 51) S.1 S.2.1 (by omega) (by omega) d_K_wantClocksOfParts_21 rfl (fun hc2 => ?_) (fun hc2 => ?_)
      · exact absurd hv0 (by omega)
      · obtain ⟨y2, t1, hts2⟩ := hv1
        have l1 := fk_T_lt _ _ _ t1
        have hEy := fk_T_E t1
        refine lv_aload_n S.1 S.2.1 d_K_wantClocksOfParts_24 rfl (lv_at hl 3 rfl) ?_
        refine fk_gn S E G x (by have := fk_Xlt hX; omega) (v := .ref (fk_a g (x + 3))) (congrArg (fk_ce g ov x (M1 x)) (fk_kx0 hX)) rfl 2 (by decide) rfl (List.mem_of_getElem? (i := 6) rfl) rfl d_K_wantClocksOfParts_25 ?_
        refine lv_iload_n S.1 S.2.1 d_K_wantClocksOfParts_28 rfl (lv_at hl 1 rfl) ?_
        refine lv_aload_n S.1 S.2.1 d_K_wantClocksOfParts_29 rfl (lv_at hl 2 rfl) ?_
        refine lv_aload_n S.1 S.2.1 d_K_wantClocksOfParts_30 rfl (lv_at hl 3 rfl) ?_
        refine lv_iload_n S.1 S.2.1 d_K_wantClocksOfParts_31 rfl (lv_at hl 4 rfl) ?_
        refine lv_iload S.1 S.2.1 d_K_wantClocksOfParts_32 (lv_at hl 0 rfl) ?_
        refine fk_cvi S E G 79 (by decide) (congrArg (fk_ce g ov 79 (M1 79)) kd_79) rfl (rest := [.int (nI y), .ref (fk_a g (x + 3))]) (c_K_clockOfPart l g ov M1 x hX bf n cnt hn40 h12 hb1 i hok ck hck1 q (by omega)) m_K_clockOfPart i_324 ⟨rfl, rfl⟩ ⟨by decide, by decide⟩ rfl rfl hl.1 (Nat.le_of_ble_eq_true rfl) d_K_wantClocksOfParts_34 ⟨Nat.zero_le _, Nat.zero_le _⟩ (fun H locs G => ?_)
        refine fk_is S E G (x + 3) (by have := fk_Xlt hX; omega) (fun r => congrArg (fk_ce g ov (x + 3) r) (fk_kx3 hX)) y rfl (by omega) (by decide) d_K_wantClocksOfParts_37 (fun H locs G => ?_)
        obtain ⟨M3, hM3⟩ : ∃ z : fk_M, z = va_up M1 (x + 3) (upd (M1 (x + 3)) y (fk_cpt ck (bf i) (bf (i + 1)) q (M1 (x + 3) i))) := ⟨_, rfl⟩
        rw [← hM3] at G
        have hx4 : M3 (x + 2) = M (x + 2) := by rw [hM3, va_up_ne _ _ (by omega), hx2]
        refine lv_aload_n S.1 S.2.1 d_K_wantClocksOfParts_38 rfl (lv_at hl 3 rfl) ?_
        refine fk_gn S E G x (by have := fk_Xlt hX; omega) (v := .ref (fk_a g (x + 2))) (congrArg (fk_ce g ov x (M3 x)) (fk_kx0 hX)) rfl 1 (by decide) rfl (List.mem_of_getElem? (i := 4) rfl) rfl d_K_wantClocksOfParts_39 ?_
        refine lv_iload_n S.1 S.2.1 d_K_wantClocksOfParts_42 rfl (lv_at hl 1 rfl) ?_
        refine fk_ia S E G (x + 2) (by have := fk_Xlt hX; omega) (congrArg (fk_ce g ov (x + 2) (M3 (x + 2))) (fk_kx2 hX)) y rfl (by omega) (by decide) (v := nI y2) (by rw [hx4]; exact hEy) d_K_wantClocksOfParts_43 ?_
        refine lv_istore_n (lv' := [(3, .int (nI y2)), (4, .int (nI q)), (0, .ref (fk_a g 79)), (1, .ref (fk_a g x)), (2, .int (nI i))]) S.1 S.2.1 d_K_wantClocksOfParts_44 rfl hl (by decide) rfl (fun ls hl => ?_)
        refine lv_iinc (k := 1) (v := nI (q + 1)) (lv' := [(4, .int (nI (q + 1))), (3, .int (nI y2)), (0, .ref (fk_a g 79)), (1, .ref (fk_a g x)), (2, .int (nI i))]) S.1 S.2.1 d_K_wantClocksOfParts_45 hl rfl (nI_1 q) (by decide) rfl (fun ls hl => ?_)
        refine lv_goto (tgt := 9) S.1 S.2.1 d_K_wantClocksOfParts_48 rfl ?_
        refine ih (q + 1) y2 (upd A y (fk_cpt ck (bf i) (bf (i + 1)) q (A i))) H locs ls (by omega) hts2 (by rw [← hv2]; show _ = va_up M (x + 3) (fk_wc (M (x + 2)) ck (bf i) (bf (i + 1)) i d (q + 1) (M (x + 2) y).toNatClampNeg _); rw [hEy, nI_clamp (by omega)]) ?_ (lv_sub hl [0, 1, 2, 3, 4] rfl)
        rw [hM3, hx3, hM1, bx_uu] at G
        exact G
  refine lv_aload_n S.1 S.2.1 d_K_wantClocksOfParts_0 rfl (lv_at hl 1 rfl) ?_
  refine lv_iload_n S.1 S.2.1 d_K_wantClocksOfParts_1 rfl (lv_at hl 2 rfl) ?_
  refine fk_cni S E G x (by have := fk_Xlt hX; omega) (congrArg (fk_ce g ov x (M x)) (fk_kx0 hX)) rfl (rest := []) (c_E_firstPart l g ov M x hX i (bf i) (by omega) (by omega) (hb i hi)) m_E_firstPart (List.mem_of_getElem? (i := 20) rfl) ⟨rfl, rfl⟩ ⟨by decide, by decide⟩ rfl rfl hl.1 (Nat.le_of_ble_eq_true rfl) d_K_wantClocksOfParts_2 ⟨Nat.zero_le _, Nat.zero_le _⟩ (fun H locs G => ?_)
  refine lv_istore_n (lv' := [(3, .int (nI (i + fk_hd (bf i)))), (0, .ref (fk_a g 79)), (1, .ref (fk_a g x)), (2, .int (nI i))]) S.1 S.2.1 d_K_wantClocksOfParts_5 rfl hl (by decide) rfl (fun ls hl => ?_)
  refine lv_iconst (v := nI 0) S.1 S.2.1 d_K_wantClocksOfParts_6 (by decide +kernel) ?_
  refine lv_istore (lv' := [(4, .int (nI 0)), (3, .int (nI (i + fk_hd (bf i)))), (0, .ref (fk_a g 79)), (1, .ref (fk_a g x)), (2, .int (nI i))]) S.1 S.2.1 d_K_wantClocksOfParts_7 hl (by decide) rfl (fun ls hl => ?_)
  exact loop (fk_ar (bf i)) 0 (i + fk_hd (bf i)) (M (x + 3)) H locs ls (by omega) hts rfl (by rw [fk_upid]; exact G) hl
theorem d_K_clockFault_0 : decode b_K_clockFault 0 = .ok (.aload_n 1, 1) := by decide +kernel
theorem d_K_clockFault_1 : decode b_K_clockFault 1 = .ok (.getfield 141, 3) := by decide +kernel
theorem d_K_clockFault_4 : decode b_K_clockFault 4 = .ok (.iconst 0, 1) := by decide +kernel
theorem d_K_clockFault_5 : decode b_K_clockFault 5 = .ok (.iload_n 2, 1) := by decide +kernel
theorem d_K_clockFault_6 : decode b_K_clockFault 6 = .ok (.iastore, 1) := by decide +kernel
theorem d_K_clockFault_7 : decode b_K_clockFault 7 = .ok (.iconst 0, 1) := by decide +kernel
theorem d_K_clockFault_8 : decode b_K_clockFault 8 = .ok (.istore_n 3, 1) := by decide +kernel
theorem d_K_clockFault_9 : decode b_K_clockFault 9 = .ok (.iload_n 3, 1) := by decide +kernel
theorem d_K_clockFault_10 : decode b_K_clockFault 10 = .ok (.aload_n 1, 1) := by decide +kernel
theorem d_K_clockFault_11 : decode b_K_clockFault 11 = .ok (.getfield 101, 3) := by decide +kernel
theorem d_K_clockFault_14 : decode b_K_clockFault 14 = .ok (.if_icmp .ge 43, 3) := by decide +kernel
theorem d_K_clockFault_17 : decode b_K_clockFault 17 = .ok (.aload_n 1, 1) := by decide +kernel
theorem d_K_clockFault_18 : decode b_K_clockFault 18 = .ok (.iload_n 3, 1) := by decide +kernel
theorem d_K_clockFault_19 : decode b_K_clockFault 19 = .ok (.invokevirtual 106, 3) := by decide +kernel
theorem d_K_clockFault_22 : decode b_K_clockFault 22 = .ok (.ifCond .ne 6, 3) := by decide +kernel
theorem d_K_clockFault_25 : decode b_K_clockFault 25 = .ok (.goto 26, 3) := by decide +kernel
theorem d_K_clockFault_28 : decode b_K_clockFault 28 = .ok (.aload_n 0, 1) := by decide +kernel
theorem d_K_clockFault_29 : decode b_K_clockFault 29 = .ok (.aload_n 1, 1) := by decide +kernel
theorem d_K_clockFault_30 : decode b_K_clockFault 30 = .ok (.iload_n 3, 1) := by decide +kernel
theorem d_K_clockFault_31 : decode b_K_clockFault 31 = .ok (.invokevirtual 144, 3) := by decide +kernel
theorem d_K_clockFault_34 : decode b_K_clockFault 34 = .ok (.aload_n 1, 1) := by decide +kernel
theorem d_K_clockFault_35 : decode b_K_clockFault 35 = .ok (.getfield 141, 3) := by decide +kernel
theorem d_K_clockFault_38 : decode b_K_clockFault 38 = .ok (.iload_n 3, 1) := by decide +kernel
theorem d_K_clockFault_39 : decode b_K_clockFault 39 = .ok (.iaload, 1) := by decide +kernel
theorem d_K_clockFault_40 : decode b_K_clockFault 40 = .ok (.if_icmp .eq 5, 3) := by decide +kernel
theorem d_K_clockFault_43 : decode b_K_clockFault 43 = .ok (.iload_n 3, 1) := by decide +kernel
theorem d_K_clockFault_44 : decode b_K_clockFault 44 = .ok (.ireturn, 1) := by decide +kernel
theorem d_K_clockFault_45 : decode b_K_clockFault 45 = .ok (.aload_n 0, 1) := by decide +kernel
theorem d_K_clockFault_46 : decode b_K_clockFault 46 = .ok (.aload_n 1, 1) := by decide +kernel
theorem d_K_clockFault_47 : decode b_K_clockFault 47 = .ok (.iload_n 3, 1) := by decide +kernel
theorem d_K_clockFault_48 : decode b_K_clockFault 48 = .ok (.invokevirtual 147, 3) := by decide +kernel
theorem d_K_clockFault_51 : decode b_K_clockFault 51 = .ok (.iinc 3 1, 3) := by decide +kernel
theorem d_K_clockFault_54 : decode b_K_clockFault 54 = .ok (.goto (-45), 3) := by decide +kernel
theorem d_K_clockFault_57 : decode b_K_clockFault 57 = .ok (.iconst (-1), 1) := by decide +kernel
theorem d_K_clockFault_58 : decode b_K_clockFault 58 = .ok (.ireturn, 1) := by decide +kernel
theorem m_K_clockFault : fk_MI y_K_clockFault b_K_clockFault 4 (some .int) 2 := ⟨i_312, i_311, fk_mp (q := (y_K_clockFault, 7)) (by decide +kernel), i_6, by decide +kernel⟩
set_option maxHeartbeats 4000000 in
set_option maxRecDepth 100000 in
theorem c_K_clockFault (l : Launch) (g : fk_G) (ov : Int64) (M : fk_M) (x : Nat) (hX : fk_X x) (bf : Nat → Nat) (n cnt : Nat) (hn40 : n ≤ 40) (h12 : cnt ≤ 12) (hb : ∀ j, j < n → M (x + 1) j = nI (bf j)) (hlen : M x 4 = nI n) (hT : fk_T bf n cnt (M (x + 2)) 11 0 n) (ck : Nat → Nat) (hck : ∀ j, j < 12 → M (3 + 6 * j) 3 = nI (ck j)) (t : Nat) : fk_CI l y_K_clockFault b_K_clockFault 4 (some .int) (fk_rm 3) g ov M (va_up M (x + 3) (fk_cf bf (M (x + 2)) ck n 0 (upd (M (x + 3)) 0 (nI t))).2) [.ref (fk_a g 79), .ref (fk_a g x), .int (nI t)] (fk_rv (fk_cf bf (M (x + 2)) ck n 0 (upd (M (x + 3)) 0 (nI t))).1) := by
  refine fk_ofI rfl (Nat.le_of_ble_eq_true rfl) ?_
  intro p e s m args below meth c ls S hr hlk E G hl
  have hl : lv_has ls 4 [(0, .ref (fk_a g 79)), (1, .ref (fk_a g x)), (2, .int (nI t))] := hl
  have exl := fk_Xlt hX
  have loop : ∀ (d : Nat) (i : Nat) (A : Nat → Int32) (H : Heap) (locs : List Loc) (ls : Array Slot), i + d = n → fk_cf bf (M (x + 2)) ck d i A = fk_cf bf (M (x + 2)) ck n 0 (upd (M (x + 3)) 0 (nI t)) → fk_H g ov (va_up M (x + 3) A) s H locs → lv_has ls 4 [(3, .int (nI i)), (0, .ref (fk_a g 79)), (1, .ref (fk_a g x)), (2, .int (nI t))] → W p l e (fk_rm (3)) s m args below meth c H locs 0 0 (MQ below (va_Qi (fun rr (_ : Unit) => rr = fk_rv (fk_cf bf (M (x + 2)) ck n 0 (upd (M (x + 3)) 0 (nI t))).1) (fun _ t9 => fk_Wd g ov (va_up M (x + 3) (fk_cf bf (M (x + 2)) ck n 0 (upd (M (x + 3)) 0 (nI t))).2) t9) (fk_A g)) args s 0 0 (fk_A g)) (F0 m 9 ls []) := by
    intro d
    induction d with
    | zero =>
      intro i A H locs ls hv0 hv1 G hl
      obtain ⟨M1, hM1⟩ : ∃ z : fk_M, z = va_up M (x + 3) A := ⟨_, rfl⟩
      rw [← hM1] at G
      have ex : ∀ k, k ≠ x + 3 → M1 k = M k := fun k hk => by rw [hM1, va_up_ne _ _ hk]
      have hx0 : M1 x = M x := ex _ (by omega)
      have hx1 : M1 (x + 1) = M (x + 1) := ex _ (by omega)
      have hx2 : M1 (x + 2) = M (x + 2) := ex _ (by omega)
      have hx3 : M1 (x + 3) = A := by rw [hM1, va_up_self]
      have hb1 : ∀ j, j < n → M1 (x + 1) j = nI (bf j) := fun j hj => by rw [hx1]; exact hb j hj
      have hck1 : ∀ j, j < 12 → M1 (3 + 6 * j) 3 = nI (ck j) := fun j hj => by rw [ex _ (by rcases hX with h9 | ⟨z, h8, h9⟩ <;> omega)]; exact hck j hj
      refine lv_iload_n S.1 S.2.1 d_K_clockFault_9 rfl (lv_at hl 0 rfl) ?_
      refine lv_aload_n S.1 S.2.1 d_K_clockFault_10 rfl (lv_at hl 2 rfl) ?_
      refine fk_gn S E G x (by have := fk_Xlt hX; omega) (v := .int (M1 x 4)) (congrArg (fk_ce g ov x (M1 x)) (fk_kx0 hX)) rfl 4 (by decide) rfl (List.mem_of_getElem? (i := 11) rfl) rfl d_K_clockFault_11 ?_
      rw [hx0, hlen]
      refine fk_cge (tgt := 57) S.1 S.2.1 (by omega) (by omega) d_K_clockFault_14 rfl (fun hc1 => ?_) (fun hc1 => ?_)
      · refine lv_iconst (v := -1) S.1 S.2.1 d_K_clockFault_57 (by decide +kernel) ?_
        exact fk_iret S hr hlk E G (by rw [hM1, ← hv1]; rfl) (by rw [← hv1]; rfl) d_K_clockFault_58
      · exact absurd hv0 (by omega)
    | succ d ih =>
      intro i A H locs ls hv0 hv1 G hl
      obtain ⟨M1, hM1⟩ : ∃ z : fk_M, z = va_up M (x + 3) A := ⟨_, rfl⟩
      rw [← hM1] at G
      have ex : ∀ k, k ≠ x + 3 → M1 k = M k := fun k hk => by rw [hM1, va_up_ne _ _ hk]
      have hx0 : M1 x = M x := ex _ (by omega)
      have hx1 : M1 (x + 1) = M (x + 1) := ex _ (by omega)
      have hx2 : M1 (x + 2) = M (x + 2) := ex _ (by omega)
      have hx3 : M1 (x + 3) = A := by rw [hM1, va_up_self]
      have hb1 : ∀ j, j < n → M1 (x + 1) j = nI (bf j) := fun j hj => by rw [hx1]; exact hb j hj
      have hck1 : ∀ j, j < 12 → M1 (3 + 6 * j) 3 = nI (ck j) := fun j hj => by rw [ex _ (by rcases hX with h9 | ⟨z, h8, h9⟩ <;> omega)]; exact hck j hj
      refine lv_iload_n S.1 S.2.1 d_K_clockFault_9 rfl (lv_at hl 0 rfl) ?_
      refine lv_aload_n S.1 S.2.1 d_K_clockFault_10 rfl (lv_at hl 2 rfl) ?_
      refine fk_gn S E G x (by have := fk_Xlt hX; omega) (v := .int (M1 x 4)) (congrArg (fk_ce g ov x (M1 x)) (fk_kx0 hX)) rfl 4 (by decide) rfl (List.mem_of_getElem? (i := 11) rfl) rfl d_K_clockFault_11 ?_
      rw [hx0, hlen]
      refine fk_cge (tgt := 57) S.1 S.2.1 (by omega) (by omega) d_K_clockFault_14 rfl (fun hc2 => ?_) (fun hc2 => ?_)
      · exact absurd hv0 (by omega)
      · refine lv_aload_n S.1 S.2.1 d_K_clockFault_17 rfl (lv_at hl 2 rfl) ?_
        refine lv_iload_n S.1 S.2.1 d_K_clockFault_18 rfl (lv_at hl 0 rfl) ?_
        refine fk_cni S E G x (by have := fk_Xlt hX; omega) (congrArg (fk_ce g ov x (M1 x)) (fk_kx0 hX)) rfl (rest := []) (c_E_beginsAt l g ov M1 x hX i (by omega)) m_E_beginsAt (List.mem_of_getElem? (i := 17) rfl) ⟨rfl, rfl⟩ ⟨by decide, by decide⟩ rfl rfl hl.1 (Nat.le_of_ble_eq_true rfl) d_K_clockFault_19 ⟨Nat.zero_le _, Nat.zero_le _⟩ (fun H locs G => ?_)
        refine fk_zne (tgt := 28) S.1 S.2.1 (fk_bl _) d_K_clockFault_22 rfl (fun hc3 => ?_) (fun hc3 => ?_)
        · have hE := of_decide_eq_true (fk_bt hc3)
          rw [hx2] at hE
          obtain ⟨r, ee, hq10, hok, hEe, hlt, hle, hts⟩ := fk_node (by omega) hT (show i < n by omega) hE
          refine lv_aload_n S.1 S.2.1 d_K_clockFault_28 rfl (lv_at hl 1 rfl) ?_
          refine lv_aload_n S.1 S.2.1 d_K_clockFault_29 rfl (lv_at hl 2 rfl) ?_
          refine lv_iload_n S.1 S.2.1 d_K_clockFault_30 rfl (lv_at hl 0 rfl) ?_
          refine fk_cvi S E G 79 (by decide) (congrArg (fk_ce g ov 79 (M1 79)) kd_79) rfl (rest := []) (hx3 ▸ c_K_ownClock l g ov M1 x hX bf n cnt hn40 h12 hb1 i hok ck hck1) m_K_ownClock i_313 ⟨rfl, rfl⟩ ⟨by decide, by decide⟩ rfl rfl hl.1 (Nat.le_of_ble_eq_true rfl) d_K_clockFault_31 ⟨Nat.zero_le _, Nat.zero_le _⟩ (fun H locs G => ?_)
          refine lv_aload_n S.1 S.2.1 d_K_clockFault_34 rfl (lv_at hl 2 rfl) ?_
          refine fk_gn S E G x (by have := fk_Xlt hX; omega) (v := .ref (fk_a g (x + 3))) (congrArg (fk_ce g ov x (M1 x)) (fk_kx0 hX)) rfl 2 (by decide) rfl (List.mem_of_getElem? (i := 6) rfl) rfl d_K_clockFault_35 ?_
          refine lv_iload_n S.1 S.2.1 d_K_clockFault_38 rfl (lv_at hl 0 rfl) ?_
          refine fk_ia S E G (x + 3) (by have := fk_Xlt hX; omega) (congrArg (fk_ce g ov (x + 3) (M1 (x + 3))) (fk_kx3 hX)) i rfl (by omega) (by decide) (v := A i) (by rw [hx3]) d_K_clockFault_39 ?_
          refine lv_icmp_eq (tgt := 45) S.1 S.2.1 d_K_clockFault_40 rfl (fun hc4 => ?_) (fun hc4 => ?_)
          · refine lv_aload_n S.1 S.2.1 d_K_clockFault_45 rfl (lv_at hl 1 rfl) ?_
            refine lv_aload_n S.1 S.2.1 d_K_clockFault_46 rfl (lv_at hl 2 rfl) ?_
            refine lv_iload_n S.1 S.2.1 d_K_clockFault_47 rfl (lv_at hl 0 rfl) ?_
            refine fk_cvv S E G 79 (by decide) (congrArg (fk_ce g ov 79 (M1 79)) kd_79) rfl (rest := []) (c_K_wantClocksOfParts l g ov M1 x hX bf n cnt hn40 h12 hb1 i hok ck hck1 r ee (by rw [hx2]; exact hts)) m_K_wantClocksOfParts i_320 ⟨rfl, rfl⟩ ⟨by decide, by decide⟩ rfl rfl hl.1 (Nat.le_of_ble_eq_true rfl) d_K_clockFault_48 ⟨Nat.zero_le _, Nat.zero_le _⟩ (fun H locs G => ?_)
            refine lv_iinc (k := 0) (v := nI (i + 1)) (lv' := [(3, .int (nI (i + 1))), (0, .ref (fk_a g 79)), (1, .ref (fk_a g x)), (2, .int (nI t))]) S.1 S.2.1 d_K_clockFault_51 hl rfl (nI_1 i) (by decide) rfl (fun ls hl => ?_)
            refine lv_goto (tgt := 9) S.1 S.2.1 d_K_clockFault_54 rfl ?_
            rw [hx2, hx3, hM1, bx_uu] at G
            exact ih (i + 1) _ H locs ls (by omega) (by rw [← hv1, fk_cf_S, if_neg (fun q => q hE), if_pos hc4]) G hl
          · have hres : fk_cf bf (M (x + 2)) ck (d + 1) i A = (some i, A) := by
              rw [fk_cf_S, if_neg (fun q => q hE), if_neg hc4]
            refine lv_iload_n S.1 S.2.1 d_K_clockFault_43 rfl (lv_at hl 0 rfl) ?_
            exact fk_iret S hr hlk E G (by rw [hM1, ← hv1, hres]) (by rw [← hv1, hres]; rfl) d_K_clockFault_44
        · have hE := of_decide_eq_false (fk_bf hc3)
          rw [hx2] at hE
          refine lv_goto (tgt := 51) S.1 S.2.1 d_K_clockFault_25 rfl ?_
          refine lv_iinc (k := 0) (v := nI (i + 1)) (lv' := [(3, .int (nI (i + 1))), (0, .ref (fk_a g 79)), (1, .ref (fk_a g x)), (2, .int (nI t))]) S.1 S.2.1 d_K_clockFault_51 hl rfl (nI_1 i) (by decide) rfl (fun ls hl => ?_)
          refine lv_goto (tgt := 9) S.1 S.2.1 d_K_clockFault_54 rfl ?_
          rw [hM1] at G
          exact ih (i + 1) A H locs ls (by omega) (by rw [← hv1, fk_cf_S, if_pos hE]) G hl
  refine lv_aload_n S.1 S.2.1 d_K_clockFault_0 rfl (lv_at hl 1 rfl) ?_
  refine fk_gn S E G x (by have := fk_Xlt hX; omega) (v := .ref (fk_a g (x + 3))) (congrArg (fk_ce g ov x (M x)) (fk_kx0 hX)) rfl 2 (by decide) rfl (List.mem_of_getElem? (i := 6) rfl) rfl d_K_clockFault_1 ?_
  refine lv_iconst (v := nI 0) S.1 S.2.1 d_K_clockFault_4 (by decide +kernel) ?_
  refine lv_iload_n S.1 S.2.1 d_K_clockFault_5 rfl (lv_at hl 2 rfl) ?_
  refine fk_is S E G (x + 3) (by have := fk_Xlt hX; omega) (fun r => congrArg (fk_ce g ov (x + 3) r) (fk_kx3 hX)) 0 rfl (by omega) (by decide) d_K_clockFault_6 (fun H locs G => ?_)
  obtain ⟨M5, hM5⟩ : ∃ z : fk_M, z = va_up M (x + 3) (upd (M (x + 3)) 0 (nI t)) := ⟨_, rfl⟩
  rw [← hM5] at G
  refine lv_iconst (v := nI 0) S.1 S.2.1 d_K_clockFault_7 (by decide +kernel) ?_
  refine lv_istore_n (lv' := [(3, .int (nI 0)), (0, .ref (fk_a g 79)), (1, .ref (fk_a g x)), (2, .int (nI t))]) S.1 S.2.1 d_K_clockFault_8 rfl hl (by decide) rfl (fun ls hl => ?_)
  rw [hM5] at G
  exact loop n 0 _ H locs ls (by omega) rfl G hl
theorem d_K_hasNothing_0 : decode b_K_hasNothing 0 = .ok (.aload_n 1, 1) := by decide +kernel
theorem d_K_hasNothing_1 : decode b_K_hasNothing 1 = .ok (.getfield 117, 3) := by decide +kernel
theorem d_K_hasNothing_4 : decode b_K_hasNothing 4 = .ok (.iload_n 2, 1) := by decide +kernel
theorem d_K_hasNothing_5 : decode b_K_hasNothing 5 = .ok (.iaload, 1) := by decide +kernel
theorem d_K_hasNothing_6 : decode b_K_hasNothing 6 = .ok (.istore_n 3, 1) := by decide +kernel
theorem d_K_hasNothing_7 : decode b_K_hasNothing 7 = .ok (.iload_n 3, 1) := by decide +kernel
theorem d_K_hasNothing_8 : decode b_K_hasNothing 8 = .ok (.bipush 15, 2) := by decide +kernel
theorem d_K_hasNothing_10 : decode b_K_hasNothing 10 = .ok (.if_icmp .ne 7, 3) := by decide +kernel
theorem d_K_hasNothing_13 : decode b_K_hasNothing 13 = .ok (.iconst 1, 1) := by decide +kernel
theorem d_K_hasNothing_14 : decode b_K_hasNothing 14 = .ok (.goto 8, 3) := by decide +kernel
theorem d_K_hasNothing_17 : decode b_K_hasNothing 17 = .ok (.getstatic 135, 3) := by decide +kernel
theorem d_K_hasNothing_20 : decode b_K_hasNothing 20 = .ok (.iload_n 3, 1) := by decide +kernel
theorem d_K_hasNothing_21 : decode b_K_hasNothing 21 = .ok (.iaload, 1) := by decide +kernel
theorem d_K_hasNothing_22 : decode b_K_hasNothing 22 = .ok (.istore 4, 2) := by decide +kernel
theorem d_K_hasNothing_24 : decode b_K_hasNothing 24 = .ok (.aload_n 1, 1) := by decide +kernel
theorem d_K_hasNothing_25 : decode b_K_hasNothing 25 = .ok (.iload_n 2, 1) := by decide +kernel
theorem d_K_hasNothing_26 : decode b_K_hasNothing 26 = .ok (.invokevirtual 132, 3) := by decide +kernel
theorem d_K_hasNothing_29 : decode b_K_hasNothing 29 = .ok (.istore 5, 2) := by decide +kernel
theorem d_K_hasNothing_31 : decode b_K_hasNothing 31 = .ok (.iconst 0, 1) := by decide +kernel
theorem d_K_hasNothing_32 : decode b_K_hasNothing 32 = .ok (.istore 6, 2) := by decide +kernel
theorem d_K_hasNothing_34 : decode b_K_hasNothing 34 = .ok (.iload 6, 2) := by decide +kernel
theorem d_K_hasNothing_36 : decode b_K_hasNothing 36 = .ok (.iload 4, 2) := by decide +kernel
theorem d_K_hasNothing_38 : decode b_K_hasNothing 38 = .ok (.if_icmp .ge 30, 3) := by decide +kernel
theorem d_K_hasNothing_41 : decode b_K_hasNothing 41 = .ok (.aload_n 0, 1) := by decide +kernel
theorem d_K_hasNothing_42 : decode b_K_hasNothing 42 = .ok (.getfield 15, 3) := by decide +kernel
theorem d_K_hasNothing_45 : decode b_K_hasNothing 45 = .ok (.iload 5, 2) := by decide +kernel
theorem d_K_hasNothing_47 : decode b_K_hasNothing 47 = .ok (.baload, 1) := by decide +kernel
theorem d_K_hasNothing_48 : decode b_K_hasNothing 48 = .ok (.ifCond .eq 5, 3) := by decide +kernel
theorem d_K_hasNothing_51 : decode b_K_hasNothing 51 = .ok (.iconst 1, 1) := by decide +kernel
theorem d_K_hasNothing_52 : decode b_K_hasNothing 52 = .ok (.ireturn, 1) := by decide +kernel
theorem d_K_hasNothing_53 : decode b_K_hasNothing 53 = .ok (.aload_n 1, 1) := by decide +kernel
theorem d_K_hasNothing_54 : decode b_K_hasNothing 54 = .ok (.getfield 138, 3) := by decide +kernel
theorem d_K_hasNothing_57 : decode b_K_hasNothing 57 = .ok (.iload 5, 2) := by decide +kernel
theorem d_K_hasNothing_59 : decode b_K_hasNothing 59 = .ok (.iaload, 1) := by decide +kernel
theorem d_K_hasNothing_60 : decode b_K_hasNothing 60 = .ok (.istore 5, 2) := by decide +kernel
theorem d_K_hasNothing_62 : decode b_K_hasNothing 62 = .ok (.iinc 6 1, 3) := by decide +kernel
theorem d_K_hasNothing_65 : decode b_K_hasNothing 65 = .ok (.goto (-31), 3) := by decide +kernel
theorem d_K_hasNothing_68 : decode b_K_hasNothing 68 = .ok (.iconst 0, 1) := by decide +kernel
theorem d_K_hasNothing_69 : decode b_K_hasNothing 69 = .ok (.ireturn, 1) := by decide +kernel
theorem m_K_hasNothing : fk_MI y_K_hasNothing b_K_hasNothing 7 (some .boolean) 2 := ⟨i_335, i_334, fk_mp (q := (y_K_hasNothing, 7)) (by decide +kernel), i_6, by decide +kernel⟩
set_option maxHeartbeats 4000000 in
set_option maxRecDepth 100000 in
theorem c_K_hasNothing (l : Launch) (g : fk_G) (ov : Int64) (M : fk_M) (x : Nat) (hX : fk_X x) (bf : Nat → Nat) (n cnt : Nat) (hn40 : n ≤ 40) (h12 : cnt ≤ 12) (hb : ∀ j, j < n → M (x + 1) j = nI (bf j)) (i : Nat) (hok : fk_ok bf n cnt i) (r ee : Nat) (hts : fk_Ts (fk_T bf n cnt (M (x + 2)) r) (fk_ar (bf i)) (i + fk_hd (bf i)) ee) : fk_CI l y_K_hasNothing b_K_hasNothing 7 (some .boolean) (fk_rm 1) g ov M M [.ref (fk_a g 79), .ref (fk_a g x), .int (nI i)] (nI (fk_hn (M (x + 2)) (M 81) (fk_as (bf i)) (i + fk_hd (bf i))).toNat) := by
  refine fk_ofI rfl (Nat.le_of_ble_eq_true rfl) ?_
  intro p e s m args below meth c ls S hr hlk E G hl
  have hl : lv_has ls 7 [(0, .ref (fk_a g 79)), (1, .ref (fk_a g x)), (2, .int (nI i))] := hl
  have hok2 := hok.2.1
  have hi := hok.1
  have har := fk_ar_le (bf i)
  have has : fk_as (bf i) ≤ fk_ar (bf i) := by
    unfold fk_as
    split
    · rename_i h9
      rw [h9]
      decide
    · exact Nat.le_refl _
  have loop : ∀ (d : Nat) (q y : Nat) (H : Heap) (locs : List Loc) (ls : Array Slot), q + d = fk_as (bf i) → fk_Ts (fk_T bf n cnt (M (x + 2)) r) (d + (fk_ar (bf i) - fk_as (bf i))) y ee → fk_hn (M (x + 2)) (M 81) d y = fk_hn (M (x + 2)) (M 81) (fk_as (bf i)) (i + fk_hd (bf i)) → fk_H g ov (M) s H locs → lv_has ls 7 [(6, .int (nI q)), (5, .int (nI y)), (4, .int (nI (fk_as (bf i)))), (3, .int (nI (bf i))), (0, .ref (fk_a g 79)), (1, .ref (fk_a g x)), (2, .int (nI i))] → W p l e (fk_rm (1)) s m args below meth c H locs 0 0 (MQ below (va_Qi (fun rr (_ : Unit) => rr = nI (fk_hn (M (x + 2)) (M 81) (fk_as (bf i)) (i + fk_hd (bf i))).toNat) (fun _ t9 => fk_Wd g ov (M) t9) (fk_A g)) args s 0 0 (fk_A g)) (F0 m 34 ls []) := by
    intro d
    induction d with
    | zero =>
      intro q y H locs ls hv0 hv1 hv2 G hl
      refine lv_iload S.1 S.2.1 d_K_hasNothing_34 (lv_at hl 0 rfl) ?_
      refine lv_iload S.1 S.2.1 d_K_hasNothing_36 (lv_at hl 2 rfl) ?_
      refine fk_cge (tgt := 68) S.1 S.2.1 (by omega) (by omega) d_K_hasNothing_38 rfl (fun hc1 => ?_) (fun hc1 => ?_)
      · refine lv_iconst (v := nI 0) S.1 S.2.1 d_K_hasNothing_68 (by decide +kernel) ?_
        exact fk_zret S hr hlk E G rfl (fk_b0 (by rw [← hv2]; rfl)) (fk_bz _) d_K_hasNothing_69
      · exact absurd hv0 (by omega)
    | succ d ih =>
      intro q y H locs ls hv0 hv1 hv2 G hl
      refine lv_iload S.1 S.2.1 d_K_hasNothing_34 (lv_at hl 0 rfl) ?_
      refine lv_iload S.1 S.2.1 d_K_hasNothing_36 (lv_at hl 2 rfl) ?_
      refine fk_cge (tgt := 68) S.1 S.2.1 (by omega) (by omega) d_K_hasNothing_38 rfl (fun hc2 => ?_) (fun hc2 => ?_)
      · exact absurd hv0 (by omega)
      · rw [show d + 1 + (fk_ar (bf i) - fk_as (bf i)) = (d + (fk_ar (bf i) - fk_as (bf i))) + 1 by omega] at hv1
        obtain ⟨y2, t1, hts2⟩ := hv1
        have l1 := fk_T_lt _ _ _ t1
        have hEy := fk_T_E t1
        refine lv_aload_n S.1 S.2.1 d_K_hasNothing_41 rfl (lv_at hl 4 rfl) ?_
        refine fk_gf S E G 79 (by decide) (v := .ref (fk_a g 81)) (congrArg (fk_ce g ov 79 (M 79)) kd_79) rfl 3 (by decide) rfl i_159 rfl d_K_hasNothing_42 ?_
        refine lv_iload S.1 S.2.1 d_K_hasNothing_45 (lv_at hl 1 rfl) ?_
        refine fk_za S E G 81 (by decide) (congrArg (fk_ce g ov 81 (M 81)) kd_81) y rfl (by omega) (by decide) (v := M 81 y) rfl d_K_hasNothing_47 ?_
        refine lv_if_eq (tgt := 53) S.1 S.2.1 d_K_hasNothing_48 rfl (fun hc3 => ?_) (fun hc3 => ?_)
        · refine lv_aload_n S.1 S.2.1 d_K_hasNothing_53 rfl (lv_at hl 5 rfl) ?_
          refine fk_gn S E G x (by have := fk_Xlt hX; omega) (v := .ref (fk_a g (x + 2))) (congrArg (fk_ce g ov x (M x)) (fk_kx0 hX)) rfl 1 (by decide) rfl (List.mem_of_getElem? (i := 4) rfl) rfl d_K_hasNothing_54 ?_
          refine lv_iload S.1 S.2.1 d_K_hasNothing_57 (lv_at hl 1 rfl) ?_
          refine fk_ia S E G (x + 2) (by have := fk_Xlt hX; omega) (congrArg (fk_ce g ov (x + 2) (M (x + 2))) (fk_kx2 hX)) y rfl (by omega) (by decide) (v := nI y2) hEy d_K_hasNothing_59 ?_
          refine lv_istore (lv' := [(5, .int (nI y2)), (6, .int (nI q)), (4, .int (nI (fk_as (bf i)))), (3, .int (nI (bf i))), (0, .ref (fk_a g 79)), (1, .ref (fk_a g x)), (2, .int (nI i))]) S.1 S.2.1 d_K_hasNothing_60 hl (by decide) rfl (fun ls hl => ?_)
          refine lv_iinc (k := 1) (v := nI (q + 1)) (lv' := [(6, .int (nI (q + 1))), (5, .int (nI y2)), (4, .int (nI (fk_as (bf i)))), (3, .int (nI (bf i))), (0, .ref (fk_a g 79)), (1, .ref (fk_a g x)), (2, .int (nI i))]) S.1 S.2.1 d_K_hasNothing_62 hl rfl (nI_1 q) (by decide) rfl (fun ls hl => ?_)
          refine lv_goto (tgt := 34) S.1 S.2.1 d_K_hasNothing_65 rfl ?_
          exact ih (q + 1) y2 H locs ls (by omega) hts2 (by rw [← hv2, fk_hn_S, if_pos hc3, hEy, nI_clamp (by omega)]) G (lv_sub hl [0, 1, 2, 3, 4, 5, 6] rfl)
        · refine lv_iconst (v := nI 1) S.1 S.2.1 d_K_hasNothing_51 (by decide +kernel) ?_
          exact fk_zret S hr hlk E G rfl (fk_b1 (by rw [← hv2, fk_hn_S, if_neg hc3])) (fk_bz _) d_K_hasNothing_52
  refine lv_aload_n S.1 S.2.1 d_K_hasNothing_0 rfl (lv_at hl 1 rfl) ?_
  refine fk_gn S E G x (by have := fk_Xlt hX; omega) (v := .ref (fk_a g (x + 1))) (congrArg (fk_ce g ov x (M x)) (fk_kx0 hX)) rfl 0 (by decide) rfl (List.mem_of_getElem? (i := 1) rfl) rfl d_K_hasNothing_1 ?_
  refine lv_iload_n S.1 S.2.1 d_K_hasNothing_4 rfl (lv_at hl 2 rfl) ?_
  refine fk_ia S E G (x + 1) (by have := fk_Xlt hX; omega) (congrArg (fk_ce g ov (x + 1) (M (x + 1))) (fk_kx1 hX)) i rfl (by omega) (by decide) (v := nI (bf i)) (hb i hi) d_K_hasNothing_5 ?_
  refine lv_istore_n (lv' := [(3, .int (nI (bf i))), (0, .ref (fk_a g 79)), (1, .ref (fk_a g x)), (2, .int (nI i))]) S.1 S.2.1 d_K_hasNothing_6 rfl hl (by decide) rfl (fun ls hl => ?_)
  refine lv_iload_n S.1 S.2.1 d_K_hasNothing_7 rfl (lv_at hl 0 rfl) ?_
  refine lv_bipush (v := nI 15) S.1 S.2.1 d_K_hasNothing_8 (by decide +kernel) ?_
  refine fk_cne (tgt := 17) S.1 S.2.1 (by omega) (by omega) d_K_hasNothing_10 rfl (fun hc4 => ?_) (fun hc4 => ?_)
  · refine fk_gsn S E G 1 (by decide) (List.mem_of_getElem? (i := 52) rfl) d_K_hasNothing_17 ?_
    refine lv_iload_n S.1 S.2.1 d_K_hasNothing_20 rfl (lv_at hl 0 rfl) ?_
    refine fk_ti S E G 1 (by decide) (bf i) rfl (by omega) (v := nI (fk_ar (bf i))) (fk_tv1 _ (by omega)) d_K_hasNothing_21 ?_
    refine lv_istore (lv' := [(4, .int (nI (fk_ar (bf i)))), (3, .int (nI (bf i))), (0, .ref (fk_a g 79)), (1, .ref (fk_a g x)), (2, .int (nI i))]) S.1 S.2.1 d_K_hasNothing_22 hl (by decide) rfl (fun ls hl => ?_)
    refine lv_aload_n S.1 S.2.1 d_K_hasNothing_24 rfl (lv_at hl 3 rfl) ?_
    refine lv_iload_n S.1 S.2.1 d_K_hasNothing_25 rfl (lv_at hl 4 rfl) ?_
    refine fk_cni S E G x (by have := fk_Xlt hX; omega) (congrArg (fk_ce g ov x (M x)) (fk_kx0 hX)) rfl (rest := []) (c_E_firstPart l g ov M x hX i (bf i) (by omega) (by omega) (hb i hi)) m_E_firstPart (List.mem_of_getElem? (i := 20) rfl) ⟨rfl, rfl⟩ ⟨by decide, by decide⟩ rfl rfl hl.1 (Nat.le_of_ble_eq_true rfl) d_K_hasNothing_26 ⟨Nat.zero_le _, Nat.zero_le _⟩ (fun H locs G => ?_)
    refine lv_istore (lv' := [(5, .int (nI (i + fk_hd (bf i)))), (4, .int (nI (fk_ar (bf i)))), (3, .int (nI (bf i))), (0, .ref (fk_a g 79)), (1, .ref (fk_a g x)), (2, .int (nI i))]) S.1 S.2.1 d_K_hasNothing_29 hl (by decide) rfl (fun ls hl => ?_)
    refine lv_iconst (v := nI 0) S.1 S.2.1 d_K_hasNothing_31 (by decide +kernel) ?_
    refine lv_istore (lv' := [(6, .int (nI 0)), (5, .int (nI (i + fk_hd (bf i)))), (4, .int (nI (fk_ar (bf i)))), (3, .int (nI (bf i))), (0, .ref (fk_a g 79)), (1, .ref (fk_a g x)), (2, .int (nI i))]) S.1 S.2.1 d_K_hasNothing_32 hl (by decide) rfl (fun ls hl => ?_)
    refine loop (fk_as (bf i)) 0 (i + fk_hd (bf i)) H locs ls (by omega) (by rw [Nat.add_sub_cancel' has]; exact hts) rfl G ?_
    rw [show fk_as (bf i) = fk_ar (bf i) from if_neg hc4]
    exact hl
  · refine lv_iconst (v := nI 1) S.1 S.2.1 d_K_hasNothing_13 (by decide +kernel) ?_
    refine lv_goto (tgt := 22) S.1 S.2.1 d_K_hasNothing_14 rfl ?_
    refine lv_istore (lv' := [(4, .int (nI 1)), (3, .int (nI (bf i))), (0, .ref (fk_a g 79)), (1, .ref (fk_a g x)), (2, .int (nI i))]) S.1 S.2.1 d_K_hasNothing_22 hl (by decide) rfl (fun ls hl => ?_)
    refine lv_aload_n S.1 S.2.1 d_K_hasNothing_24 rfl (lv_at hl 3 rfl) ?_
    refine lv_iload_n S.1 S.2.1 d_K_hasNothing_25 rfl (lv_at hl 4 rfl) ?_
    refine fk_cni S E G x (by have := fk_Xlt hX; omega) (congrArg (fk_ce g ov x (M x)) (fk_kx0 hX)) rfl (rest := []) (c_E_firstPart l g ov M x hX i (bf i) (by omega) (by omega) (hb i hi)) m_E_firstPart (List.mem_of_getElem? (i := 20) rfl) ⟨rfl, rfl⟩ ⟨by decide, by decide⟩ rfl rfl hl.1 (Nat.le_of_ble_eq_true rfl) d_K_hasNothing_26 ⟨Nat.zero_le _, Nat.zero_le _⟩ (fun H locs G => ?_)
    refine lv_istore (lv' := [(5, .int (nI (i + fk_hd (bf i)))), (4, .int (nI 1)), (3, .int (nI (bf i))), (0, .ref (fk_a g 79)), (1, .ref (fk_a g x)), (2, .int (nI i))]) S.1 S.2.1 d_K_hasNothing_29 hl (by decide) rfl (fun ls hl => ?_)
    refine lv_iconst (v := nI 0) S.1 S.2.1 d_K_hasNothing_31 (by decide +kernel) ?_
    refine lv_istore (lv' := [(6, .int (nI 0)), (5, .int (nI (i + fk_hd (bf i)))), (4, .int (nI 1)), (3, .int (nI (bf i))), (0, .ref (fk_a g 79)), (1, .ref (fk_a g x)), (2, .int (nI i))]) S.1 S.2.1 d_K_hasNothing_32 hl (by decide) rfl (fun ls hl => ?_)
    refine loop (fk_as (bf i)) 0 (i + fk_hd (bf i)) H locs ls (by omega) (by rw [Nat.add_sub_cancel' has]; exact hts) rfl G ?_
    rw [show fk_as (bf i) = 1 from if_pos hc4]
    exact hl
theorem d_K_beginningFault_0 : decode b_K_beginningFault 0 = .ok (.iconst (-1), 1) := by decide +kernel
theorem d_K_beginningFault_1 : decode b_K_beginningFault 1 = .ok (.istore_n 2, 1) := by decide +kernel
theorem d_K_beginningFault_2 : decode b_K_beginningFault 2 = .ok (.aload_n 1, 1) := by decide +kernel
theorem d_K_beginningFault_3 : decode b_K_beginningFault 3 = .ok (.getfield 101, 3) := by decide +kernel
theorem d_K_beginningFault_6 : decode b_K_beginningFault 6 = .ok (.iconst 1, 1) := by decide +kernel
theorem d_K_beginningFault_7 : decode b_K_beginningFault 7 = .ok (.isub, 1) := by decide +kernel
theorem d_K_beginningFault_8 : decode b_K_beginningFault 8 = .ok (.istore_n 3, 1) := by decide +kernel
theorem d_K_beginningFault_9 : decode b_K_beginningFault 9 = .ok (.iload_n 3, 1) := by decide +kernel
theorem d_K_beginningFault_10 : decode b_K_beginningFault 10 = .ok (.ifCond .lt 84, 3) := by decide +kernel
theorem d_K_beginningFault_13 : decode b_K_beginningFault 13 = .ok (.aload_n 1, 1) := by decide +kernel
theorem d_K_beginningFault_14 : decode b_K_beginningFault 14 = .ok (.iload_n 3, 1) := by decide +kernel
theorem d_K_beginningFault_15 : decode b_K_beginningFault 15 = .ok (.invokevirtual 106, 3) := by decide +kernel
theorem d_K_beginningFault_18 : decode b_K_beginningFault 18 = .ok (.ifCond .ne 6, 3) := by decide +kernel
theorem d_K_beginningFault_21 : decode b_K_beginningFault 21 = .ok (.goto 67, 3) := by decide +kernel
theorem d_K_beginningFault_24 : decode b_K_beginningFault 24 = .ok (.aload_n 1, 1) := by decide +kernel
theorem d_K_beginningFault_25 : decode b_K_beginningFault 25 = .ok (.getfield 117, 3) := by decide +kernel
theorem d_K_beginningFault_28 : decode b_K_beginningFault 28 = .ok (.iload_n 3, 1) := by decide +kernel
theorem d_K_beginningFault_29 : decode b_K_beginningFault 29 = .ok (.iaload, 1) := by decide +kernel
theorem d_K_beginningFault_30 : decode b_K_beginningFault 30 = .ok (.istore 4, 2) := by decide +kernel
theorem d_K_beginningFault_32 : decode b_K_beginningFault 32 = .ok (.iload 4, 2) := by decide +kernel
theorem d_K_beginningFault_34 : decode b_K_beginningFault 34 = .ok (.bipush 14, 2) := by decide +kernel
theorem d_K_beginningFault_36 : decode b_K_beginningFault 36 = .ok (.if_icmp .eq 10, 3) := by decide +kernel
theorem d_K_beginningFault_39 : decode b_K_beginningFault 39 = .ok (.iload 4, 2) := by decide +kernel
theorem d_K_beginningFault_41 : decode b_K_beginningFault 41 = .ok (.bipush 15, 2) := by decide +kernel
theorem d_K_beginningFault_43 : decode b_K_beginningFault 43 = .ok (.if_icmp .ne 18, 3) := by decide +kernel
theorem d_K_beginningFault_46 : decode b_K_beginningFault 46 = .ok (.aload_n 0, 1) := by decide +kernel
theorem d_K_beginningFault_47 : decode b_K_beginningFault 47 = .ok (.getfield 15, 3) := by decide +kernel
theorem d_K_beginningFault_50 : decode b_K_beginningFault 50 = .ok (.aload_n 1, 1) := by decide +kernel
theorem d_K_beginningFault_51 : decode b_K_beginningFault 51 = .ok (.iload_n 3, 1) := by decide +kernel
theorem d_K_beginningFault_52 : decode b_K_beginningFault 52 = .ok (.invokevirtual 132, 3) := by decide +kernel
theorem d_K_beginningFault_55 : decode b_K_beginningFault 55 = .ok (.baload, 1) := by decide +kernel
theorem d_K_beginningFault_56 : decode b_K_beginningFault 56 = .ok (.ifCond .eq 5, 3) := by decide +kernel
theorem d_K_beginningFault_59 : decode b_K_beginningFault 59 = .ok (.iload_n 3, 1) := by decide +kernel
theorem d_K_beginningFault_60 : decode b_K_beginningFault 60 = .ok (.istore_n 2, 1) := by decide +kernel
theorem d_K_beginningFault_61 : decode b_K_beginningFault 61 = .ok (.aload_n 0, 1) := by decide +kernel
theorem d_K_beginningFault_62 : decode b_K_beginningFault 62 = .ok (.getfield 15, 3) := by decide +kernel
theorem d_K_beginningFault_65 : decode b_K_beginningFault 65 = .ok (.iload_n 3, 1) := by decide +kernel
theorem d_K_beginningFault_66 : decode b_K_beginningFault 66 = .ok (.iload 4, 2) := by decide +kernel
theorem d_K_beginningFault_68 : decode b_K_beginningFault 68 = .ok (.bipush 14, 2) := by decide +kernel
theorem d_K_beginningFault_70 : decode b_K_beginningFault 70 = .ok (.if_icmp .eq 12, 3) := by decide +kernel
theorem d_K_beginningFault_73 : decode b_K_beginningFault 73 = .ok (.aload_n 0, 1) := by decide +kernel
theorem d_K_beginningFault_74 : decode b_K_beginningFault 74 = .ok (.aload_n 1, 1) := by decide +kernel
theorem d_K_beginningFault_75 : decode b_K_beginningFault 75 = .ok (.iload_n 3, 1) := by decide +kernel
theorem d_K_beginningFault_76 : decode b_K_beginningFault 76 = .ok (.invokevirtual 158, 3) := by decide +kernel
theorem d_K_beginningFault_79 : decode b_K_beginningFault 79 = .ok (.ifCond .eq 7, 3) := by decide +kernel
theorem d_K_beginningFault_82 : decode b_K_beginningFault 82 = .ok (.iconst 1, 1) := by decide +kernel
theorem d_K_beginningFault_83 : decode b_K_beginningFault 83 = .ok (.goto 4, 3) := by decide +kernel
theorem d_K_beginningFault_86 : decode b_K_beginningFault 86 = .ok (.iconst 0, 1) := by decide +kernel
theorem d_K_beginningFault_87 : decode b_K_beginningFault 87 = .ok (.bastore, 1) := by decide +kernel
theorem d_K_beginningFault_88 : decode b_K_beginningFault 88 = .ok (.iinc 3 (-1), 3) := by decide +kernel
theorem d_K_beginningFault_91 : decode b_K_beginningFault 91 = .ok (.goto (-82), 3) := by decide +kernel
theorem d_K_beginningFault_94 : decode b_K_beginningFault 94 = .ok (.aload_n 0, 1) := by decide +kernel
theorem d_K_beginningFault_95 : decode b_K_beginningFault 95 = .ok (.getfield 15, 3) := by decide +kernel
theorem d_K_beginningFault_98 : decode b_K_beginningFault 98 = .ok (.iconst 0, 1) := by decide +kernel
theorem d_K_beginningFault_99 : decode b_K_beginningFault 99 = .ok (.baload, 1) := by decide +kernel
theorem d_K_beginningFault_100 : decode b_K_beginningFault 100 = .ok (.ifCond .eq 7, 3) := by decide +kernel
theorem d_K_beginningFault_103 : decode b_K_beginningFault 103 = .ok (.iconst 0, 1) := by decide +kernel
theorem d_K_beginningFault_104 : decode b_K_beginningFault 104 = .ok (.goto 4, 3) := by decide +kernel
theorem d_K_beginningFault_107 : decode b_K_beginningFault 107 = .ok (.iload_n 2, 1) := by decide +kernel
theorem d_K_beginningFault_108 : decode b_K_beginningFault 108 = .ok (.ireturn, 1) := by decide +kernel
theorem m_K_beginningFault : fk_MI y_K_beginningFault b_K_beginningFault 5 (some .int) 1 := ⟨i_331, i_330, fk_mp (q := (y_K_beginningFault, 7)) (by decide +kernel), i_6, by decide +kernel⟩
set_option maxHeartbeats 4000000 in
set_option maxRecDepth 100000 in
theorem c_K_beginningFault (l : Launch) (g : fk_G) (ov : Int64) (M : fk_M) (x : Nat) (hX : fk_X x) (bf : Nat → Nat) (n cnt : Nat) (hn40 : n ≤ 40) (h12 : cnt ≤ 12) (hb : ∀ j, j < n → M (x + 1) j = nI (bf j)) (hlen : M x 4 = nI n) (hT : fk_T bf n cnt (M (x + 2)) 11 0 n) (hpos : 0 < n) : fk_CI l y_K_beginningFault b_K_beginningFault 5 (some .int) (fk_rm 2) g ov M (va_up M 81 (fk_bg bf (M (x + 2)) n none (M 81)).2) [.ref (fk_a g 79), .ref (fk_a g x)] (if (fk_bg bf (M (x + 2)) n none (M 81)).2 0 = 0 then fk_rv (fk_bg bf (M (x + 2)) n none (M 81)).1 else nI 0) := by
  refine fk_ofI rfl (Nat.le_of_ble_eq_true rfl) ?_
  intro p e s m args below meth c ls S hr hlk E G hl
  have hl : lv_has ls 5 [(0, .ref (fk_a g 79)), (1, .ref (fk_a g x))] := hl
  have exl := fk_Xlt hX
  have loop : ∀ (d : Nat) (lo : Option Nat) (A : Nat → Int32) (H : Heap) (locs : List Loc) (ls : Array Slot), d ≤ n → fk_bg bf (M (x + 2)) d lo A = fk_bg bf (M (x + 2)) n none (M 81) → fk_H g ov (va_up M 81 A) s H locs → lv_has ls 5 [(3, .int (nI d - 1)), (2, .int (fk_rv lo)), (0, .ref (fk_a g 79)), (1, .ref (fk_a g x))] → W p l e (fk_rm (2)) s m args below meth c H locs 0 0 (MQ below (va_Qi (fun rr (_ : Unit) => rr = (if (fk_bg bf (M (x + 2)) n none (M 81)).2 0 = 0 then fk_rv (fk_bg bf (M (x + 2)) n none (M 81)).1 else nI 0)) (fun _ t9 => fk_Wd g ov (va_up M 81 (fk_bg bf (M (x + 2)) n none (M 81)).2) t9) (fk_A g)) args s 0 0 (fk_A g)) (F0 m 9 ls []) := by
    intro d
    induction d with
    | zero =>
      intro lo A H locs ls hv0 hv1 G hl
      obtain ⟨M1, hM1⟩ : ∃ z : fk_M, z = va_up M 81 A := ⟨_, rfl⟩
      rw [← hM1] at G
      have ex : ∀ k, k ≠ 81 → M1 k = M k := fun k hk => by rw [hM1, va_up_ne _ _ hk]
      have hx1 : M1 (x + 1) = M (x + 1) := ex _ (by rcases hX with h9 | ⟨z, h8, h9⟩ <;> omega)
      have hx2 : M1 (x + 2) = M (x + 2) := ex _ (by rcases hX with h9 | ⟨z, h8, h9⟩ <;> omega)
      have h81 : M1 81 = A := by rw [hM1, va_up_self]
      have hb1 : ∀ j, j < n → M1 (x + 1) j = nI (bf j) := fun j hj => by rw [hx1]; exact hb j hj
      refine lv_iload_n S.1 S.2.1 d_K_beginningFault_9 rfl (lv_at hl 0 rfl) ?_
      refine lv_if_lt (tgt := 94) S.1 S.2.1 d_K_beginningFault_10 rfl (fun hc1 => ?_) (fun hc1 => ?_)
      · refine lv_aload_n S.1 S.2.1 d_K_beginningFault_94 rfl (lv_at hl 2 rfl) ?_
        refine fk_gf S E G 79 (by decide) (v := .ref (fk_a g 81)) (congrArg (fk_ce g ov 79 (M1 79)) kd_79) rfl 3 (by decide) rfl i_159 rfl d_K_beginningFault_95 ?_
        refine lv_iconst (v := nI 0) S.1 S.2.1 d_K_beginningFault_98 (by decide +kernel) ?_
        refine fk_za S E G 81 (by decide) (congrArg (fk_ce g ov 81 (M1 81)) kd_81) 0 rfl (by omega) (by decide) (v := M1 81 0) rfl d_K_beginningFault_99 ?_
        refine lv_if_eq (tgt := 107) S.1 S.2.1 d_K_beginningFault_100 rfl (fun hc2 => ?_) (fun hc2 => ?_)
        · have hres : fk_bg bf (M (x + 2)) n none (M 81) = (lo, A) := hv1.symm
          rw [h81] at hc2
          refine lv_iload_n S.1 S.2.1 d_K_beginningFault_107 rfl (lv_at hl 1 rfl) ?_
          exact fk_iret S hr hlk E G (by rw [hM1, hres]) (by rw [hres]; exact (if_pos hc2).symm) d_K_beginningFault_108
        · have hres : fk_bg bf (M (x + 2)) n none (M 81) = (lo, A) := hv1.symm
          rw [h81] at hc2
          refine lv_iconst (v := nI 0) S.1 S.2.1 d_K_beginningFault_103 (by decide +kernel) ?_
          refine lv_goto (tgt := 108) S.1 S.2.1 d_K_beginningFault_104 rfl ?_
          exact fk_iret S hr hlk E G (by rw [hM1, hres]) (by rw [hres]; exact (if_neg hc2).symm) d_K_beginningFault_108
      · exact absurd (by decide +kernel) hc1
    | succ d ih =>
      intro lo A H locs ls hv0 hv1 G hl
      rw [nI_pred] at hl
      obtain ⟨M1, hM1⟩ : ∃ z : fk_M, z = va_up M 81 A := ⟨_, rfl⟩
      rw [← hM1] at G
      have ex : ∀ k, k ≠ 81 → M1 k = M k := fun k hk => by rw [hM1, va_up_ne _ _ hk]
      have hx1 : M1 (x + 1) = M (x + 1) := ex _ (by rcases hX with h9 | ⟨z, h8, h9⟩ <;> omega)
      have hx2 : M1 (x + 2) = M (x + 2) := ex _ (by rcases hX with h9 | ⟨z, h8, h9⟩ <;> omega)
      have h81 : M1 81 = A := by rw [hM1, va_up_self]
      have hb1 : ∀ j, j < n → M1 (x + 1) j = nI (bf j) := fun j hj => by rw [hx1]; exact hb j hj
      refine lv_iload_n S.1 S.2.1 d_K_beginningFault_9 rfl (lv_at hl 0 rfl) ?_
      refine lv_if_lt (tgt := 94) S.1 S.2.1 d_K_beginningFault_10 rfl (fun hc3 => ?_) (fun hc3 => ?_)
      · exact absurd hc3 (nI_pos (by omega))
      · refine lv_aload_n S.1 S.2.1 d_K_beginningFault_13 rfl (lv_at hl 3 rfl) ?_
        refine lv_iload_n S.1 S.2.1 d_K_beginningFault_14 rfl (lv_at hl 0 rfl) ?_
        refine fk_cni S E G x (by have := fk_Xlt hX; omega) (congrArg (fk_ce g ov x (M1 x)) (fk_kx0 hX)) rfl (rest := []) (c_E_beginsAt l g ov M1 x hX d (by omega)) m_E_beginsAt (List.mem_of_getElem? (i := 17) rfl) ⟨rfl, rfl⟩ ⟨by decide, by decide⟩ rfl rfl hl.1 (Nat.le_of_ble_eq_true rfl) d_K_beginningFault_15 ⟨Nat.zero_le _, Nat.zero_le _⟩ (fun H locs G => ?_)
        refine fk_zne (tgt := 24) S.1 S.2.1 (fk_bl _) d_K_beginningFault_18 rfl (fun hc4 => ?_) (fun hc4 => ?_)
        · have hE := of_decide_eq_true (fk_bt hc4)
          rw [hx2] at hE
          obtain ⟨r, ee, hq10, hok, hEe, hlt, hle, hts⟩ := fk_node (by omega) hT (show d < n by omega) hE
          have hok2 := hok.2.1
          have hlen2 := hok.2.2.1
          have hhn := c_K_hasNothing l g ov M1 x hX bf n cnt hn40 h12 hb1 d hok r ee (by rw [hx2]; exact hts)
          rw [hx2, h81] at hhn
          refine lv_aload_n S.1 S.2.1 d_K_beginningFault_24 rfl (lv_at hl 3 rfl) ?_
          refine fk_gn S E G x (by have := fk_Xlt hX; omega) (v := .ref (fk_a g (x + 1))) (congrArg (fk_ce g ov x (M1 x)) (fk_kx0 hX)) rfl 0 (by decide) rfl (List.mem_of_getElem? (i := 1) rfl) rfl d_K_beginningFault_25 ?_
          refine lv_iload_n S.1 S.2.1 d_K_beginningFault_28 rfl (lv_at hl 0 rfl) ?_
          refine fk_ia S E G (x + 1) (by have := fk_Xlt hX; omega) (congrArg (fk_ce g ov (x + 1) (M1 (x + 1))) (fk_kx1 hX)) d rfl (by omega) (by decide) (v := nI (bf d)) (hb1 d (by omega)) d_K_beginningFault_29 ?_
          refine lv_istore (lv' := [(4, .int (nI (bf d))), (3, .int (nI d)), (2, .int (fk_rv lo)), (0, .ref (fk_a g 79)), (1, .ref (fk_a g x))]) S.1 S.2.1 d_K_beginningFault_30 hl (by decide) rfl (fun ls hl => ?_)
          have mid : ∀ (lo2 : Option Nat) (H : Heap) (locs : List Loc) (ls : Array Slot), lo2 = (if (bf d = 14 ∨ bf d = 15) ∧ ¬ A (d + fk_hd (bf d)) = 0 then some d else lo) → fk_H g ov M1 s H locs → lv_has ls 5 [(4, .int (nI (bf d))), (3, .int (nI d)), (2, .int (fk_rv lo2)), (0, .ref (fk_a g 79)), (1, .ref (fk_a g x))] → W p l e (fk_rm (2)) s m args below meth c H locs 0 0 (MQ below (va_Qi (fun rr (_ : Unit) => rr = (if (fk_bg bf (M (x + 2)) n none (M 81)).2 0 = 0 then fk_rv (fk_bg bf (M (x + 2)) n none (M 81)).1 else nI 0)) (fun _ t9 => fk_Wd g ov (va_up M 81 (fk_bg bf (M (x + 2)) n none (M 81)).2) t9) (fk_A g)) args s 0 0 (fk_A g)) (F0 m 61 ls []) := by
            intro lo2 H locs ls hlo G hl
            refine lv_aload_n S.1 S.2.1 d_K_beginningFault_61 rfl (lv_at hl 3 rfl) ?_
            refine fk_gf S E G 79 (by decide) (v := .ref (fk_a g 81)) (congrArg (fk_ce g ov 79 (M1 79)) kd_79) rfl 3 (by decide) rfl i_159 rfl d_K_beginningFault_62 ?_
            refine lv_iload_n S.1 S.2.1 d_K_beginningFault_65 rfl (lv_at hl 1 rfl) ?_
            refine lv_iload S.1 S.2.1 d_K_beginningFault_66 (lv_at hl 0 rfl) ?_
            refine lv_bipush (v := nI 14) S.1 S.2.1 d_K_beginningFault_68 (by decide +kernel) ?_
            refine fk_ceq (tgt := 82) S.1 S.2.1 (by omega) (by omega) d_K_beginningFault_70 rfl (fun hc5 => ?_) (fun hc5 => ?_)
            · refine lv_iconst (v := nI 1) S.1 S.2.1 d_K_beginningFault_82 (by decide +kernel) ?_
              refine lv_goto (tgt := 87) S.1 S.2.1 d_K_beginningFault_83 rfl ?_
              refine fk_zs S E G 81 (by decide) (fun r => congrArg (fk_ce g ov 81 r) kd_81) d rfl (by omega) (by decide) (Or.inr (by decide +kernel)) d_K_beginningFault_87 (fun H locs G => ?_)
              obtain ⟨M6, hM6⟩ : ∃ z : fk_M, z = va_up M1 81 (upd (M1 81) d (nI 1)) := ⟨_, rfl⟩
              rw [← hM6] at G
              rw [hM6, h81, hM1, bx_uu] at G
              have hbit : (decide (bf d = 14) || fk_hn (M (x + 2)) A (fk_as (bf d)) (d + fk_hd (bf d))) = true := by
                rw [decide_eq_true hc5]; rfl
              refine lv_iinc (k := 1) (v := nI d - 1) (lv' := [(3, .int (nI d - 1)), (4, .int (nI (bf d))), (2, .int (fk_rv lo2)), (0, .ref (fk_a g 79)), (1, .ref (fk_a g x))]) S.1 S.2.1 d_K_beginningFault_88 hl rfl (fk_dec _) (by decide) rfl (fun ls hl => ?_)
              refine lv_goto (tgt := 9) S.1 S.2.1 d_K_beginningFault_91 rfl ?_
              exact ih lo2 (upd A d (nI 1)) H locs ls (by omega) (by rw [← hv1, fk_bg_S, if_neg (fun q => q hE), hbit, ← hlo]; rfl) G (lv_sub hl [0, 2, 3, 4] rfl)
            · refine lv_aload_n S.1 S.2.1 d_K_beginningFault_73 rfl (lv_at hl 3 rfl) ?_
              refine lv_aload_n S.1 S.2.1 d_K_beginningFault_74 rfl (lv_at hl 4 rfl) ?_
              refine lv_iload_n S.1 S.2.1 d_K_beginningFault_75 rfl (lv_at hl 1 rfl) ?_
              refine fk_cvi S E G 79 (by decide) (congrArg (fk_ce g ov 79 (M1 79)) kd_79) rfl (rest := [.int (nI d), .ref (fk_a g 81)]) hhn m_K_hasNothing i_332 ⟨rfl, rfl⟩ ⟨by decide, by decide⟩ rfl rfl hl.1 (Nat.le_of_ble_eq_true rfl) d_K_beginningFault_76 ⟨Nat.zero_le _, Nat.zero_le _⟩ (fun H locs G => ?_)
              refine fk_zeq (tgt := 86) S.1 S.2.1 (fk_bl _) d_K_beginningFault_79 rfl (fun hc7 => ?_) (fun hc7 => ?_)
              · refine lv_iconst (v := nI 0) S.1 S.2.1 d_K_beginningFault_86 (by decide +kernel) ?_
                refine fk_zs S E G 81 (by decide) (fun r => congrArg (fk_ce g ov 81 r) kd_81) d rfl (by omega) (by decide) (Or.inl (by decide +kernel)) d_K_beginningFault_87 (fun H locs G => ?_)
                obtain ⟨M8, hM8⟩ : ∃ z : fk_M, z = va_up M1 81 (upd (M1 81) d (nI 0)) := ⟨_, rfl⟩
                rw [← hM8] at G
                rw [hM8, h81, hM1, bx_uu] at G
                have hbit : (decide (bf d = 14) || fk_hn (M (x + 2)) A (fk_as (bf d)) (d + fk_hd (bf d))) = false := by
                  rw [decide_eq_false hc5, fk_bf hc7]; rfl
                refine lv_iinc (k := 1) (v := nI d - 1) (lv' := [(3, .int (nI d - 1)), (4, .int (nI (bf d))), (2, .int (fk_rv lo2)), (0, .ref (fk_a g 79)), (1, .ref (fk_a g x))]) S.1 S.2.1 d_K_beginningFault_88 hl rfl (fk_dec _) (by decide) rfl (fun ls hl => ?_)
                refine lv_goto (tgt := 9) S.1 S.2.1 d_K_beginningFault_91 rfl ?_
                exact ih lo2 (upd A d (nI 0)) H locs ls (by omega) (by rw [← hv1, fk_bg_S, if_neg (fun q => q hE), hbit, ← hlo]; rfl) G (lv_sub hl [0, 2, 3, 4] rfl)
              · refine lv_iconst (v := nI 1) S.1 S.2.1 d_K_beginningFault_82 (by decide +kernel) ?_
                refine lv_goto (tgt := 87) S.1 S.2.1 d_K_beginningFault_83 rfl ?_
                refine fk_zs S E G 81 (by decide) (fun r => congrArg (fk_ce g ov 81 r) kd_81) d rfl (by omega) (by decide) (Or.inr (by decide +kernel)) d_K_beginningFault_87 (fun H locs G => ?_)
                obtain ⟨M9, hM9⟩ : ∃ z : fk_M, z = va_up M1 81 (upd (M1 81) d (nI 1)) := ⟨_, rfl⟩
                rw [← hM9] at G
                rw [hM9, h81, hM1, bx_uu] at G
                have hbit : (decide (bf d = 14) || fk_hn (M (x + 2)) A (fk_as (bf d)) (d + fk_hd (bf d))) = true := by
                  rw [decide_eq_false hc5, fk_bt hc7]; rfl
                refine lv_iinc (k := 1) (v := nI d - 1) (lv' := [(3, .int (nI d - 1)), (4, .int (nI (bf d))), (2, .int (fk_rv lo2)), (0, .ref (fk_a g 79)), (1, .ref (fk_a g x))]) S.1 S.2.1 d_K_beginningFault_88 hl rfl (fk_dec _) (by decide) rfl (fun ls hl => ?_)
                refine lv_goto (tgt := 9) S.1 S.2.1 d_K_beginningFault_91 rfl ?_
                exact ih lo2 (upd A d (nI 1)) H locs ls (by omega) (by rw [← hv1, fk_bg_S, if_neg (fun q => q hE), hbit, ← hlo]; rfl) G (lv_sub hl [0, 2, 3, 4] rfl)
          refine lv_iload S.1 S.2.1 d_K_beginningFault_32 (lv_at hl 0 rfl) ?_
          refine lv_bipush (v := nI 14) S.1 S.2.1 d_K_beginningFault_34 (by decide +kernel) ?_
          refine fk_ceq (tgt := 46) S.1 S.2.1 (by omega) (by omega) d_K_beginningFault_36 rfl (fun hc10 => ?_) (fun hc10 => ?_)
          · have hk2 : fk_ar (bf d) = 1 ∨ fk_ar (bf d) = 2 := by
              rcases (Or.inl hc10 : bf d = 14 ∨ bf d = 15) with h9 | h9 <;> rw [h9] <;> decide
            have hc1 : d + fk_hd (bf d) < 40 := by
              rcases hk2 with h9 | h9 <;> rw [h9] at hts
              · obtain ⟨y1, t1, -⟩ := hts
                have := fk_T_lt _ _ _ t1
                omega
              · obtain ⟨y1, t1, -⟩ := hts
                have := fk_T_lt _ _ _ t1
                omega
            refine lv_aload_n S.1 S.2.1 d_K_beginningFault_46 rfl (lv_at hl 3 rfl) ?_
            refine fk_gf S E G 79 (by decide) (v := .ref (fk_a g 81)) (congrArg (fk_ce g ov 79 (M1 79)) kd_79) rfl 3 (by decide) rfl i_159 rfl d_K_beginningFault_47 ?_
            refine lv_aload_n S.1 S.2.1 d_K_beginningFault_50 rfl (lv_at hl 4 rfl) ?_
            refine lv_iload_n S.1 S.2.1 d_K_beginningFault_51 rfl (lv_at hl 1 rfl) ?_
            refine fk_cni S E G x (by have := fk_Xlt hX; omega) (congrArg (fk_ce g ov x (M1 x)) (fk_kx0 hX)) rfl (rest := [.ref (fk_a g 81)]) (c_E_firstPart l g ov M1 x hX d (bf d) (by omega) (by omega) (hb1 d (by omega))) m_E_firstPart (List.mem_of_getElem? (i := 20) rfl) ⟨rfl, rfl⟩ ⟨by decide, by decide⟩ rfl rfl hl.1 (Nat.le_of_ble_eq_true rfl) d_K_beginningFault_52 ⟨Nat.zero_le _, Nat.zero_le _⟩ (fun H locs G => ?_)
            refine fk_za S E G 81 (by decide) (congrArg (fk_ce g ov 81 (M1 81)) kd_81) (d + fk_hd (bf d)) rfl hc1 (by decide) (v := A (d + fk_hd (bf d))) (by rw [h81]) d_K_beginningFault_55 ?_
            refine lv_if_eq (tgt := 61) S.1 S.2.1 d_K_beginningFault_56 rfl (fun hc11 => ?_) (fun hc11 => ?_)
            · exact mid lo H locs ls (if_neg (fun q => q.2 hc11)).symm G hl
            · refine lv_iload_n S.1 S.2.1 d_K_beginningFault_59 rfl (lv_at hl 1 rfl) ?_
              refine lv_istore_n (lv' := [(2, .int (nI d)), (4, .int (nI (bf d))), (3, .int (nI d)), (0, .ref (fk_a g 79)), (1, .ref (fk_a g x))]) S.1 S.2.1 d_K_beginningFault_60 rfl hl (by decide) rfl (fun ls hl => ?_)
              exact mid (some d) H locs ls (if_pos ⟨(Or.inl hc10 : bf d = 14 ∨ bf d = 15), hc11⟩).symm G (lv_sub hl [1, 2, 0, 3, 4] rfl)
          · refine lv_iload S.1 S.2.1 d_K_beginningFault_39 (lv_at hl 0 rfl) ?_
            refine lv_bipush (v := nI 15) S.1 S.2.1 d_K_beginningFault_41 (by decide +kernel) ?_
            refine fk_cne (tgt := 61) S.1 S.2.1 (by omega) (by omega) d_K_beginningFault_43 rfl (fun hc12 => ?_) (fun hc12 => ?_)
            · exact mid lo H locs ls (if_neg (fun q => q.1.elim hc10 hc12)).symm G hl
            · have hk2 : fk_ar (bf d) = 1 ∨ fk_ar (bf d) = 2 := by
                rcases (Or.inr hc12 : bf d = 14 ∨ bf d = 15) with h9 | h9 <;> rw [h9] <;> decide
              have hc1 : d + fk_hd (bf d) < 40 := by
                rcases hk2 with h9 | h9 <;> rw [h9] at hts
                · obtain ⟨y1, t1, -⟩ := hts
                  have := fk_T_lt _ _ _ t1
                  omega
                · obtain ⟨y1, t1, -⟩ := hts
                  have := fk_T_lt _ _ _ t1
                  omega
              refine lv_aload_n S.1 S.2.1 d_K_beginningFault_46 rfl (lv_at hl 3 rfl) ?_
              refine fk_gf S E G 79 (by decide) (v := .ref (fk_a g 81)) (congrArg (fk_ce g ov 79 (M1 79)) kd_79) rfl 3 (by decide) rfl i_159 rfl d_K_beginningFault_47 ?_
              refine lv_aload_n S.1 S.2.1 d_K_beginningFault_50 rfl (lv_at hl 4 rfl) ?_
              refine lv_iload_n S.1 S.2.1 d_K_beginningFault_51 rfl (lv_at hl 1 rfl) ?_
              refine fk_cni S E G x (by have := fk_Xlt hX; omega) (congrArg (fk_ce g ov x (M1 x)) (fk_kx0 hX)) rfl (rest := [.ref (fk_a g 81)]) (c_E_firstPart l g ov M1 x hX d (bf d) (by omega) (by omega) (hb1 d (by omega))) m_E_firstPart (List.mem_of_getElem? (i := 20) rfl) ⟨rfl, rfl⟩ ⟨by decide, by decide⟩ rfl rfl hl.1 (Nat.le_of_ble_eq_true rfl) d_K_beginningFault_52 ⟨Nat.zero_le _, Nat.zero_le _⟩ (fun H locs G => ?_)
              refine fk_za S E G 81 (by decide) (congrArg (fk_ce g ov 81 (M1 81)) kd_81) (d + fk_hd (bf d)) rfl hc1 (by decide) (v := A (d + fk_hd (bf d))) (by rw [h81]) d_K_beginningFault_55 ?_
              refine lv_if_eq (tgt := 61) S.1 S.2.1 d_K_beginningFault_56 rfl (fun hc13 => ?_) (fun hc13 => ?_)
              · exact mid lo H locs ls (if_neg (fun q => q.2 hc13)).symm G hl
              · refine lv_iload_n S.1 S.2.1 d_K_beginningFault_59 rfl (lv_at hl 1 rfl) ?_
                refine lv_istore_n (lv' := [(2, .int (nI d)), (4, .int (nI (bf d))), (3, .int (nI d)), (0, .ref (fk_a g 79)), (1, .ref (fk_a g x))]) S.1 S.2.1 d_K_beginningFault_60 rfl hl (by decide) rfl (fun ls hl => ?_)
                exact mid (some d) H locs ls (if_pos ⟨(Or.inr hc12 : bf d = 14 ∨ bf d = 15), hc13⟩).symm G (lv_sub hl [1, 2, 0, 3, 4] rfl)
        · have hE := of_decide_eq_false (fk_bf hc4)
          rw [hx2] at hE
          refine lv_goto (tgt := 88) S.1 S.2.1 d_K_beginningFault_21 rfl ?_
          rw [hM1] at G
          refine lv_iinc (k := 0) (v := nI d - 1) (lv' := [(3, .int (nI d - 1)), (2, .int (fk_rv lo)), (0, .ref (fk_a g 79)), (1, .ref (fk_a g x))]) S.1 S.2.1 d_K_beginningFault_88 hl rfl (fk_dec _) (by decide) rfl (fun ls hl => ?_)
          refine lv_goto (tgt := 9) S.1 S.2.1 d_K_beginningFault_91 rfl ?_
          exact ih lo A H locs ls (by omega) (by rw [← hv1, fk_bg_S, if_pos hE]) G (lv_sub hl [0, 1, 2, 3] rfl)
  refine lv_iconst (v := -1) S.1 S.2.1 d_K_beginningFault_0 (by decide +kernel) ?_
  refine lv_istore_n (lv' := [(2, .int (-1)), (0, .ref (fk_a g 79)), (1, .ref (fk_a g x))]) S.1 S.2.1 d_K_beginningFault_1 rfl hl (by decide) rfl (fun ls hl => ?_)
  refine lv_aload_n S.1 S.2.1 d_K_beginningFault_2 rfl (lv_at hl 2 rfl) ?_
  refine fk_gn S E G x (by have := fk_Xlt hX; omega) (v := .int (M x 4)) (congrArg (fk_ce g ov x (M x)) (fk_kx0 hX)) rfl 4 (by decide) rfl (List.mem_of_getElem? (i := 11) rfl) rfl d_K_beginningFault_3 ?_
  rw [hlen]
  refine lv_iconst (v := nI 1) S.1 S.2.1 d_K_beginningFault_6 (by decide +kernel) ?_
  refine fk_isub S.1 S.2.1 (by omega) d_K_beginningFault_7 ?_
  refine lv_istore_n (lv' := [(3, .int (nI (n - 1))), (2, .int (-1)), (0, .ref (fk_a g 79)), (1, .ref (fk_a g x))]) S.1 S.2.1 d_K_beginningFault_8 rfl hl (by decide) rfl (fun ls hl => ?_)
  rw [show nI (n - 1) = nI n - 1 by rw [← pk_sub (show 1 ≤ n by omega)]; rfl] at hl
  exact loop n none (M 81) s.heap [] ls (Nat.le_refl _) rfl (by rw [fk_upid]; exact G) hl
