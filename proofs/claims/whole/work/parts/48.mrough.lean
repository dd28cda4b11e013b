theorem g_X3_95 : GoodIn wsAll (wsV RX3 95 RX3 yX3_move3 wsX3_move3) := z_good (show ∀ w ∈ (Cond.methodLink RX3 95 yX3_move3 :: Cond.instanceMethod yX3_move3 :: Cond.selects RX3 yX3_move3 yX3_move3 :: Cond.initialized RX3 :: Cond.code yX3_move3 prog_5_method_16_code 4 none :: wsAll), w ∈ wsAll from List.forall_mem_cons.mpr ⟨wm_506, List.forall_mem_cons.mpr ⟨wm_507, List.forall_mem_cons.mpr ⟨wm_576, List.forall_mem_cons.mpr ⟨wm_114, List.forall_mem_cons.mpr ⟨wm_508, fun _ h => h⟩⟩⟩⟩⟩)
theorem g_X3_92 : GoodIn wsAll (wsV RX3 92 RX3 yX3_noTips wsX3_noTips) := z_good (show ∀ w ∈ (Cond.methodLink RX3 92 yX3_noTips :: Cond.instanceMethod yX3_noTips :: Cond.selects RX3 yX3_noTips yX3_noTips :: Cond.initialized RX3 :: Cond.code yX3_noTips prog_5_method_17_code 2 none :: wsAll), w ∈ wsAll from List.forall_mem_cons.mpr ⟨wm_503, List.forall_mem_cons.mpr ⟨wm_504, List.forall_mem_cons.mpr ⟨wm_575, List.forall_mem_cons.mpr ⟨wm_114, List.forall_mem_cons.mpr ⟨wm_505, fun _ h => h⟩⟩⟩⟩⟩)
theorem g_X3_99 : GoodIn wsAll (wsV RX3 99 RX3 yX3_carve wsX3_carve) := z_good (show ∀ w ∈ (Cond.methodLink RX3 99 yX3_carve :: Cond.instanceMethod yX3_carve :: Cond.selects RX3 yX3_carve yX3_carve :: Cond.initialized RX3 :: Cond.code yX3_carve prog_5_method_18_code 9 none :: wsAll), w ∈ wsAll from List.forall_mem_cons.mpr ⟨wm_512, List.forall_mem_cons.mpr ⟨wm_513, List.forall_mem_cons.mpr ⟨wm_577, List.forall_mem_cons.mpr ⟨wm_114, List.forall_mem_cons.mpr ⟨wm_514, fun _ h => h⟩⟩⟩⟩⟩)
theorem g_X3_89 : GoodIn wsAll (wsV RX3 89 RX3 yX3_begin wsX3_begin) := z_good (show ∀ w ∈ (Cond.methodLink RX3 89 yX3_begin :: Cond.instanceMethod yX3_begin :: Cond.selects RX3 yX3_begin yX3_begin :: Cond.initialized RX3 :: Cond.code yX3_begin prog_5_method_15_code 1 none :: wsAll), w ∈ wsAll from List.forall_mem_cons.mpr ⟨wm_500, List.forall_mem_cons.mpr ⟨wm_501, List.forall_mem_cons.mpr ⟨wm_574, List.forall_mem_cons.mpr ⟨wm_114, List.forall_mem_cons.mpr ⟨wm_502, fun _ h => h⟩⟩⟩⟩⟩)
abbrev r_X3_rough : Room := { frames := 3, cells := 0, slots := 0, locals := 76 }
set_option maxHeartbeats 4000000 in
set_option maxRecDepth 100000 in
theorem lp_X3_rough_60 {p : Program} {l : Launch} {e : Env} {s : State} {m : MethodId} {args : Array Value} {below : List Frame} {meth : Method} {c : Code} {Q : State → Prop} {A : Nat → Prop} {dC : Nat → ClassId} {dI : Nat → Nat → Nat} (b : Nat → Nat) (cB : Nat → ClassId) (w h : Nat) (cd : Int) (wn mn kn : Nat → Int) (ik so : Int) (ks rs lf : Nat → Int) (K : MK) (t st sk : Int) (hx : p.tables.exec = Jvm.exec) (hb : c.code = cX3_rough) (hml : c.maxLocals = 9) (hown : s.vm.findClass RX3 = some m.cls) (hts : ∀ w ∈ wsAll, w.before args s = true) (hA : ∀ q : Nat, s.heap.size ≤ q → A q) (hZ : zZ A s s.heap) (hK : va_K (dC, dI) vwCl (mdT cB) s) (hw : 1 ≤ w ∧ w ≤ 20) (hh : 1 ≤ h ∧ h ≤ 20) (hwn : bd wn 0 1000) (ht3 : 0 ≤ t ∧ t ≤ 3) (hks : 0 ≤ ks t.toNat ∧ ks t.toNat ≤ 2) (hrs : 0 ≤ rs t.toNat ∧ rs t.toNat ≤ 5) (kk : ∀ (H : Heap) (locs : List Loc) (ls : Array Slot), va_P (dC, dI) vwCl (mdW b cB w h cd wn mn kn ik so ks rs (llF w h wn (ks t.toNat) (rs t.toNat) 400 lf) K) H → va_D A (mdW b cB w h cd wn mn kn ik so ks rs (llF w h wn (ks t.toNat) (rs t.toNat) 400 lf) K) → va_S A s.heap H locs → lv_has ls 9 [(0, .ref (b 0)), (1, .int (iI t)), (2, .int (iI st)), (3, .int (iI sk)), (4, .int (iI ((400 : Nat) : Int)))] → W p l e r_X3_rough s m args below meth c H locs 0 0 Q (F0 m 124 ls [])) : ∀ (n i : Nat), i + n = 400 → ∀ (H : Heap) (locs : List Loc) (ls : Array Slot), va_P (dC, dI) vwCl (mdW b cB w h cd wn mn kn ik so ks rs (llF w h wn (ks t.toNat) (rs t.toNat) i lf) K) H → va_D A (mdW b cB w h cd wn mn kn ik so ks rs (llF w h wn (ks t.toNat) (rs t.toNat) i lf) K) → va_S A s.heap H locs → lv_has ls 9 [(0, .ref (b 0)), (1, .int (iI t)), (2, .int (iI st)), (3, .int (iI sk)), (4, .int (iI ((i : Nat) : Int)))] → W p l e r_X3_rough s m args below meth c H locs 0 0 Q (F0 m 60 ls []) := by
  intro n
  induction n with
  | zero =>
    intro i hi H locs ls hP hD hS hl
    have hi9 : 400 = i := by omega
    subst hi9
    refine lv_iload hx hb dX3_rough_60 (lv_at hl 4 rfl) ?_
    refine lv_sipush (v := iI 400) hx hb dX3_rough_62 (by decide) ?_
    refine z_icmp_ge (tgt := 124) hx hb dX3_rough_65 (by decide) (by omega) (by omega) (fun c65 => ?_) (fun c65 => by exfalso; omega)
    exact kk _ _ _ hP hD hS (lv_sub hl [0, 1, 2, 3, 4] rfl)
  | succ n ih =>
    intro i hi H locs ls hP hD hS hl
    refine lv_iload hx hb dX3_rough_60 (lv_at hl 4 rfl) ?_
    refine lv_sipush (v := iI 400) hx hb dX3_rough_62 (by decide) ?_
    refine z_icmp_ge (tgt := 124) hx hb dX3_rough_65 (by decide) (by omega) (by omega) (fun c65 => by exfalso; omega) (fun c65 => ?_)
    have hm1 := z_mod (a := ((i : Nat) : Int)) (b := 20) (by omega) (by omega)
    have hd1 : 0 ≤ ((i : Nat) : Int) / 20 ∧ ((i : Nat) : Int) / 20 < 20 := by omega
    refine lv_aload_n hx hb dX3_rough_68 rfl (lv_at hl 0 rfl) ?_
    refine va_get (D := (dC, dI)) (ci := 3) (v := .ref (b 7)) (C := RX3) (T := TX3) (N := 18) hx hb hts inX3 hown hK hP 0 rfl rfl 11 (by decide) (hts _ wm_414) (fun _ h9 => h9) rfl dX3_rough_69 ?_
    refine lv_iload hx hb dX3_rough_72 (lv_at hl 4 rfl) ?_
    refine lv_iload hx hb dX3_rough_74 (lv_at hl 4 rfl) ?_
    refine lv_bipush (v := iI 20) hx hb dX3_rough_76 (by decide) ?_
    refine z_rem hx hb dX3_rough_78 (by omega) (by omega) ?_
    refine lv_aload_n hx hb dX3_rough_79 rfl (lv_at hl 0 rfl) ?_
    refine va_get (D := (dC, dI)) (ci := 3) (v := .int (iI (w : Int))) (C := RX3) (T := TX3) (N := 18) hx hb hts inX3 hown hK hP 0 rfl rfl 1 (by decide) (hts _ wm_404) (fun _ h9 => h9) rfl dX3_rough_80 ?_
    refine z_icmp_ge (tgt := 116) hx hb dX3_rough_83 (by decide) (by omega) (by omega) (fun c83 => ?_) (fun c83 => ?_)
    · refine lv_iconst (v := iI 0) hx hb dX3_rough_116 rfl ?_
      refine z_iast (f := llF w h wn (ks t.toNat) (rs t.toNat) i lf) (i := ((i : Nat) : Int)) (x := 0) hx hb hK hP hD hS 7 6 rfl rfl (by omega) (by decide) dX3_rough_117 (fun H locs hP hD hS => ?_)
      have hP : va_P (dC, dI) vwCl (mdW b cB w h cd wn mn kn ik so ks rs (uI (llF w h wn (ks t.toNat) (rs t.toNat) i lf) (((i : Nat) : Int)).toNat 0) K) H := hP
      have hD : va_D A (mdW b cB w h cd wn mn kn ik so ks rs (uI (llF w h wn (ks t.toNat) (rs t.toNat) i lf) (((i : Nat) : Int)).toNat 0) K) := hD
      refine lv_iinc (v := iI (((i + 1) : Nat) : Int)) (lv' := [(4, .int (iI (((i + 1) : Nat) : Int))), (0, .ref (b 0)), (1, .int (iI t)), (2, .int (iI st)), (3, .int (iI sk))]) hx hb dX3_rough_118 hl (k := 4) rfl ((iI_add _ _).trans (congrArg iI (by omega))) (by decide) rfl (fun ls hl => ?_)
      refine lv_goto (tgt := 60) hx hb dX3_rough_121 (by decide) ?_
      have eg : llF w h wn (ks t.toNat) (rs t.toNat) (i + 1) lf = uI (llF w h wn (ks t.toNat) (rs t.toNat) i lf) (((i : Nat) : Int)).toNat 0 := by
        show uI (llF w h wn (ks t.toNat) (rs t.toNat) i lf) i (if ((i : Nat) : Int) % 20 < (w : Int) ∧ ((i : Nat) : Int) / 20 < (h : Int) then lmF w wn (ks t.toNat) (rs t.toNat) (((i : Nat) : Int) % 20) (((i : Nat) : Int) / 20) (nB h (rs t.toNat) (((i : Nat) : Int) / 20)) else 0) = _
        first | rw [if_pos ⟨by omega, by omega⟩] | rw [if_neg (fun z9 => by omega)]
        rfl
      exact ih (i + 1) (by omega) _ _ _ (by rw [eg]; exact hP) (by rw [eg]; exact hD) hS (lv_sub hl [1, 2, 3, 4, 0] rfl)
    · refine lv_iload hx hb dX3_rough_86 (lv_at hl 4 rfl) ?_
      refine lv_bipush (v := iI 20) hx hb dX3_rough_88 (by decide) ?_
      refine z_div hx hb dX3_rough_90 (by omega) (by omega) ?_
      refine lv_aload_n hx hb dX3_rough_91 rfl (lv_at hl 0 rfl) ?_
      refine va_get (D := (dC, dI)) (ci := 3) (v := .int (iI (h : Int))) (C := RX3) (T := TX3) (N := 18) hx hb hts inX3 hown hK hP 0 rfl rfl 2 (by decide) (hts _ wm_405) (fun _ h9 => h9) rfl dX3_rough_92 ?_
      refine z_icmp_ge (tgt := 116) hx hb dX3_rough_95 (by decide) (by omega) (by omega) (fun c95 => ?_) (fun c95 => ?_)
      · refine lv_iconst (v := iI 0) hx hb dX3_rough_116 rfl ?_
        refine z_iast (f := llF w h wn (ks t.toNat) (rs t.toNat) i lf) (i := ((i : Nat) : Int)) (x := 0) hx hb hK hP hD hS 7 6 rfl rfl (by omega) (by decide) dX3_rough_117 (fun H locs hP hD hS => ?_)
        have hP : va_P (dC, dI) vwCl (mdW b cB w h cd wn mn kn ik so ks rs (uI (llF w h wn (ks t.toNat) (rs t.toNat) i lf) (((i : Nat) : Int)).toNat 0) K) H := hP
        have hD : va_D A (mdW b cB w h cd wn mn kn ik so ks rs (uI (llF w h wn (ks t.toNat) (rs t.toNat) i lf) (((i : Nat) : Int)).toNat 0) K) := hD
        refine lv_iinc (v := iI (((i + 1) : Nat) : Int)) (lv' := [(4, .int (iI (((i + 1) : Nat) : Int))), (0, .ref (b 0)), (1, .int (iI t)), (2, .int (iI st)), (3, .int (iI sk))]) hx hb dX3_rough_118 hl (k := 4) rfl ((iI_add _ _).trans (congrArg iI (by omega))) (by decide) rfl (fun ls hl => ?_)
        refine lv_goto (tgt := 60) hx hb dX3_rough_121 (by decide) ?_
        have eg : llF w h wn (ks t.toNat) (rs t.toNat) (i + 1) lf = uI (llF w h wn (ks t.toNat) (rs t.toNat) i lf) (((i : Nat) : Int)).toNat 0 := by
          show uI (llF w h wn (ks t.toNat) (rs t.toNat) i lf) i (if ((i : Nat) : Int) % 20 < (w : Int) ∧ ((i : Nat) : Int) / 20 < (h : Int) then lmF w wn (ks t.toNat) (rs t.toNat) (((i : Nat) : Int) % 20) (((i : Nat) : Int) / 20) (nB h (rs t.toNat) (((i : Nat) : Int) / 20)) else 0) = _
          first | rw [if_pos ⟨by omega, by omega⟩] | rw [if_neg (fun z9 => by omega)]
          rfl
        exact ih (i + 1) (by omega) _ _ _ (by rw [eg]; exact hP) (by rw [eg]; exact hD) hS (lv_sub hl [1, 2, 3, 4, 0] rfl)
      · refine lv_aload_n hx hb dX3_rough_98 rfl (lv_at hl 0 rfl) ?_
        refine lv_iload hx hb dX3_rough_99 (lv_at hl 4 rfl) ?_
        refine lv_bipush (v := iI 20) hx hb dX3_rough_101 (by decide) ?_
        refine z_rem hx hb dX3_rough_103 (by omega) (by omega) ?_
        refine lv_iload hx hb dX3_rough_104 (lv_at hl 4 rfl) ?_
        refine lv_bipush (v := iI 20) hx hb dX3_rough_106 (by decide) ?_
        refine z_div hx hb dX3_rough_108 (by omega) (by omega) ?_
        refine lv_iload_n hx hb dX3_rough_109 rfl (lv_at hl 1 rfl) ?_
        have hFc := z_freeR (wc := mdW b cB w h cd wn mn kn ik so ks rs (llF w h wn (ks t.toNat) (rs t.toNat) i lf) K) (fun _ h => h) hD hS hA
        refine z_wcalli (va_runV (As := [.int (iI (((i : Nat) : Int) % 20)), .int (iI (((i : Nat) : Int) / 20)), .int (iI t)]) (rest := [.int (iI ((i : Nat) : Int)), .ref (b 7)]) ⟨hx, hb, hml, hown, hts⟩ (c_X3_liftOf l dC dI (H).size b cB w h cd wn mn kn ik so ks rs (llF w h wn (ks t.toNat) (rs t.toNat) i lf) K (((i : Nat) : Int) % 20) (((i : Nat) : Int) / 20) t hw hh hwn (by omega) (by omega) ht3 hks hrs) (cwV 3 hts g_X3_67 rfl rfl rfl (by decide +kernel) ⟨Nat.le_of_ble_eq_true rfl, Nat.le_of_ble_eq_true rfl⟩) (zP_V (ci := 3) (q0 := 0) rfl rfl hP hK hD hS hFc hZ) rfl rfl hl.1 rfl (lv_room (Nat.le_of_ble_eq_true rfl)) dX3_rough_110 ⟨Nat.le_of_ble_eq_true rfl, Nat.le_of_ble_eq_true rfl⟩) hS hFc (fun H locs _ hP hD hS _ => ?_)
        have hP : va_P (dC, dI) vwCl (mdW b cB w h cd wn mn kn ik so ks rs (llF w h wn (ks t.toNat) (rs t.toNat) i lf) K) H := hP
        have hD : va_D A (mdW b cB w h cd wn mn kn ik so ks rs (llF w h wn (ks t.toNat) (rs t.toNat) i lf) K) := hD
        refine lv_goto (tgt := 117) hx hb dX3_rough_113 (by decide) ?_
        refine z_iast (f := llF w h wn (ks t.toNat) (rs t.toNat) i lf) (i := ((i : Nat) : Int)) (x := lmF w wn (ks t.toNat) (rs t.toNat) (((i : Nat) : Int) % 20) (((i : Nat) : Int) / 20) (nB h (rs t.toNat) (((i : Nat) : Int) / 20))) hx hb hK hP hD hS 7 6 rfl rfl (by omega) (by decide) dX3_rough_117 (fun H locs hP hD hS => ?_)
        have hP : va_P (dC, dI) vwCl (mdW b cB w h cd wn mn kn ik so ks rs (uI (llF w h wn (ks t.toNat) (rs t.toNat) i lf) (((i : Nat) : Int)).toNat (lmF w wn (ks t.toNat) (rs t.toNat) (((i : Nat) : Int) % 20) (((i : Nat) : Int) / 20) (nB h (rs t.toNat) (((i : Nat) : Int) / 20)))) K) H := hP
        have hD : va_D A (mdW b cB w h cd wn mn kn ik so ks rs (uI (llF w h wn (ks t.toNat) (rs t.toNat) i lf) (((i : Nat) : Int)).toNat (lmF w wn (ks t.toNat) (rs t.toNat) (((i : Nat) : Int) % 20) (((i : Nat) : Int) / 20) (nB h (rs t.toNat) (((i : Nat) : Int) / 20)))) K) := hD
        refine lv_iinc (v := iI (((i + 1) : Nat) : Int)) (lv' := [(4, .int (iI (((i + 1) : Nat) : Int))), (0, .ref (b 0)), (1, .int (iI t)), (2, .int (iI st)), (3, .int (iI sk))]) hx hb dX3_rough_118 hl (k := 4) rfl ((iI_add _ _).trans (congrArg iI (by omega))) (by decide) rfl (fun ls hl => ?_)
        refine lv_goto (tgt := 60) hx hb dX3_rough_121 (by decide) ?_
        have eg : llF w h wn (ks t.toNat) (rs t.toNat) (i + 1) lf = uI (llF w h wn (ks t.toNat) (rs t.toNat) i lf) (((i : Nat) : Int)).toNat (lmF w wn (ks t.toNat) (rs t.toNat) (((i : Nat) : Int) % 20) (((i : Nat) : Int) / 20) (nB h (rs t.toNat) (((i : Nat) : Int) / 20))) := by
          show uI (llF w h wn (ks t.toNat) (rs t.toNat) i lf) i (if ((i : Nat) : Int) % 20 < (w : Int) ∧ ((i : Nat) : Int) / 20 < (h : Int) then lmF w wn (ks t.toNat) (rs t.toNat) (((i : Nat) : Int) % 20) (((i : Nat) : Int) / 20) (nB h (rs t.toNat) (((i : Nat) : Int) / 20)) else 0) = _
          first | rw [if_pos ⟨by omega, by omega⟩] | rw [if_neg (fun z9 => by omega)]
          rfl
        exact ih (i + 1) (by omega) _ _ _ (by rw [eg]; exact hP) (by rw [eg]; exact hD) hS (lv_sub hl [1, 2, 3, 4, 0] rfl)
set_option maxHeartbeats 4000000 in
set_option maxRecDepth 100000 in
theorem lp_X3_rough_165 {p : Program} {l : Launch} {e : Env} {s : State} {m : MethodId} {args : Array Value} {below : List Frame} {meth : Method} {c : Code} {Q : State → Prop} {A : Nat → Prop} {dC : Nat → ClassId} {dI : Nat → Nat → Nat} (b : Nat → Nat) (cB : Nat → ClassId) (w h : Nat) (cd : Int) (wn mn kn : Nat → Int) (ik so : Int) (ks rs lf : Nat → Int) (K : MK) (t st sk v z g u M : Int) (hx : p.tables.exec = Jvm.exec) (hb : c.code = cX3_rough) (hml : c.maxLocals = 9) (hown : s.vm.findClass RX3 = some m.cls) (hts : ∀ w ∈ wsAll, w.before args s = true) (hA : ∀ q : Nat, s.heap.size ≤ q → A q) (hZ : zZ A s s.heap) (hK : va_K (dC, dI) vwCl (mdT cB) s) (hw : 1 ≤ w ∧ w ≤ 20) (hh : 1 ≤ h ∧ h ≤ 20) (hlf : bd lf (-1) 1000) (hz : 0 < z ∧ z ≤ 1000) (hsk : 0 ≤ sk ∧ sk ≤ 1000) (hK0 : mkOK K M) (hM : 0 ≤ M ∧ M ≤ 2000000000) (hu : 0 ≤ u ∧ u < (h : Int)) (kk : ∀ (H : Heap) (locs : List Loc) (ls : Array Slot), va_P (dC, dI) vwCl (mdW b cB w h cd wn mn kn ik so ks rs lf (mlR lf sk z u w K)) H → va_D A (mdW b cB w h cd wn mn kn ik so ks rs lf (mlR lf sk z u w K)) → va_S A s.heap H locs → lv_has ls 9 [(0, .ref (b 0)), (1, .int (iI t)), (2, .int (iI st)), (3, .int (iI sk)), (4, .int (iI v)), (5, .int (iI z)), (6, .int (iI g)), (7, .int (iI u)), (8, .int (iI ((w : Nat) : Int)))] → W p l e r_X3_rough s m args below meth c H locs 0 0 Q (F0 m 210 ls [])) : ∀ (n i : Nat), i + n = w → ∀ (H : Heap) (locs : List Loc) (ls : Array Slot), va_P (dC, dI) vwCl (mdW b cB w h cd wn mn kn ik so ks rs lf (mlR lf sk z u i K)) H → va_D A (mdW b cB w h cd wn mn kn ik so ks rs lf (mlR lf sk z u i K)) → va_S A s.heap H locs → lv_has ls 9 [(0, .ref (b 0)), (1, .int (iI t)), (2, .int (iI st)), (3, .int (iI sk)), (4, .int (iI v)), (5, .int (iI z)), (6, .int (iI g)), (7, .int (iI u)), (8, .int (iI ((i : Nat) : Int)))] → W p l e r_X3_rough s m args below meth c H locs 0 0 Q (F0 m 165 ls []) := by
  intro n
  induction n with
  | zero =>
    intro i hi H locs ls hP hD hS hl
    have hi9 : w = i := by omega
    subst hi9
    refine lv_iload hx hb dX3_rough_165 (lv_at hl 8 rfl) ?_
    refine lv_aload_n hx hb dX3_rough_167 rfl (lv_at hl 0 rfl) ?_
    refine va_get (D := (dC, dI)) (ci := 3) (v := .int (iI (w : Int))) (C := RX3) (T := TX3) (N := 18) hx hb hts inX3 hown hK hP 0 rfl rfl 1 (by decide) (hts _ wm_404) (fun _ h9 => h9) rfl dX3_rough_168 ?_
    refine z_icmp_ge (tgt := 210) hx hb dX3_rough_171 (by decide) (by omega) (by omega) (fun c171 => ?_) (fun c171 => by exfalso; omega)
    exact kk _ _ _ hP hD hS (lv_sub hl [0, 1, 2, 3, 4, 5, 6, 7, 8] rfl)
  | succ n ih =>
    intro i hi H locs ls hP hD hS hl
    have hQ := mlR_ok (lf := lf) (sk := sk) (z := z) (y := u) (n := i) (by omega) ⟨hu.1, by omega⟩ ⟨by omega, hz.2⟩ hK0
    have hlb := hlf (20 * u + ((i : Nat) : Int)).toNat
    refine lv_iload hx hb dX3_rough_165 (lv_at hl 8 rfl) ?_
    refine lv_aload_n hx hb dX3_rough_167 rfl (lv_at hl 0 rfl) ?_
    refine va_get (D := (dC, dI)) (ci := 3) (v := .int (iI (w : Int))) (C := RX3) (T := TX3) (N := 18) hx hb hts inX3 hown hK hP 0 rfl rfl 1 (by decide) (hts _ wm_404) (fun _ h9 => h9) rfl dX3_rough_168 ?_
    refine z_icmp_ge (tgt := 210) hx hb dX3_rough_171 (by decide) (by omega) (by omega) (fun c171 => by exfalso; omega) (fun c171 => ?_)
    refine lv_aload_n hx hb dX3_rough_174 rfl (lv_at hl 0 rfl) ?_
    refine va_get (D := (dC, dI)) (ci := 3) (v := .ref (b 7)) (C := RX3) (T := TX3) (N := 18) hx hb hts inX3 hown hK hP 0 rfl rfl 11 (by decide) (hts _ wm_414) (fun _ h9 => h9) rfl dX3_rough_175 ?_
    refine lv_bipush (v := iI 20) hx hb dX3_rough_178 (by decide) ?_
    refine lv_iload hx hb dX3_rough_180 (lv_at hl 7 rfl) ?_
    refine z_mul hx hb dX3_rough_182 ?_
    refine lv_iload hx hb dX3_rough_183 (lv_at hl 8 rfl) ?_
    refine z_add hx hb dX3_rough_185 ?_
    refine z_iald (f := lf) (i := (20 * u) + ((i : Nat) : Int)) hx hb hK hP 7 6 rfl rfl (z_i20 (w := w) (h := h) hw.2 hh.2 (x := ((i : Nat) : Int)) (y := u) (by omega) (by omega) hu.1 hu.2) (by decide) dX3_rough_186 ?_
    refine lv_iload_n hx hb dX3_rough_187 rfl (lv_at hl 3 rfl) ?_
    refine z_add hx hb dX3_rough_188 ?_
    refine lv_iload hx hb dX3_rough_189 (lv_at hl 5 rfl) ?_
    refine z_icmp_gt (tgt := 204) hx hb dX3_rough_191 (by decide) (by omega) (by omega) (fun c191 => ?_) (fun c191 => ?_)
    · refine lv_iinc (v := iI (((i + 1) : Nat) : Int)) (lv' := [(8, .int (iI (((i + 1) : Nat) : Int))), (0, .ref (b 0)), (1, .int (iI t)), (2, .int (iI st)), (3, .int (iI sk)), (4, .int (iI v)), (5, .int (iI z)), (6, .int (iI g)), (7, .int (iI u))]) hx hb dX3_rough_204 hl (k := 8) rfl ((iI_add _ _).trans (congrArg iI (by omega))) (by decide) rfl (fun ls hl => ?_)
      refine lv_goto (tgt := 165) hx hb dX3_rough_207 (by decide) ?_
      have eg : mlR lf sk z u (i + 1) K = (mlR lf sk z u i K) := by
        show mlS lf sk z ((i : Nat) : Int) u (mlR lf sk z u i K) = _
        unfold mlS
        split <;> first | rfl | (exfalso; omega)
      exact ih (i + 1) (by omega) _ _ _ (by rw [eg]; exact hP) (by rw [eg]; exact hD) hS (lv_sub hl [1, 2, 3, 4, 5, 6, 7, 8, 0] rfl)
    · refine lv_aload_n hx hb dX3_rough_194 rfl (lv_at hl 0 rfl) ?_
      refine lv_iload hx hb dX3_rough_195 (lv_at hl 8 rfl) ?_
      refine lv_iload hx hb dX3_rough_197 (lv_at hl 7 rfl) ?_
      refine lv_iload hx hb dX3_rough_199 (lv_at hl 5 rfl) ?_
      have hFc := z_freeR (wc := mdW b cB w h cd wn mn kn ik so ks rs lf (mlR lf sk z u i K)) (fun _ h => h) hD hS hA
      refine z_wcallv (va_runV (As := [.int (iI ((i : Nat) : Int)), .int (iI u), .int (iI z)]) (rest := []) ⟨hx, hb, hml, hown, hts⟩ (c_X3_move3 l dC dI (H).size b cB w h cd wn mn kn ik so ks rs lf (mlR lf sk z u i K) ((i : Nat) : Int) u z (M + ((i : Nat) : Int)) hQ (by omega) (by omega) (by omega) (by omega)) (cwV 3 hts g_X3_95 rfl rfl rfl (by decide +kernel) ⟨Nat.le_of_ble_eq_true rfl, Nat.le_of_ble_eq_true rfl⟩) (zP_V (ci := 3) (q0 := 0) rfl rfl hP hK hD hS hFc hZ) rfl rfl hl.1 rfl (lv_room (Nat.le_of_ble_eq_true rfl)) dX3_rough_201 ⟨Nat.le_of_ble_eq_true rfl, Nat.le_of_ble_eq_true rfl⟩) hS hFc (fun H locs _ hP hD hS _ => ?_)
      have hP : va_P (dC, dI) vwCl (mdW b cB w h cd wn mn kn ik so ks rs lf (mkA ((i : Nat) : Int) u z (mlR lf sk z u i K))) H := hP
      have hD : va_D A (mdW b cB w h cd wn mn kn ik so ks rs lf (mkA ((i : Nat) : Int) u z (mlR lf sk z u i K))) := hD
      refine lv_iinc (v := iI (((i + 1) : Nat) : Int)) (lv' := [(8, .int (iI (((i + 1) : Nat) : Int))), (0, .ref (b 0)), (1, .int (iI t)), (2, .int (iI st)), (3, .int (iI sk)), (4, .int (iI v)), (5, .int (iI z)), (6, .int (iI g)), (7, .int (iI u))]) hx hb dX3_rough_204 hl (k := 8) rfl ((iI_add _ _).trans (congrArg iI (by omega))) (by decide) rfl (fun ls hl => ?_)
      refine lv_goto (tgt := 165) hx hb dX3_rough_207 (by decide) ?_
      have eg : mlR lf sk z u (i + 1) K = (mkA ((i : Nat) : Int) u z (mlR lf sk z u i K)) := by
        show mlS lf sk z ((i : Nat) : Int) u (mlR lf sk z u i K) = _
        unfold mlS
        split <;> first | rfl | (exfalso; omega)
      exact ih (i + 1) (by omega) _ _ _ (by rw [eg]; exact hP) (by rw [eg]; exact hD) hS (lv_sub hl [1, 2, 3, 4, 5, 6, 7, 8, 0] rfl)
set_option maxHeartbeats 4000000 in
set_option maxRecDepth 100000 in
theorem lp_X3_rough_153 {p : Program} {l : Launch} {e : Env} {s : State} {m : MethodId} {args : Array Value} {below : List Frame} {meth : Method} {c : Code} {Q : State → Prop} {A : Nat → Prop} {dC : Nat → ClassId} {dI : Nat → Nat → Nat} (b : Nat → Nat) (cB : Nat → ClassId) (w h : Nat) (cd : Int) (wn mn kn : Nat → Int) (ik so : Int) (ks rs lf : Nat → Int) (K : MK) (t st sk v z g M : Int) (hx : p.tables.exec = Jvm.exec) (hb : c.code = cX3_rough) (hml : c.maxLocals = 9) (hown : s.vm.findClass RX3 = some m.cls) (hts : ∀ w ∈ wsAll, w.before args s = true) (hA : ∀ q : Nat, s.heap.size ≤ q → A q) (hZ : zZ A s s.heap) (hK : va_K (dC, dI) vwCl (mdT cB) s) (hw : 1 ≤ w ∧ w ≤ 20) (hh : 1 ≤ h ∧ h ≤ 20) (hlf : bd lf (-1) 1000) (hz : 0 < z ∧ z ≤ 1000) (hsk : 0 ≤ sk ∧ sk ≤ 1000) (hK0 : mkOK K M) (hM : 0 ≤ M ∧ M ≤ 1000000000) (kk : ∀ (H : Heap) (locs : List Loc) (ls : Array Slot), va_P (dC, dI) vwCl (mdW b cB w h cd wn mn kn ik so ks rs lf (mlF w lf sk z h K)) H → va_D A (mdW b cB w h cd wn mn kn ik so ks rs lf (mlF w lf sk z h K)) → va_S A s.heap H locs → lv_has ls 9 [(0, .ref (b 0)), (1, .int (iI t)), (2, .int (iI st)), (3, .int (iI sk)), (4, .int (iI v)), (5, .int (iI z)), (6, .int (iI g)), (7, .int (iI ((h : Nat) : Int)))] → W p l e r_X3_rough s m args below meth c H locs 0 0 Q (F0 m 216 ls [])) : ∀ (n i : Nat), i + n = h → ∀ (H : Heap) (locs : List Loc) (ls : Array Slot), va_P (dC, dI) vwCl (mdW b cB w h cd wn mn kn ik so ks rs lf (mlF w lf sk z i K)) H → va_D A (mdW b cB w h cd wn mn kn ik so ks rs lf (mlF w lf sk z i K)) → va_S A s.heap H locs → lv_has ls 9 [(0, .ref (b 0)), (1, .int (iI t)), (2, .int (iI st)), (3, .int (iI sk)), (4, .int (iI v)), (5, .int (iI z)), (6, .int (iI g)), (7, .int (iI ((i : Nat) : Int)))] → W p l e r_X3_rough s m args below meth c H locs 0 0 Q (F0 m 153 ls []) := by
  intro n
  induction n with
  | zero =>
    intro i hi H locs ls hP hD hS hl
    have hi9 : h = i := by omega
    subst hi9
    refine lv_iload hx hb dX3_rough_153 (lv_at hl 7 rfl) ?_
    refine lv_aload_n hx hb dX3_rough_155 rfl (lv_at hl 0 rfl) ?_
    refine va_get (D := (dC, dI)) (ci := 3) (v := .int (iI (h : Int))) (C := RX3) (T := TX3) (N := 18) hx hb hts inX3 hown hK hP 0 rfl rfl 2 (by decide) (hts _ wm_405) (fun _ h9 => h9) rfl dX3_rough_156 ?_
    refine z_icmp_ge (tgt := 216) hx hb dX3_rough_159 (by decide) (by omega) (by omega) (fun c159 => ?_) (fun c159 => by exfalso; omega)
    exact kk _ _ _ hP hD hS (lv_sub hl [0, 1, 2, 3, 4, 5, 6, 7] rfl)
  | succ n ih =>
    intro i hi H locs ls hP hD hS hl
    have hQ := mlF_ok (w := w) (lf := lf) (sk := sk) (z := z) (n := i) hw.2 (by omega) ⟨by omega, hz.2⟩ hK0
    refine lv_iload hx hb dX3_rough_153 (lv_at hl 7 rfl) ?_
    refine lv_aload_n hx hb dX3_rough_155 rfl (lv_at hl 0 rfl) ?_
    refine va_get (D := (dC, dI)) (ci := 3) (v := .int (iI (h : Int))) (C := RX3) (T := TX3) (N := 18) hx hb hts inX3 hown hK hP 0 rfl rfl 2 (by decide) (hts _ wm_405) (fun _ h9 => h9) rfl dX3_rough_156 ?_
    refine z_icmp_ge (tgt := 216) hx hb dX3_rough_159 (by decide) (by omega) (by omega) (fun c159 => by exfalso; omega) (fun c159 => ?_)
    refine lv_iconst (v := iI 0) hx hb dX3_rough_162 rfl ?_
    refine lv_istore (lv' := [(8, .int (iI 0)), (0, .ref (b 0)), (1, .int (iI t)), (2, .int (iI st)), (3, .int (iI sk)), (4, .int (iI v)), (5, .int (iI z)), (6, .int (iI g)), (7, .int (iI ((i : Nat) : Int)))]) hx hb dX3_rough_163 hl (by decide) rfl (fun ls hl => ?_)
    refine lp_X3_rough_165 b cB w h cd wn mn kn ik so ks rs lf (mlF w lf sk z i K) t st sk v z g ((i : Nat) : Int) (M + 20 * ((i : Nat) : Int)) hx hb hml hown hts hA hZ hK (hw) (hh) (hlf) (hz) (hsk) (hQ) (by omega) (by omega) (fun H locs ls hP hD hS hl => ?_)  w 0 (by omega) _ _ _ hP hD hS (lv_sub hl [1, 2, 3, 4, 5, 6, 7, 8, 0] rfl)
    have hP : va_P (dC, dI) vwCl (mdW b cB w h cd wn mn kn ik so ks rs lf (mlR lf sk z ((i : Nat) : Int) w (mlF w lf sk z i K))) H := hP
    have hD : va_D A (mdW b cB w h cd wn mn kn ik so ks rs lf (mlR lf sk z ((i : Nat) : Int) w (mlF w lf sk z i K))) := hD
    have hl : lv_has ls 9 [(0, .ref (b 0)), (1, .int (iI t)), (2, .int (iI st)), (3, .int (iI sk)), (4, .int (iI v)), (5, .int (iI z)), (6, .int (iI g)), (7, .int (iI ((i : Nat) : Int))), (8, .int (iI ((w : Nat) : Int)))] := hl
    refine lv_iinc (v := iI (((i + 1) : Nat) : Int)) (lv' := [(7, .int (iI (((i + 1) : Nat) : Int))), (0, .ref (b 0)), (1, .int (iI t)), (2, .int (iI st)), (3, .int (iI sk)), (4, .int (iI v)), (5, .int (iI z)), (6, .int (iI g)), (8, .int (iI ((w : Nat) : Int)))]) hx hb dX3_rough_210 hl (k := 7) rfl ((iI_add _ _).trans (congrArg iI (by omega))) (by decide) rfl (fun ls hl => ?_)
    refine lv_goto (tgt := 153) hx hb dX3_rough_213 (by decide) ?_
    exact ih (i + 1) (by omega) _ _ _ hP hD hS (lv_sub hl [1, 2, 3, 4, 5, 6, 7, 0] rfl)
set_option maxHeartbeats 4000000 in
set_option maxRecDepth 100000 in
theorem lp_X3_rough_135 {p : Program} {l : Launch} {e : Env} {s : State} {m : MethodId} {args : Array Value} {below : List Frame} {meth : Method} {c : Code} {Q : State → Prop} {A : Nat → Prop} {dC : Nat → ClassId} {dI : Nat → Nat → Nat} (b : Nat → Nat) (cB : Nat → ClassId) (w h : Nat) (cd : Int) (wn kn : Nat → Int) (ik so : Int) (ks rs lf : Nat → Int) (q0 : (MK × (Nat → Int)) × Int) (t st sk M : Int) (hx : p.tables.exec = Jvm.exec) (hb : c.code = cX3_rough) (hml : c.maxLocals = 9) (hown : s.vm.findClass RX3 = some m.cls) (hts : ∀ w ∈ wsAll, w.before args s = true) (hA : ∀ q : Nat, s.heap.size ≤ q → A q) (hZ : zZ A s s.heap) (hK : va_K (dC, dI) vwCl (mdT cB) s) (hw : 1 ≤ w ∧ w ≤ 20) (hh : 1 ≤ h ∧ h ≤ 20) (ht3 : 0 ≤ t ∧ t ≤ 3) (hks : 0 ≤ ks t.toNat ∧ ks t.toNat ≤ 2) (hrs : 0 ≤ rs t.toNat ∧ rs t.toNat ≤ 5) (hlf : bd lf (-1) 1000) (hst : 1 ≤ st ∧ st ≤ 1000) (hsk : 0 ≤ sk ∧ sk ≤ 1000) (hso : 1 ≤ so ∧ so ≤ 1000) (hq1 : mkOK q0.1.1 M) (hq2 : bd q0.1.2 0 1000) (hq3 : 0 ≤ q0.2 ∧ q0.2 ≤ 0) (hM : 0 ≤ M ∧ M ≤ 1000000) (kk : ∀ (H : Heap) (locs : List Loc) (ls : Array Slot), va_P (dC, dI) vwCl (mdW b cB w h cd wn ((mrG w h lf (ks t.toNat) (rs t.toNat) st sk so (zN so st) q0).1.2) kn ik so ks rs lf ((mrG w h lf (ks t.toNat) (rs t.toNat) st sk so (zN so st) q0).1.1)) H → va_D A (mdW b cB w h cd wn ((mrG w h lf (ks t.toNat) (rs t.toNat) st sk so (zN so st) q0).1.2) kn ik so ks rs lf ((mrG w h lf (ks t.toNat) (rs t.toNat) st sk so (zN so st) q0).1.1)) → va_S A s.heap H locs → lv_has ls 9 [(0, .ref (b 0)), (1, .int (iI t)), (2, .int (iI st)), (3, .int (iI sk)), (4, .int (iI ((mrG w h lf (ks t.toNat) (rs t.toNat) st sk so (zN so st) q0).2))), (5, .int (iI (zL so st (zN so st))))] → W p l e r_X3_rough s m args below meth c H locs 0 0 Q (F0 m 242 ls [])) : ∀ (n i : Nat), i + n = zN so st → ∀ (H : Heap) (locs : List Loc) (ls : Array Slot), va_P (dC, dI) vwCl (mdW b cB w h cd wn ((mrG w h lf (ks t.toNat) (rs t.toNat) st sk so i q0).1.2) kn ik so ks rs lf ((mrG w h lf (ks t.toNat) (rs t.toNat) st sk so i q0).1.1)) H → va_D A (mdW b cB w h cd wn ((mrG w h lf (ks t.toNat) (rs t.toNat) st sk so i q0).1.2) kn ik so ks rs lf ((mrG w h lf (ks t.toNat) (rs t.toNat) st sk so i q0).1.1)) → va_S A s.heap H locs → lv_has ls 9 [(0, .ref (b 0)), (1, .int (iI t)), (2, .int (iI st)), (3, .int (iI sk)), (4, .int (iI ((mrG w h lf (ks t.toNat) (rs t.toNat) st sk so i q0).2))), (5, .int (iI (zL so st i)))] → W p l e r_X3_rough s m args below meth c H locs 0 0 Q (F0 m 135 ls []) := by
  intro n
  induction n with
  | zero =>
    intro i hi H locs ls hP hD hS hl
    have hi9 : zN so st = i := by omega
    subst hi9
    have hz9 := zL_out hso hst
    refine lv_iload hx hb dX3_rough_135 (lv_at hl 5 rfl) ?_
    refine z_if_le (tgt := 242) hx hb dX3_rough_137 (by decide) (by omega) (fun c137 => ?_) (fun c137 => by exfalso; omega)
    exact kk _ _ _ hP hD hS (lv_sub hl [0, 1, 2, 3, 4, 5] rfl)
  | succ n ih =>
    intro i hi H locs ls hP hD hS hl
    have hz9 := zL_in (k := i) (by omega) hso hst
    have hzn := zN_le hso hst
    have hQ := mrG_ok (w := w) (h := h) (lf := lf) (kd := ks t.toNat) (r := rs t.toNat) (sk := sk) (n := i) (s := q0) hw.2 hh.2 (by omega) hso hst hq1 hq2 hq3
    have hQ2 := mkN_ok (n := 400) hQ.1.1
    refine lv_iload hx hb dX3_rough_135 (lv_at hl 5 rfl) ?_
    refine z_if_le (tgt := 242) hx hb dX3_rough_137 (by decide) (by omega) (fun c137 => by exfalso; omega) (fun c137 => ?_)
    refine lv_aload_n hx hb dX3_rough_140 rfl (lv_at hl 0 rfl) ?_
    refine va_get (D := (dC, dI)) (ci := 3) (v := .int (iI (((mrG w h lf (ks t.toNat) (rs t.toNat) st sk so i q0).1.1).2.2.1))) (C := RX3) (T := TX3) (N := 18) hx hb hts inX3 hown hK hP 0 rfl rfl 12 (by decide) (hts _ wm_415) (fun _ h9 => h9) rfl dX3_rough_141 ?_
    refine lv_istore (lv' := [(6, .int (iI (((mrG w h lf (ks t.toNat) (rs t.toNat) st sk so i q0).1.1).2.2.1))), (0, .ref (b 0)), (1, .int (iI t)), (2, .int (iI st)), (3, .int (iI sk)), (4, .int (iI ((mrG w h lf (ks t.toNat) (rs t.toNat) st sk so i q0).2))), (5, .int (iI (zL so st i)))]) hx hb dX3_rough_144 hl (by decide) rfl (fun ls hl => ?_)
    refine lv_aload_n hx hb dX3_rough_146 rfl (lv_at hl 1 rfl) ?_
    have hFc := z_freeR (wc := mdW b cB w h cd wn ((mrG w h lf (ks t.toNat) (rs t.toNat) st sk so i q0).1.2) kn ik so ks rs lf ((mrG w h lf (ks t.toNat) (rs t.toNat) st sk so i q0).1.1)) (fun _ h => h) hD hS hA
    refine z_wcallv (va_runV (As := []) (rest := []) ⟨hx, hb, hml, hown, hts⟩ (c_X3_noTips l dC dI (H).size b cB w h cd wn ((mrG w h lf (ks t.toNat) (rs t.toNat) st sk so i q0).1.2) kn ik so ks rs lf ((mrG w h lf (ks t.toNat) (rs t.toNat) st sk so i q0).1.1) ) (cwV 0 hts g_X3_92 rfl rfl rfl (by decide +kernel) ⟨Nat.le_of_ble_eq_true rfl, Nat.le_of_ble_eq_true rfl⟩) (zP_V (ci := 3) (q0 := 0) rfl rfl hP hK hD hS hFc hZ) rfl rfl hl.1 rfl (lv_room (Nat.le_of_ble_eq_true rfl)) dX3_rough_147 ⟨Nat.le_of_ble_eq_true rfl, Nat.le_of_ble_eq_true rfl⟩) hS hFc (fun H locs _ hP hD hS _ => ?_)
    have hP : va_P (dC, dI) vwCl (mdW b cB w h cd wn ((mrG w h lf (ks t.toNat) (rs t.toNat) st sk so i q0).1.2) kn ik so ks rs lf (mkN 400 ((mrG w h lf (ks t.toNat) (rs t.toNat) st sk so i q0).1.1))) H := hP
    have hD : va_D A (mdW b cB w h cd wn ((mrG w h lf (ks t.toNat) (rs t.toNat) st sk so i q0).1.2) kn ik so ks rs lf (mkN 400 ((mrG w h lf (ks t.toNat) (rs t.toNat) st sk so i q0).1.1))) := hD
    refine lv_iconst (v := iI 0) hx hb dX3_rough_150 rfl ?_
    refine lv_istore (lv' := [(7, .int (iI 0)), (6, .int (iI (((mrG w h lf (ks t.toNat) (rs t.toNat) st sk so i q0).1.1).2.2.1))), (0, .ref (b 0)), (1, .int (iI t)), (2, .int (iI st)), (3, .int (iI sk)), (4, .int (iI ((mrG w h lf (ks t.toNat) (rs t.toNat) st sk so i q0).2))), (5, .int (iI (zL so st i)))]) hx hb dX3_rough_151 hl (by decide) rfl (fun ls hl => ?_)
    refine lp_X3_rough_153 b cB w h cd wn ((mrG w h lf (ks t.toNat) (rs t.toNat) st sk so i q0).1.2) kn ik so ks rs lf (mkN 400 (mrG w h lf (ks t.toNat) (rs t.toNat) st sk so i q0).1.1) t st sk ((mrG w h lf (ks t.toNat) (rs t.toNat) st sk so i q0).2) (zL so st i) ((mrG w h lf (ks t.toNat) (rs t.toNat) st sk so i q0).1.1.2.2.1) (M + 400 * ((i : Nat) : Int)) hx hb hml hown hts hA hZ hK (hw) (hh) (hlf) (hz9) (hsk) (hQ2) (by omega) (fun H locs ls hP hD hS hl => ?_)  h 0 (by omega) _ _ _ hP hD hS (lv_sub hl [2, 3, 4, 5, 6, 7, 1, 0] rfl)
    have hP : va_P (dC, dI) vwCl (mdW b cB w h cd wn ((mrG w h lf (ks t.toNat) (rs t.toNat) st sk so i q0).1.2) kn ik so ks rs lf (mlF w lf sk (zL so st i) h (mkN 400 (mrG w h lf (ks t.toNat) (rs t.toNat) st sk so i q0).1.1))) H := hP
    have hD : va_D A (mdW b cB w h cd wn ((mrG w h lf (ks t.toNat) (rs t.toNat) st sk so i q0).1.2) kn ik so ks rs lf (mlF w lf sk (zL so st i) h (mkN 400 (mrG w h lf (ks t.toNat) (rs t.toNat) st sk so i q0).1.1))) := hD
    have hl : lv_has ls 9 [(0, .ref (b 0)), (1, .int (iI t)), (2, .int (iI st)), (3, .int (iI sk)), (4, .int (iI ((mrG w h lf (ks t.toNat) (rs t.toNat) st sk so i q0).2))), (5, .int (iI (zL so st i))), (6, .int (iI ((mrG w h lf (ks t.toNat) (rs t.toNat) st sk so i q0).1.1.2.2.1))), (7, .int (iI ((h : Nat) : Int)))] := hl
    refine lv_aload_n hx hb dX3_rough_216 rfl (lv_at hl 0 rfl) ?_
    refine va_get (D := (dC, dI)) (ci := 3) (v := .int (iI ((mlF w lf sk (zL so st i) h (mkN 400 (mrG w h lf (ks t.toNat) (rs t.toNat) st sk so i q0).1.1)).2.2.1))) (C := RX3) (T := TX3) (N := 18) hx hb hts inX3 hown hK hP 0 rfl rfl 12 (by decide) (hts _ wm_415) (fun _ h9 => h9) rfl dX3_rough_217 ?_
    refine lv_iload hx hb dX3_rough_220 (lv_at hl 6 rfl) ?_
    have hQ3 := mlF_ok (w := w) (lf := lf) (sk := sk) (z := zL so st i) (n := h) hw.2 hh.2 ⟨by omega, by omega⟩ hQ2
    have hQ4 := hQ3.1
    have hQ5 := hQ.1.1.1
    refine z_icmp_le (tgt := 233) hx hb dX3_rough_222 (by decide) (by omega) (by omega) (fun c222 => ?_) (fun c222 => ?_)
    · refine lv_iload hx hb dX3_rough_233 (lv_at hl 5 rfl) ?_
      refine lv_iload_n hx hb dX3_rough_235 rfl (lv_at hl 2 rfl) ?_
      refine z_sub hx hb dX3_rough_236 ?_
      refine z_top (b := zL so st (i + 1)) (zL_s _ _ _) ?_
      refine lv_istore (lv' := [(5, .int (iI (zL so st (i + 1)))), (0, .ref (b 0)), (1, .int (iI t)), (2, .int (iI st)), (3, .int (iI sk)), (4, .int (iI ((mrG w h lf (ks t.toNat) (rs t.toNat) st sk so i q0).2))), (6, .int (iI ((mrG w h lf (ks t.toNat) (rs t.toNat) st sk so i q0).1.1.2.2.1))), (7, .int (iI ((h : Nat) : Int)))]) hx hb dX3_rough_237 hl (by decide) rfl (fun ls hl => ?_)
      refine lv_goto (tgt := 135) hx hb dX3_rough_239 (by decide) ?_
      have e2 : mrG w h lf (ks t.toNat) (rs t.toNat) st sk so (i + 1) q0 = (((mlF w lf sk (zL so st i) h (mkN 400 (mrG w h lf (ks t.toNat) (rs t.toNat) st sk so i q0).1.1)), ((mrG w h lf (ks t.toNat) (rs t.toNat) st sk so i q0).1.2)), ((mrG w h lf (ks t.toNat) (rs t.toNat) st sk so i q0).2)) := by
        show mrS w h lf (ks t.toNat) (rs t.toNat) st sk so i (mrG w h lf (ks t.toNat) (rs t.toNat) st sk so i q0) = _
        unfold mrS inc01
        (repeat' split) <;> first | rfl | (exfalso; omega) | (simp only [Int.add_zero]; done)
      exact ih (i + 1) (by omega) _ _ _ (by rw [e2]; exact hP) (by rw [e2]; exact hD) hS (by rw [e2]; exact lv_sub hl [1, 2, 3, 4, 5, 0] rfl)
    · refine lv_aload_n hx hb dX3_rough_225 rfl (lv_at hl 0 rfl) ?_
      refine lv_iload_n hx hb dX3_rough_226 rfl (lv_at hl 1 rfl) ?_
      have hFc := z_freeR (wc := mdW b cB w h cd wn ((mrG w h lf (ks t.toNat) (rs t.toNat) st sk so i q0).1.2) kn ik so ks rs lf (mlF w lf sk (zL so st i) h (mkN 400 (mrG w h lf (ks t.toNat) (rs t.toNat) st sk so i q0).1.1))) (fun _ h => h) hD hS hA
      refine z_wcallv (va_runV (As := [.int (iI t)]) (rest := []) ⟨hx, hb, hml, hown, hts⟩ (c_X3_carve l dC dI (H).size b cB w h cd wn ((mrG w h lf (ks t.toNat) (rs t.toNat) st sk so i q0).1.2) kn ik so ks rs lf (mlF w lf sk (zL so st i) h (mkN 400 (mrG w h lf (ks t.toNat) (rs t.toNat) st sk so i q0).1.1)) t hw hh ht3 hks hrs hQ3.2.2.2.2 hQ.1.2) (cwV 1 hts g_X3_99 rfl rfl rfl (by decide +kernel) ⟨Nat.le_of_ble_eq_true rfl, Nat.le_of_ble_eq_true rfl⟩) (zP_V (ci := 3) (q0 := 0) rfl rfl hP hK hD hS hFc hZ) rfl rfl hl.1 rfl (lv_room (Nat.le_of_ble_eq_true rfl)) dX3_rough_227 ⟨Nat.le_of_ble_eq_true rfl, Nat.le_of_ble_eq_true rfl⟩) hS hFc (fun H locs _ hP hD hS _ => ?_)
      have hP : va_P (dC, dI) vwCl (mdW b cB w h cd wn (cmF w h (mlF w lf sk (zL so st i) h (mkN 400 (mrG w h lf (ks t.toNat) (rs t.toNat) st sk so i q0).1.1)).1 (ks t.toNat) (rs t.toNat) h ((mrG w h lf (ks t.toNat) (rs t.toNat) st sk so i q0).1.2)) kn ik so ks rs lf (mlF w lf sk (zL so st i) h (mkN 400 (mrG w h lf (ks t.toNat) (rs t.toNat) st sk so i q0).1.1))) H := hP
      have hD : va_D A (mdW b cB w h cd wn (cmF w h (mlF w lf sk (zL so st i) h (mkN 400 (mrG w h lf (ks t.toNat) (rs t.toNat) st sk so i q0).1.1)).1 (ks t.toNat) (rs t.toNat) h ((mrG w h lf (ks t.toNat) (rs t.toNat) st sk so i q0).1.2)) kn ik so ks rs lf (mlF w lf sk (zL so st i) h (mkN 400 (mrG w h lf (ks t.toNat) (rs t.toNat) st sk so i q0).1.1))) := hD
      refine lv_iinc (v := iI (((mrG w h lf (ks t.toNat) (rs t.toNat) st sk so i q0).2) + 1)) (lv' := [(4, .int (iI (((mrG w h lf (ks t.toNat) (rs t.toNat) st sk so i q0).2) + 1))), (0, .ref (b 0)), (1, .int (iI t)), (2, .int (iI st)), (3, .int (iI sk)), (5, .int (iI (zL so st i))), (6, .int (iI ((mrG w h lf (ks t.toNat) (rs t.toNat) st sk so i q0).1.1.2.2.1))), (7, .int (iI ((h : Nat) : Int)))]) hx hb dX3_rough_230 hl (k := 4) rfl (iI_add _ _) (by decide) rfl (fun ls hl => ?_)
      refine lv_iload hx hb dX3_rough_233 (lv_at hl 5 rfl) ?_
      refine lv_iload_n hx hb dX3_rough_235 rfl (lv_at hl 3 rfl) ?_
      refine z_sub hx hb dX3_rough_236 ?_
      refine z_top (b := zL so st (i + 1)) (zL_s _ _ _) ?_
      refine lv_istore (lv' := [(5, .int (iI (zL so st (i + 1)))), (4, .int (iI (((mrG w h lf (ks t.toNat) (rs t.toNat) st sk so i q0).2) + 1))), (0, .ref (b 0)), (1, .int (iI t)), (2, .int (iI st)), (3, .int (iI sk)), (6, .int (iI ((mrG w h lf (ks t.toNat) (rs t.toNat) st sk so i q0).1.1.2.2.1))), (7, .int (iI ((h : Nat) : Int)))]) hx hb dX3_rough_237 hl (by decide) rfl (fun ls hl => ?_)
      refine lv_goto (tgt := 135) hx hb dX3_rough_239 (by decide) ?_
      have e2 : mrG w h lf (ks t.toNat) (rs t.toNat) st sk so (i + 1) q0 = (((mlF w lf sk (zL so st i) h (mkN 400 (mrG w h lf (ks t.toNat) (rs t.toNat) st sk so i q0).1.1)), cmF w h (mlF w lf sk (zL so st i) h (mkN 400 (mrG w h lf (ks t.toNat) (rs t.toNat) st sk so i q0).1.1)).1 (ks t.toNat) (rs t.toNat) h ((mrG w h lf (ks t.toNat) (rs t.toNat) st sk so i q0).1.2)), ((mrG w h lf (ks t.toNat) (rs t.toNat) st sk so i q0).2) + 1) := by
        show mrS w h lf (ks t.toNat) (rs t.toNat) st sk so i (mrG w h lf (ks t.toNat) (rs t.toNat) st sk so i q0) = _
        unfold mrS inc01
        (repeat' split) <;> first | rfl | (exfalso; omega) | (simp only [Int.add_zero]; done)
      exact ih (i + 1) (by omega) _ _ _ (by rw [e2]; exact hP) (by rw [e2]; exact hD) hS (by rw [e2]; exact lv_sub hl [2, 3, 4, 5, 1, 0] rfl)
set_option maxHeartbeats 4000000 in
set_option maxRecDepth 100000 in
theorem c_X3_rough (l : Launch) (dC : Nat → ClassId) (dI : Nat → Nat → Nat) (sz : Nat) (b : Nat → Nat) (cB : Nat → ClassId) (w h : Nat) (cd : Int) (wn mn kn : Nat → Int) (ik so : Int) (ks rs lf : Nat → Int) (K : MK) (t st sk : Int) (hw : 1 ≤ w ∧ w ≤ 20) (hh : 1 ≤ h ∧ h ≤ 20) (hwn : bd wn 0 1000) (hmn : bd mn 0 1000) (hlf : bd lf (-1) 1000) (hso : 1 ≤ so ∧ so ≤ 1000) (hK0 : mkOK K 1000000) (h1 : rg t) (h2 : rg st) (h3 : rg sk) (hks : ∀ j, j < 4 → 0 ≤ ks j ∧ ks j ≤ 2) (hrs : ∀ j, j < 4 → 0 ≤ rs j ∧ rs j ≤ 5) : Met l yX3_rough wsX3_rough r_X3_rough (zP (dC, dI) vwCl (mdT cB) (mdW b cB w h cd wn mn kn ik so ks rs lf K) sz [.ref (b 0), .int (iI t), .int (iI st), .int (iI sk)]) (zQi (dC, dI) vwCl (mdT cB) (mdW b cB w h cd wn mn kn ik so ks rs lf K) sz (True) (if cod3 (isW t 0 3) (isW st 1 1000) (isW sk 0 1000) ≤ 0 then (mrG w h (llF w h wn (ks t.toNat) (rs t.toNat) 400 lf) (ks t.toNat) (rs t.toNat) st sk so (zN so st) ((mkB K, mn), 0)).2 else 0) (mdW b cB w h (cod3 (isW t 0 3) (isW st 1 1000) (isW sk 0 1000)) wn (if cod3 (isW t 0 3) (isW st 1 1000) (isW sk 0 1000) ≤ 0 then (mrG w h (llF w h wn (ks t.toNat) (rs t.toNat) 400 lf) (ks t.toNat) (rs t.toNat) st sk so (zN so st) ((mkB K, mn), 0)).1.2 else mn) kn ik so ks rs (if cod3 (isW t 0 3) (isW st 1 1000) (isW sk 0 1000) ≤ 0 then llF w h wn (ks t.toNat) (rs t.toNat) 400 lf else lf) (if cod3 (isW t 0 3) (isW st 1 1000) (isW sk 0 1000) ≤ 0 then (mrG w h (llF w h wn (ks t.toNat) (rs t.toNat) 400 lf) (ks t.toNat) (rs t.toNat) st sk so (zN so st) ((mkB K, mn), 0)).1.1 else K))) 0 0 (va_A (mdW b cB w h cd wn mn kn ik so ks rs lf K) sz) := by
  refine Met.ofW (cc := cX3_rough) (maxL := 9) (ret := (some .int)) (by decide) rfl ?_
  intro p e s m args below meth c s₁ B hml hv
  obtain ⟨rfl, hsz, hP, hK, hD0, hZ⟩ := hv
  have hx := B.exec
  have hb := B.bytes
  have hr := B.returns
  have hts0 := atoms_spec (ws := wsX3_rough) B.pre
  have hts : ∀ w ∈ wsAll, w.before _ s = true := fun w h => hts0 w (List.mem_cons_of_mem _ h)
  have hown : s.vm.findClass RX3 = some m.cls := findClass_of_methodNamed B.named
  have hlocks := B.notSynchronized
  subst hsz
  have hD := hD0.self (sz := s.heap.size)
  obtain ⟨A, hAe⟩ : ∃ A, A = va_A (mdW b cB w h cd wn mn kn ik so ks rs lf K) s.heap.size := ⟨_, rfl⟩
  rw [← hAe] at hD hZ
  have hA : ∀ q : Nat, s.heap.size ≤ q → A q := fun q h => by rw [hAe]; exact Or.inr h
  have hS : va_S A s.heap s.heap [] := va_S.rf
  have hP : va_P (dC, dI) vwCl (mdW b cB w h cd wn mn kn ik so ks rs lf K) s.heap := hP
  have hl := lv_entry ([.ref (b 0), .int (iI t), .int (iI st), .int (iI sk)]) (n := 9) (Nat.le_of_ble_eq_true rfl)
  rw [lg_entry_eq]
  generalize (lg_sl ([.ref (b 0), .int (iI t), .int (iI st), .int (iI sk)]) ++ List.replicate (9 - (lg_sl ([.ref (b 0), .int (iI t), .int (iI st), .int (iI sk)])).length) Slot.unset).toArray = ls at hl ⊢
  have hl : lv_has ls 9 [(0, .ref (b 0)), (1, .int (iI t)), (2, .int (iI st)), (3, .int (iI sk))] := hl
  refine lv_aload_n hx hb dX3_rough_0 rfl (lv_at hl 0 rfl) ?_
  refine lv_iload_n hx hb dX3_rough_1 rfl (lv_at hl 1 rfl) ?_
  refine lv_iconst (v := iI 0) hx hb dX3_rough_2 rfl ?_
  refine lv_iconst (v := iI 3) hx hb dX3_rough_3 rfl ?_
  refine z_rcalli (va_runS (As := [.int (iI t), .int (iI 0), .int (iI 3)]) (rest := [.ref (b 0)]) ⟨hx, hb, hml, hown, hts⟩ (c_X3_isIn l dC dI (s.heap).size t 0 3 (by omega) (by omega) (by omega)) (va_cwS 3 hts g_X3_55 rfl rfl rfl (by decide +kernel) ⟨Nat.le_of_ble_eq_true rfl, Nat.le_of_ble_eq_true rfl⟩) (zP_S z_P0 (hK.sub [] rfl) z_D0 hS (z_free0 hS hA) hZ) rfl rfl hl.1 rfl (lv_room (Nat.le_of_ble_eq_true rfl)) dX3_rough_4 ⟨Nat.le_of_ble_eq_true rfl, Nat.le_of_ble_eq_true rfl⟩) hP hD hS (z_free0 hS hA) (fun _ h => by cases h) (fun H locs _ hP hD hS _ => ?_)
  refine z_joinH (D := (dC, dI)) (cl := vwCl) (A := A) (ws := mdW b cB w h cd wn mn kn ik so ks rs lf K) (g0 := F0 m 41 ls [.int (iI (cod3 (isW t 0 3) (isW st 1 1000) (isW sk 0 1000))), .ref (b 0)]) (fun H locs hP hD hS => ?_) (fun J41 => ?_)
  · refine va_put (D := (dC, dI)) (ci := 3) (v := .int (iI (cod3 (isW t 0 3) (isW st 1 1000) (isW sk 0 1000)))) (ty := .int) (C := RX3) (T := TX3) (N := 18) hx hb hts inX3 tyX3 tyX3_ok nmX3 hown hK hP hD hS 0 rfl rfl 0 (by decide) (hts _ wm_403) (fun _ h9 => h9) rfl (by decide +kernel) rfl rfl (Nat.le_of_ble_eq_true rfl) dX3_rough_41 (fun H locs hP hD hS => ?_)
    have hP : va_P (dC, dI) vwCl (mdW b cB w h (cod3 (isW t 0 3) (isW st 1 1000) (isW sk 0 1000)) wn mn kn ik so ks rs lf K) H := hP
    have hD : va_D A (mdW b cB w h (cod3 (isW t 0 3) (isW st 1 1000) (isW sk 0 1000)) wn mn kn ik so ks rs lf K) := hD
    refine lv_aload_n hx hb dX3_rough_44 rfl (lv_at hl 0 rfl) ?_
    refine va_get (D := (dC, dI)) (ci := 3) (v := .int (iI (cod3 (isW t 0 3) (isW st 1 1000) (isW sk 0 1000)))) (C := RX3) (T := TX3) (N := 18) hx hb hts inX3 hown hK hP 0 rfl rfl 0 (by decide) (hts _ wm_403) (fun _ h9 => h9) rfl dX3_rough_45 ?_
    have hcr := cod3_rg (isW t 0 3) (isW st 1 1000) (isW sk 0 1000)
    refine z_if_le (tgt := 53) hx hb dX3_rough_48 (by decide) (by omega) (fun c48 => ?_) (fun c48 => ?_)
    · have hok := cod3_ok c48
      have ht3 := isW_t.mp hok.1
      have hst := isW_t.mp hok.2.1
      have hsk := isW_t.mp hok.2.2
      have hj : t.toNat < 4 := by omega
      have hks := hks _ hj
      have hrs := hrs _ hj
      refine lv_aload_n hx hb dX3_rough_53 rfl (lv_at hl 0 rfl) ?_
      have hFc := z_freeR (wc := mdW b cB w h (cod3 (isW t 0 3) (isW st 1 1000) (isW sk 0 1000)) wn mn kn ik so ks rs lf K) (fun _ h => h) hD hS hA
      refine z_wcallv (va_runV (As := []) (rest := []) ⟨hx, hb, hml, hown, hts⟩ (c_X3_begin l dC dI (H).size b cB w h (cod3 (isW t 0 3) (isW st 1 1000) (isW sk 0 1000)) wn mn kn ik so ks rs lf K ) (cwV 0 hts g_X3_89 rfl rfl rfl (by decide +kernel) ⟨Nat.le_of_ble_eq_true rfl, Nat.le_of_ble_eq_true rfl⟩) (zP_V (ci := 3) (q0 := 0) rfl rfl hP hK hD hS hFc hZ) rfl rfl hl.1 rfl (lv_room (Nat.le_of_ble_eq_true rfl)) dX3_rough_54 ⟨Nat.le_of_ble_eq_true rfl, Nat.le_of_ble_eq_true rfl⟩) hS hFc (fun H locs _ hP hD hS _ => ?_)
      have hP : va_P (dC, dI) vwCl (mdW b cB w h (cod3 (isW t 0 3) (isW st 1 1000) (isW sk 0 1000)) wn mn kn ik so ks rs lf (mkB K)) H := hP
      have hD : va_D A (mdW b cB w h (cod3 (isW t 0 3) (isW st 1 1000) (isW sk 0 1000)) wn mn kn ik so ks rs lf (mkB K)) := hD
      refine lv_iconst (v := iI 0) hx hb dX3_rough_57 rfl ?_
      refine lv_istore (lv' := [(4, .int (iI 0)), (0, .ref (b 0)), (1, .int (iI t)), (2, .int (iI st)), (3, .int (iI sk))]) hx hb dX3_rough_58 hl (by decide) rfl (fun ls hl => ?_)
      refine lp_X3_rough_60 b cB w h (cod3 (isW t 0 3) (isW st 1 1000) (isW sk 0 1000)) wn mn kn ik so ks rs lf (mkB K) t st sk hx hb hml hown hts hA hZ hK (hw) (hh) (hwn) (ht3) (hks) (hrs) (fun H locs ls hP hD hS hl => ?_)  400 0 (by omega) _ _ _ hP hD hS (lv_sub hl [1, 2, 3, 4, 0] rfl)
      have hP : va_P (dC, dI) vwCl (mdW b cB w h (cod3 (isW t 0 3) (isW st 1 1000) (isW sk 0 1000)) wn mn kn ik so ks rs (llF w h wn (ks t.toNat) (rs t.toNat) 400 lf) (mkB K)) H := hP
      have hD : va_D A (mdW b cB w h (cod3 (isW t 0 3) (isW st 1 1000) (isW sk 0 1000)) wn mn kn ik so ks rs (llF w h wn (ks t.toNat) (rs t.toNat) 400 lf) (mkB K)) := hD
      have hl : lv_has ls 9 [(0, .ref (b 0)), (1, .int (iI t)), (2, .int (iI st)), (3, .int (iI sk)), (4, .int (iI ((400 : Nat) : Int)))] := hl
      refine lv_iconst (v := iI 0) hx hb dX3_rough_124 rfl ?_
      refine lv_istore (lv' := [(4, .int (iI 0)), (0, .ref (b 0)), (1, .int (iI t)), (2, .int (iI st)), (3, .int (iI sk))]) hx hb dX3_rough_125 hl (by decide) rfl (fun ls hl => ?_)
      refine lv_aload_n hx hb dX3_rough_127 rfl (lv_at hl 1 rfl) ?_
      refine va_get (D := (dC, dI)) (ci := 3) (v := .int (iI so)) (C := RX3) (T := TX3) (N := 18) hx hb hts inX3 hown hK hP 0 rfl rfl 7 (by decide) (hts _ wm_410) (fun _ h9 => h9) rfl dX3_rough_128 ?_
      refine lv_iload_n hx hb dX3_rough_131 rfl (lv_at hl 3 rfl) ?_
      refine z_sub hx hb dX3_rough_132 ?_
      refine z_top (b := zL so st 0) (zL_0 _ _) ?_
      refine lv_istore (lv' := [(5, .int (iI (zL so st 0))), (4, .int (iI 0)), (0, .ref (b 0)), (1, .int (iI t)), (2, .int (iI st)), (3, .int (iI sk))]) hx hb dX3_rough_133 hl (by decide) rfl (fun ls hl => ?_)
      refine lp_X3_rough_135 b cB w h (cod3 (isW t 0 3) (isW st 1 1000) (isW sk 0 1000)) wn kn ik so ks rs (llF w h wn (ks t.toNat) (rs t.toNat) 400 lf) ((mkB K, mn), 0) t st sk 0 hx hb hml hown hts hA hZ hK (hw) (hh) (ht3) (hks) (hrs) (llF_rg hwn hlf) (hst) (hsk) (hso) (mkB_ok hK0) (hmn) (⟨Int.le_refl 0, Int.le_refl 0⟩) (by decide) (fun H locs ls hP hD hS hl => ?_)  (zN so st) 0 (by omega) _ _ _ hP hD hS (lv_sub hl [2, 3, 4, 5, 1, 0] rfl)
      have hP : va_P (dC, dI) vwCl (mdW b cB w h (cod3 (isW t 0 3) (isW st 1 1000) (isW sk 0 1000)) wn ((mrG w h (llF w h wn (ks t.toNat) (rs t.toNat) 400 lf) (ks t.toNat) (rs t.toNat) st sk so (zN so st) ((mkB K, mn), 0)).1.2) kn ik so ks rs (llF w h wn (ks t.toNat) (rs t.toNat) 400 lf) ((mrG w h (llF w h wn (ks t.toNat) (rs t.toNat) 400 lf) (ks t.toNat) (rs t.toNat) st sk so (zN so st) ((mkB K, mn), 0)).1.1)) H := hP
      have hD : va_D A (mdW b cB w h (cod3 (isW t 0 3) (isW st 1 1000) (isW sk 0 1000)) wn ((mrG w h (llF w h wn (ks t.toNat) (rs t.toNat) 400 lf) (ks t.toNat) (rs t.toNat) st sk so (zN so st) ((mkB K, mn), 0)).1.2) kn ik so ks rs (llF w h wn (ks t.toNat) (rs t.toNat) 400 lf) ((mrG w h (llF w h wn (ks t.toNat) (rs t.toNat) 400 lf) (ks t.toNat) (rs t.toNat) st sk so (zN so st) ((mkB K, mn), 0)).1.1)) := hD
      have hl : lv_has ls 9 [(0, .ref (b 0)), (1, .int (iI t)), (2, .int (iI st)), (3, .int (iI sk)), (4, .int (iI ((mrG w h (llF w h wn (ks t.toNat) (rs t.toNat) 400 lf) (ks t.toNat) (rs t.toNat) st sk so (zN so st) ((mkB K, mn), 0)).2))), (5, .int (iI (zL so st (zN so st))))] := hl
      refine lv_iload hx hb dX3_rough_242 (lv_at hl 4 rfl) ?_
      subst hAe
      rw [show (if cod3 (isW t 0 3) (isW st 1 1000) (isW sk 0 1000) ≤ 0 then (mrG w h (llF w h wn (ks t.toNat) (rs t.toNat) 400 lf) (ks t.toNat) (rs t.toNat) st sk so (zN so st) ((mkB K, mn), 0)).1.1 else K) = (mrG w h (llF w h wn (ks t.toNat) (rs t.toNat) 400 lf) (ks t.toNat) (rs t.toNat) st sk so (zN so st) ((mkB K, mn), 0)).1.1 from if_pos (by omega), show (if cod3 (isW t 0 3) (isW st 1 1000) (isW sk 0 1000) ≤ 0 then (mrG w h (llF w h wn (ks t.toNat) (rs t.toNat) 400 lf) (ks t.toNat) (rs t.toNat) st sk so (zN so st) ((mkB K, mn), 0)).1.2 else mn) = (mrG w h (llF w h wn (ks t.toNat) (rs t.toNat) 400 lf) (ks t.toNat) (rs t.toNat) st sk so (zN so st) ((mkB K, mn), 0)).1.2 from if_pos (by omega), show (if cod3 (isW t 0 3) (isW st 1 1000) (isW sk 0 1000) ≤ 0 then llF w h wn (ks t.toNat) (rs t.toNat) 400 lf else lf) = llF w h wn (ks t.toNat) (rs t.toNat) 400 lf from if_pos (by omega)]
      refine z_top (b := if cod3 (isW t 0 3) (isW st 1 1000) (isW sk 0 1000) ≤ 0 then (mrG w h (llF w h wn (ks t.toNat) (rs t.toNat) 400 lf) (ks t.toNat) (rs t.toNat) st sk so (zN so st) ((mkB K, mn), 0)).2 else 0) (by rw [if_pos (by omega)]) ?_
      exact z_iret hx hb hr hlocks hP hK hD hS (trivial) dX3_rough_244
    · refine lv_iconst (v := iI 0) hx hb dX3_rough_51 rfl ?_
      subst hAe
      rw [show (if cod3 (isW t 0 3) (isW st 1 1000) (isW sk 0 1000) ≤ 0 then (mrG w h (llF w h wn (ks t.toNat) (rs t.toNat) 400 lf) (ks t.toNat) (rs t.toNat) st sk so (zN so st) ((mkB K, mn), 0)).1.1 else K) = K from if_neg (by omega), show (if cod3 (isW t 0 3) (isW st 1 1000) (isW sk 0 1000) ≤ 0 then (mrG w h (llF w h wn (ks t.toNat) (rs t.toNat) 400 lf) (ks t.toNat) (rs t.toNat) st sk so (zN so st) ((mkB K, mn), 0)).1.2 else mn) = mn from if_neg (by omega), show (if cod3 (isW t 0 3) (isW st 1 1000) (isW sk 0 1000) ≤ 0 then llF w h wn (ks t.toNat) (rs t.toNat) 400 lf else lf) = lf from if_neg (by omega)]
      refine z_top (b := if cod3 (isW t 0 3) (isW st 1 1000) (isW sk 0 1000) ≤ 0 then (mrG w h (llF w h wn (ks t.toNat) (rs t.toNat) 400 lf) (ks t.toNat) (rs t.toNat) st sk so (zN so st) ((mkB K, mn), 0)).2 else 0) (by rw [if_neg (by omega)]) ?_
      exact z_iret hx hb hr hlocks hP hK hD hS (trivial) dX3_rough_52
  · refine z_if_ne (tgt := 14) hx hb dX3_rough_7 (by decide) (isW_rg _ _ _) (fun c7 => ?_) (fun c7 => ?_)
    · refine lv_iload_n hx hb dX3_rough_14 rfl (lv_at hl 2 rfl) ?_
      refine lv_iconst (v := iI 1) hx hb dX3_rough_15 rfl ?_
      refine lv_sipush (v := iI 1000) hx hb dX3_rough_16 (by decide) ?_
      refine z_rcalli (va_runS (As := [.int (iI st), .int (iI 1), .int (iI 1000)]) (rest := [.ref (b 0)]) ⟨hx, hb, hml, hown, hts⟩ (c_X3_isIn l dC dI (H).size st 1 1000 (by omega) (by omega) (by omega)) (va_cwS 3 hts g_X3_55 rfl rfl rfl (by decide +kernel) ⟨Nat.le_of_ble_eq_true rfl, Nat.le_of_ble_eq_true rfl⟩) (zP_S z_P0 (hK.sub [] rfl) z_D0 hS (z_free0 hS hA) hZ) rfl rfl hl.1 rfl (lv_room (Nat.le_of_ble_eq_true rfl)) dX3_rough_19 ⟨Nat.le_of_ble_eq_true rfl, Nat.le_of_ble_eq_true rfl⟩) hP hD hS (z_free0 hS hA) (fun _ h => by cases h) (fun H locs _ hP hD hS _ => ?_)
      refine z_if_eq (tgt := 40) hx hb dX3_rough_22 (by decide) (isW_rg _ _ _) (fun c22 => ?_) (fun c22 => ?_)
      · refine lv_iconst (v := iI 2) hx hb dX3_rough_40 rfl ?_
        exact z_top (b := cod3 (isW t 0 3) (isW st 1 1000) (isW sk 0 1000)) (by unfold cod3; (repeat' split) <;> omega) (J41 _ _ hP hD hS)
      · refine lv_iload_n hx hb dX3_rough_25 rfl (lv_at hl 3 rfl) ?_
        refine lv_iconst (v := iI 0) hx hb dX3_rough_26 rfl ?_
        refine lv_sipush (v := iI 1000) hx hb dX3_rough_27 (by decide) ?_
        refine z_rcalli (va_runS (As := [.int (iI sk), .int (iI 0), .int (iI 1000)]) (rest := [.ref (b 0)]) ⟨hx, hb, hml, hown, hts⟩ (c_X3_isIn l dC dI (H).size sk 0 1000 (by omega) (by omega) (by omega)) (va_cwS 3 hts g_X3_55 rfl rfl rfl (by decide +kernel) ⟨Nat.le_of_ble_eq_true rfl, Nat.le_of_ble_eq_true rfl⟩) (zP_S z_P0 (hK.sub [] rfl) z_D0 hS (z_free0 hS hA) hZ) rfl rfl hl.1 rfl (lv_room (Nat.le_of_ble_eq_true rfl)) dX3_rough_30 ⟨Nat.le_of_ble_eq_true rfl, Nat.le_of_ble_eq_true rfl⟩) hP hD hS (z_free0 hS hA) (fun _ h => by cases h) (fun H locs _ hP hD hS _ => ?_)
        refine z_if_eq (tgt := 40) hx hb dX3_rough_33 (by decide) (isW_rg _ _ _) (fun c33 => ?_) (fun c33 => ?_)
        · refine lv_iconst (v := iI 2) hx hb dX3_rough_40 rfl ?_
          exact z_top (b := cod3 (isW t 0 3) (isW st 1 1000) (isW sk 0 1000)) (by unfold cod3; (repeat' split) <;> omega) (J41 _ _ hP hD hS)
        · refine lv_iconst (v := iI 0) hx hb dX3_rough_36 rfl ?_
          refine lv_goto (tgt := 41) hx hb dX3_rough_37 (by decide) ?_
          exact z_top (b := cod3 (isW t 0 3) (isW st 1 1000) (isW sk 0 1000)) (by unfold cod3; (repeat' split) <;> omega) (J41 _ _ hP hD hS)
    · refine lv_iconst (v := iI 1) hx hb dX3_rough_10 rfl ?_
      refine lv_goto (tgt := 41) hx hb dX3_rough_11 (by decide) ?_
      exact z_top (b := cod3 (isW t 0 3) (isW st 1 1000) (isW sk 0 1000)) (by unfold cod3; (repeat' split) <;> omega) (J41 _ _ hP hD hS)
