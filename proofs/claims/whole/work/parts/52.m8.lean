def ikM (k c : Int) : Int := if ¬ k = 0 ∨ c = 0 then 1 else 0
theorem ikM_01 (k c : Int) : ikM k c = 0 ∨ ikM k c = 1 := by unfold ikM; split <;> simp
abbrev r_X3_repeat : Room := { frames := 1, cells := 0, slots := 0, locals := 22 }
set_option maxHeartbeats 4000000 in
set_option maxRecDepth 100000 in
theorem lp_X3_repeat_59 {p : Program} {l : Launch} {e : Env} {s : State} {m : MethodId} {args : Array Value} {below : List Frame} {meth : Method} {c : Code} {Q : State → Prop} {A : Nat → Prop} {dC : Nat → ClassId} {dI : Nat → Nat → Nat} (b : Nat → Nat) (cB : Nat → ClassId) (w h : Nat) (cd : Int) (mn kn : Nat → Int) (ik so : Int) (ks rs lf : Nat → Int) (K : MK) (q0 : (Nat → Int) × Int) (dx dy u : Int) (hx : p.tables.exec = Jvm.exec) (hb : c.code = cX3_repeat) (hml : c.maxLocals = 7) (hown : s.vm.findClass RX3 = some m.cls) (hts : ∀ w ∈ wsAll, w.before args s = true) (hA : ∀ q : Nat, s.heap.size ≤ q → A q) (hZ : zZ A s s.heap) (hK : va_K (dC, dI) vwCl (mdT cB) s) (hw : 1 ≤ w ∧ w ≤ 20) (hh : 1 ≤ h ∧ h ≤ 20) (hdx : 1 ≤ dx ∧ dx ≤ 20) (hdy : 1 ≤ dy ∧ dy ≤ 20) (hcd : cd = 0) (hq1 : bd q0.1 0 1000) (hq2 : 0 ≤ q0.2 ∧ q0.2 ≤ 100000) (hu : 0 ≤ u ∧ u < (h : Int)) (kk : ∀ (H : Heap) (locs : List Loc) (ls : Array Slot), va_P (dC, dI) vwCl (mdW b cB w h cd ((qmR w dx dy u w q0).1) mn kn ik so ks rs lf K) H → va_D A (mdW b cB w h cd ((qmR w dx dy u w q0).1) mn kn ik so ks rs lf K) → va_S A s.heap H locs → lv_has ls 7 [(0, .ref (b 0)), (1, .int (iI dx)), (2, .int (iI dy)), (3, .int (iI ((qmR w dx dy u w q0).2))), (4, .int (iI u)), (5, .int (iI ((w : Int) - 1 - ((w : Nat) : Int))))] → W p l e r_X3_repeat s m args below meth c H locs 0 0 Q (F0 m 130 ls [])) : ∀ (n i : Nat), i + n = w → ∀ (H : Heap) (locs : List Loc) (ls : Array Slot), va_P (dC, dI) vwCl (mdW b cB w h cd ((qmR w dx dy u i q0).1) mn kn ik so ks rs lf K) H → va_D A (mdW b cB w h cd ((qmR w dx dy u i q0).1) mn kn ik so ks rs lf K) → va_S A s.heap H locs → lv_has ls 7 [(0, .ref (b 0)), (1, .int (iI dx)), (2, .int (iI dy)), (3, .int (iI ((qmR w dx dy u i q0).2))), (4, .int (iI u)), (5, .int (iI ((w : Int) - 1 - ((i : Nat) : Int))))] → W p l e r_X3_repeat s m args below meth c H locs 0 0 Q (F0 m 59 ls []) := by
  intro n
  induction n with
  | zero =>
    intro i hi H locs ls hP hD hS hl
    have hi9 : w = i := by omega
    subst hi9
    refine lv_iload hx hb dX3_repeat_59 (lv_at hl 5 rfl) ?_
    refine z_if_lt (tgt := 130) hx hb dX3_repeat_61 (by decide) (by omega) (fun c61 => ?_) (fun c61 => by exfalso; omega)
    exact kk _ _ _ hP hD hS (lv_sub hl [0, 1, 2, 3, 4, 5] rfl)
  | succ n ih =>
    intro i hi H locs ls hP hD hS hl
    have hQ := qmR_ok (w := w) (dx := dx) (dy := dy) (y := u) (n := i) (M := 100000) hq1 hq2
    have hm1 := z_mod (a := (w : Int) - 1 - ((i : Nat) : Int)) (b := dx) (by omega) (by omega)
    have hm2 := z_mod (a := u) (b := dy) (by omega) (by omega)
    have hv9 := hQ.1 (20 * (u % dy) + ((w : Int) - 1 - ((i : Nat) : Int)) % dx).toNat
    have hv8 := hQ.1 (20 * u + ((w : Int) - 1 - ((i : Nat) : Int))).toNat
    refine lv_iload hx hb dX3_repeat_59 (lv_at hl 5 rfl) ?_
    refine z_if_lt (tgt := 130) hx hb dX3_repeat_61 (by decide) (by omega) (fun c61 => by exfalso; omega) (fun c61 => ?_)
    refine lv_aload_n hx hb dX3_repeat_64 rfl (lv_at hl 0 rfl) ?_
    refine va_get (D := (dC, dI)) (ci := 3) (v := .ref (b 1)) (C := RX3) (T := TX3) (N := 18) hx hb hts inX3 hown hK hP 0 rfl rfl 3 (by decide) (hts _ wm_406) (fun _ h9 => h9) rfl dX3_repeat_65 ?_
    refine lv_bipush (v := iI 20) hx hb dX3_repeat_68 (by decide) ?_
    refine lv_iload hx hb dX3_repeat_70 (lv_at hl 4 rfl) ?_
    refine lv_iload_n hx hb dX3_repeat_72 rfl (lv_at hl 2 rfl) ?_
    refine z_rem hx hb dX3_repeat_73 (by omega) (by omega) ?_
    refine z_mul hx hb dX3_repeat_74 ?_
    refine lv_iload hx hb dX3_repeat_75 (lv_at hl 5 rfl) ?_
    refine lv_iload_n hx hb dX3_repeat_77 rfl (lv_at hl 1 rfl) ?_
    refine z_rem hx hb dX3_repeat_78 (by omega) (by omega) ?_
    refine z_add hx hb dX3_repeat_79 ?_
    refine z_iald (f := (qmR w dx dy u i q0).1) (i := (20 * (u % dy)) + (((w : Int) - 1 - ((i : Nat) : Int)) % dx)) hx hb hK hP 1 0 rfl rfl (by omega) (by decide) dX3_repeat_80 ?_
    refine lv_istore (lv' := [(6, .int (iI (((qmR w dx dy u i q0).1) ((20 * (u % dy)) + (((w : Int) - 1 - ((i : Nat) : Int)) % dx)).toNat))), (0, .ref (b 0)), (1, .int (iI dx)), (2, .int (iI dy)), (3, .int (iI ((qmR w dx dy u i q0).2))), (4, .int (iI u)), (5, .int (iI ((w : Int) - 1 - ((i : Nat) : Int))))]) hx hb dX3_repeat_81 hl (by decide) rfl (fun ls hl => ?_)
    refine lv_aload_n hx hb dX3_repeat_83 rfl (lv_at hl 1 rfl) ?_
    refine va_get (D := (dC, dI)) (ci := 3) (v := .ref (b 1)) (C := RX3) (T := TX3) (N := 18) hx hb hts inX3 hown hK hP 0 rfl rfl 3 (by decide) (hts _ wm_406) (fun _ h9 => h9) rfl dX3_repeat_84 ?_
    refine lv_bipush (v := iI 20) hx hb dX3_repeat_87 (by decide) ?_
    refine lv_iload hx hb dX3_repeat_89 (lv_at hl 5 rfl) ?_
    refine z_mul hx hb dX3_repeat_91 ?_
    refine lv_iload hx hb dX3_repeat_92 (lv_at hl 6 rfl) ?_
    refine z_add hx hb dX3_repeat_94 ?_
    refine z_iald (f := (qmR w dx dy u i q0).1) (i := (20 * u) + ((w : Int) - 1 - ((i : Nat) : Int))) hx hb hK hP 1 0 rfl rfl (by omega) (by decide) dX3_repeat_95 ?_
    refine lv_iload hx hb dX3_repeat_96 (lv_at hl 0 rfl) ?_
    refine z_icmp_eq (tgt := 107) hx hb dX3_repeat_98 (by decide) (by omega) (by omega) (fun c98 => ?_) (fun c98 => ?_)
    · refine lv_iload_n hx hb dX3_repeat_107 rfl (lv_at hl 4 rfl) ?_
      refine lv_istore_n (lv' := [(3, .int (iI ((qmR w dx dy u i q0).2))), (6, .int (iI (((qmR w dx dy u i q0).1) ((20 * (u % dy)) + (((w : Int) - 1 - ((i : Nat) : Int)) % dx)).toNat))), (0, .ref (b 0)), (1, .int (iI dx)), (2, .int (iI dy)), (4, .int (iI u)), (5, .int (iI ((w : Int) - 1 - ((i : Nat) : Int))))]) hx hb dX3_repeat_108 rfl hl (by decide) rfl (fun ls hl => ?_)
      refine lv_aload_n hx hb dX3_repeat_109 rfl (lv_at hl 2 rfl) ?_
      refine va_get (D := (dC, dI)) (ci := 3) (v := .ref (b 1)) (C := RX3) (T := TX3) (N := 18) hx hb hts inX3 hown hK hP 0 rfl rfl 3 (by decide) (hts _ wm_406) (fun _ h9 => h9) rfl dX3_repeat_110 ?_
      refine lv_bipush (v := iI 20) hx hb dX3_repeat_113 (by decide) ?_
      refine lv_iload hx hb dX3_repeat_115 (lv_at hl 5 rfl) ?_
      refine z_mul hx hb dX3_repeat_117 ?_
      refine lv_iload hx hb dX3_repeat_118 (lv_at hl 6 rfl) ?_
      refine z_add hx hb dX3_repeat_120 ?_
      refine lv_iload hx hb dX3_repeat_121 (lv_at hl 1 rfl) ?_
      refine z_iast (f := (qmR w dx dy u i q0).1) (i := (20 * u) + ((w : Int) - 1 - ((i : Nat) : Int))) (x := ((qmR w dx dy u i q0).1) ((20 * (u % dy)) + (((w : Int) - 1 - ((i : Nat) : Int)) % dx)).toNat) hx hb hK hP hD hS 1 0 rfl rfl (by omega) (by decide) dX3_repeat_123 (fun H locs hP hD hS => ?_)
      have hP : va_P (dC, dI) vwCl (mdW b cB w h cd (uI ((qmR w dx dy u i q0).1) ((20 * u) + ((w : Int) - 1 - ((i : Nat) : Int))).toNat (((qmR w dx dy u i q0).1) ((20 * (u % dy)) + (((w : Int) - 1 - ((i : Nat) : Int)) % dx)).toNat)) mn kn ik so ks rs lf K) H := hP
      have hD : va_D A (mdW b cB w h cd (uI ((qmR w dx dy u i q0).1) ((20 * u) + ((w : Int) - 1 - ((i : Nat) : Int))).toNat (((qmR w dx dy u i q0).1) ((20 * (u % dy)) + (((w : Int) - 1 - ((i : Nat) : Int)) % dx)).toNat)) mn kn ik so ks rs lf K) := hD
      refine lv_iinc (v := iI ((w : Int) - 1 - (((i + 1) : Nat) : Int))) (lv' := [(5, .int (iI ((w : Int) - 1 - (((i + 1) : Nat) : Int)))), (3, .int (iI ((qmR w dx dy u i q0).2))), (6, .int (iI (((qmR w dx dy u i q0).1) ((20 * (u % dy)) + (((w : Int) - 1 - ((i : Nat) : Int)) % dx)).toNat))), (0, .ref (b 0)), (1, .int (iI dx)), (2, .int (iI dy)), (4, .int (iI u))]) hx hb dX3_repeat_124 hl (k := 6) rfl ((iI_add _ _).trans (congrArg iI (by omega))) (by decide) rfl (fun ls hl => ?_)
      refine lv_goto (tgt := 59) hx hb dX3_repeat_127 (by decide) ?_
      have e2 : (qmR w dx dy u (i + 1) q0).2 = (qmR w dx dy u i q0).2 := by
        show (qmR w dx dy u i q0).2 + (if (qmR w dx dy u i q0).1 (20 * u + ((w : Int) - 1 - ((i : Nat) : Int))).toNat = (qmR w dx dy u i q0).1 (20 * (u % dy) + ((w : Int) - 1 - ((i : Nat) : Int)) % dx).toNat then 0 else 1) = _
        split <;> omega
      exact ih (i + 1) (by omega) _ _ _ hP hD hS (by rw [e2]; exact lv_sub hl [3, 4, 5, 1, 6, 0] rfl)
    · refine lv_iload_n hx hb dX3_repeat_101 rfl (lv_at hl 4 rfl) ?_
      refine lv_iconst (v := iI 1) hx hb dX3_repeat_102 rfl ?_
      refine z_add hx hb dX3_repeat_103 ?_
      refine lv_goto (tgt := 108) hx hb dX3_repeat_104 (by decide) ?_
      refine lv_istore_n (lv' := [(3, .int (iI (((qmR w dx dy u i q0).2) + 1))), (6, .int (iI (((qmR w dx dy u i q0).1) ((20 * (u % dy)) + (((w : Int) - 1 - ((i : Nat) : Int)) % dx)).toNat))), (0, .ref (b 0)), (1, .int (iI dx)), (2, .int (iI dy)), (4, .int (iI u)), (5, .int (iI ((w : Int) - 1 - ((i : Nat) : Int))))]) hx hb dX3_repeat_108 rfl hl (by decide) rfl (fun ls hl => ?_)
      refine lv_aload_n hx hb dX3_repeat_109 rfl (lv_at hl 2 rfl) ?_
      refine va_get (D := (dC, dI)) (ci := 3) (v := .ref (b 1)) (C := RX3) (T := TX3) (N := 18) hx hb hts inX3 hown hK hP 0 rfl rfl 3 (by decide) (hts _ wm_406) (fun _ h9 => h9) rfl dX3_repeat_110 ?_
      refine lv_bipush (v := iI 20) hx hb dX3_repeat_113 (by decide) ?_
      refine lv_iload hx hb dX3_repeat_115 (lv_at hl 5 rfl) ?_
      refine z_mul hx hb dX3_repeat_117 ?_
      refine lv_iload hx hb dX3_repeat_118 (lv_at hl 6 rfl) ?_
      refine z_add hx hb dX3_repeat_120 ?_
      refine lv_iload hx hb dX3_repeat_121 (lv_at hl 1 rfl) ?_
      refine z_iast (f := (qmR w dx dy u i q0).1) (i := (20 * u) + ((w : Int) - 1 - ((i : Nat) : Int))) (x := ((qmR w dx dy u i q0).1) ((20 * (u % dy)) + (((w : Int) - 1 - ((i : Nat) : Int)) % dx)).toNat) hx hb hK hP hD hS 1 0 rfl rfl (by omega) (by decide) dX3_repeat_123 (fun H locs hP hD hS => ?_)
      have hP : va_P (dC, dI) vwCl (mdW b cB w h cd (uI ((qmR w dx dy u i q0).1) ((20 * u) + ((w : Int) - 1 - ((i : Nat) : Int))).toNat (((qmR w dx dy u i q0).1) ((20 * (u % dy)) + (((w : Int) - 1 - ((i : Nat) : Int)) % dx)).toNat)) mn kn ik so ks rs lf K) H := hP
      have hD : va_D A (mdW b cB w h cd (uI ((qmR w dx dy u i q0).1) ((20 * u) + ((w : Int) - 1 - ((i : Nat) : Int))).toNat (((qmR w dx dy u i q0).1) ((20 * (u % dy)) + (((w : Int) - 1 - ((i : Nat) : Int)) % dx)).toNat)) mn kn ik so ks rs lf K) := hD
      refine lv_iinc (v := iI ((w : Int) - 1 - (((i + 1) : Nat) : Int))) (lv' := [(5, .int (iI ((w : Int) - 1 - (((i + 1) : Nat) : Int)))), (3, .int (iI (((qmR w dx dy u i q0).2) + 1))), (6, .int (iI (((qmR w dx dy u i q0).1) ((20 * (u % dy)) + (((w : Int) - 1 - ((i : Nat) : Int)) % dx)).toNat))), (0, .ref (b 0)), (1, .int (iI dx)), (2, .int (iI dy)), (4, .int (iI u))]) hx hb dX3_repeat_124 hl (k := 6) rfl ((iI_add _ _).trans (congrArg iI (by omega))) (by decide) rfl (fun ls hl => ?_)
      refine lv_goto (tgt := 59) hx hb dX3_repeat_127 (by decide) ?_
      have e2 : (qmR w dx dy u (i + 1) q0).2 = ((qmR w dx dy u i q0).2) + 1 := by
        show (qmR w dx dy u i q0).2 + (if (qmR w dx dy u i q0).1 (20 * u + ((w : Int) - 1 - ((i : Nat) : Int))).toNat = (qmR w dx dy u i q0).1 (20 * (u % dy) + ((w : Int) - 1 - ((i : Nat) : Int)) % dx).toNat then 0 else 1) = _
        split <;> omega
      exact ih (i + 1) (by omega) _ _ _ hP hD hS (by rw [e2]; exact lv_sub hl [3, 4, 5, 1, 6, 0] rfl)
set_option maxHeartbeats 4000000 in
set_option maxRecDepth 100000 in
theorem lp_X3_repeat_39 {p : Program} {l : Launch} {e : Env} {s : State} {m : MethodId} {args : Array Value} {below : List Frame} {meth : Method} {c : Code} {Q : State → Prop} {A : Nat → Prop} {dC : Nat → ClassId} {dI : Nat → Nat → Nat} (b : Nat → Nat) (cB : Nat → ClassId) (w h : Nat) (cd : Int) (mn kn : Nat → Int) (ik so : Int) (ks rs lf : Nat → Int) (K : MK) (q0 : (Nat → Int) × Int) (dx dy : Int) (hx : p.tables.exec = Jvm.exec) (hb : c.code = cX3_repeat) (hml : c.maxLocals = 7) (hown : s.vm.findClass RX3 = some m.cls) (hts : ∀ w ∈ wsAll, w.before args s = true) (hA : ∀ q : Nat, s.heap.size ≤ q → A q) (hZ : zZ A s s.heap) (hK : va_K (dC, dI) vwCl (mdT cB) s) (hw : 1 ≤ w ∧ w ≤ 20) (hh : 1 ≤ h ∧ h ≤ 20) (hdx : 1 ≤ dx ∧ dx ≤ 20) (hdy : 1 ≤ dy ∧ dy ≤ 20) (hcd : cd = 0) (hq1 : bd q0.1 0 1000) (hq2 : 0 ≤ q0.2 ∧ q0.2 ≤ 0) (kk : ∀ (H : Heap) (locs : List Loc) (ls : Array Slot), va_P (dC, dI) vwCl (mdW b cB w h cd ((qmF w h dx dy h q0).1) mn kn ik so ks rs lf K) H → va_D A (mdW b cB w h cd ((qmF w h dx dy h q0).1) mn kn ik so ks rs lf K) → va_S A s.heap H locs → lv_has ls 7 [(0, .ref (b 0)), (1, .int (iI dx)), (2, .int (iI dy)), (3, .int (iI ((qmF w h dx dy h q0).2))), (4, .int (iI ((h : Int) - 1 - ((h : Nat) : Int))))] → W p l e r_X3_repeat s m args below meth c H locs 0 0 Q (F0 m 136 ls [])) : ∀ (n i : Nat), i + n = h → ∀ (H : Heap) (locs : List Loc) (ls : Array Slot), va_P (dC, dI) vwCl (mdW b cB w h cd ((qmF w h dx dy i q0).1) mn kn ik so ks rs lf K) H → va_D A (mdW b cB w h cd ((qmF w h dx dy i q0).1) mn kn ik so ks rs lf K) → va_S A s.heap H locs → lv_has ls 7 [(0, .ref (b 0)), (1, .int (iI dx)), (2, .int (iI dy)), (3, .int (iI ((qmF w h dx dy i q0).2))), (4, .int (iI ((h : Int) - 1 - ((i : Nat) : Int))))] → W p l e r_X3_repeat s m args below meth c H locs 0 0 Q (F0 m 39 ls []) := by
  intro n
  induction n with
  | zero =>
    intro i hi H locs ls hP hD hS hl
    have hi9 : h = i := by omega
    subst hi9
    refine lv_iload hx hb dX3_repeat_39 (lv_at hl 4 rfl) ?_
    refine z_if_lt (tgt := 136) hx hb dX3_repeat_41 (by decide) (by omega) (fun c41 => ?_) (fun c41 => ?_)
    · exact kk _ _ _ hP hD hS (lv_sub hl [0, 1, 2, 3, 4] rfl)
    · refine lv_aload_n hx hb dX3_repeat_44 rfl (lv_at hl 0 rfl) ?_
      refine va_get (D := (dC, dI)) (ci := 3) (v := .int (iI cd)) (C := RX3) (T := TX3) (N := 18) hx hb hts inX3 hown hK hP 0 rfl rfl 0 (by decide) (hts _ wm_403) (fun _ h9 => h9) rfl dX3_repeat_45 ?_
      refine z_if_ne (tgt := 136) hx hb dX3_repeat_48 (by decide) (by omega) (fun c48 => ?_) (fun c48 => by exfalso; omega)
      exact kk _ _ _ hP hD hS (lv_sub hl [0, 1, 2, 3, 4] rfl)
  | succ n ih =>
    intro i hi H locs ls hP hD hS hl
    have hQ := qmF_ok (w := w) (h := h) (dx := dx) (dy := dy) (n := i) hw.2 hq1 hq2
    refine lv_iload hx hb dX3_repeat_39 (lv_at hl 4 rfl) ?_
    refine z_if_lt (tgt := 136) hx hb dX3_repeat_41 (by decide) (by omega) (fun c41 => by exfalso; omega) (fun c41 => ?_)
    refine lv_aload_n hx hb dX3_repeat_44 rfl (lv_at hl 0 rfl) ?_
    refine va_get (D := (dC, dI)) (ci := 3) (v := .int (iI cd)) (C := RX3) (T := TX3) (N := 18) hx hb hts inX3 hown hK hP 0 rfl rfl 0 (by decide) (hts _ wm_403) (fun _ h9 => h9) rfl dX3_repeat_45 ?_
    refine z_if_ne (tgt := 136) hx hb dX3_repeat_48 (by decide) (by omega) (fun c48 => by exfalso; omega) (fun c48 => ?_)
    refine lv_aload_n hx hb dX3_repeat_51 rfl (lv_at hl 0 rfl) ?_
    refine va_get (D := (dC, dI)) (ci := 3) (v := .int (iI (w : Int))) (C := RX3) (T := TX3) (N := 18) hx hb hts inX3 hown hK hP 0 rfl rfl 1 (by decide) (hts _ wm_404) (fun _ h9 => h9) rfl dX3_repeat_52 ?_
    refine lv_iconst (v := iI 1) hx hb dX3_repeat_55 rfl ?_
    refine z_sub hx hb dX3_repeat_56 ?_
    refine z_top (b := (w : Int) - 1 - ((0 : Nat) : Int)) (by omega) ?_
    refine lv_istore (lv' := [(5, .int (iI ((w : Int) - 1 - ((0 : Nat) : Int)))), (0, .ref (b 0)), (1, .int (iI dx)), (2, .int (iI dy)), (3, .int (iI ((qmF w h dx dy i q0).2))), (4, .int (iI ((h : Int) - 1 - ((i : Nat) : Int))))]) hx hb dX3_repeat_57 hl (by decide) rfl (fun ls hl => ?_)
    refine lp_X3_repeat_59 b cB w h cd mn kn ik so ks rs lf K (qmF w h dx dy i q0) dx dy ((h : Int) - 1 - ((i : Nat) : Int)) hx hb hml hown hts hA hZ hK (hw) (hh) (hdx) (hdy) (hcd) (hQ.1) (⟨hQ.2.1, by omega⟩) (by omega) (fun H locs ls hP hD hS hl => ?_)  w 0 (by omega) _ _ _ hP hD hS (lv_sub hl [1, 2, 3, 4, 5, 0] rfl)
    have hP : va_P (dC, dI) vwCl (mdW b cB w h cd ((qmR w dx dy ((h : Int) - 1 - ((i : Nat) : Int)) w (qmF w h dx dy i q0)).1) mn kn ik so ks rs lf K) H := hP
    have hD : va_D A (mdW b cB w h cd ((qmR w dx dy ((h : Int) - 1 - ((i : Nat) : Int)) w (qmF w h dx dy i q0)).1) mn kn ik so ks rs lf K) := hD
    have hl : lv_has ls 7 [(0, .ref (b 0)), (1, .int (iI dx)), (2, .int (iI dy)), (3, .int (iI ((qmR w dx dy ((h : Int) - 1 - ((i : Nat) : Int)) w (qmF w h dx dy i q0)).2))), (4, .int (iI ((h : Int) - 1 - ((i : Nat) : Int)))), (5, .int (iI ((w : Int) - 1 - ((w : Nat) : Int))))] := hl
    refine lv_iinc (v := iI ((h : Int) - 1 - (((i + 1) : Nat) : Int))) (lv' := [(4, .int (iI ((h : Int) - 1 - (((i + 1) : Nat) : Int)))), (0, .ref (b 0)), (1, .int (iI dx)), (2, .int (iI dy)), (3, .int (iI ((qmR w dx dy ((h : Int) - 1 - ((i : Nat) : Int)) w (qmF w h dx dy i q0)).2))), (5, .int (iI ((w : Int) - 1 - ((w : Nat) : Int))))]) hx hb dX3_repeat_130 hl (k := 4) rfl ((iI_add _ _).trans (congrArg iI (by omega))) (by decide) rfl (fun ls hl => ?_)
    refine lv_goto (tgt := 39) hx hb dX3_repeat_133 (by decide) ?_
    exact ih (i + 1) (by omega) _ _ _ hP hD hS (lv_sub hl [1, 2, 3, 4, 0] rfl)
set_option maxHeartbeats 4000000 in
set_option maxRecDepth 100000 in
theorem c_X3_repeat (l : Launch) (dC : Nat → ClassId) (dI : Nat → Nat → Nat) (sz : Nat) (b : Nat → Nat) (cB : Nat → ClassId) (w h : Nat) (cd : Int) (wn mn kn : Nat → Int) (ik so : Int) (ks rs lf : Nat → Int) (K : MK) (dx dy : Int) (hw : 1 ≤ w ∧ w ≤ 20) (hh : 1 ≤ h ∧ h ≤ 20) (hwn : bd wn 0 1000) (h1 : rg dx) (h2 : rg dy) : Met l yX3_repeat wsX3_repeat r_X3_repeat (zP (dC, dI) vwCl (mdT cB) (mdW b cB w h cd wn mn kn ik so ks rs lf K) sz [.ref (b 0), .int (iI dx), .int (iI dy)]) (zQi (dC, dI) vwCl (mdT cB) (mdW b cB w h cd wn mn kn ik so ks rs lf K) sz (True) (if cod1a (isW dx 1 20) (isW dy 1 20) ≤ 0 then (qmF w h dx dy h (wn, 0)).2 else 0) (mdW b cB w h (cod1a (isW dx 1 20) (isW dy 1 20)) (if cod1a (isW dx 1 20) (isW dy 1 20) ≤ 0 then (qmF w h dx dy h (wn, 0)).1 else wn) mn kn ik so ks rs lf K)) 0 0 (va_A (mdW b cB w h cd wn mn kn ik so ks rs lf K) sz) := by
  refine Met.ofW (cc := cX3_repeat) (maxL := 7) (ret := (some .int)) (by decide) rfl ?_
  intro p e s m args below meth c s₁ B hml hv
  obtain ⟨rfl, hsz, hP, hK, hD0, hZ⟩ := hv
  have hx := B.exec
  have hb := B.bytes
  have hr := B.returns
  have hts0 := atoms_spec (ws := wsX3_repeat) B.pre
  have hts : ∀ w ∈ wsAll, w.before _ s = true := fun w h => hts0 w (List.mem_cons_of_mem _ h)
  have hown : s.vm.findClass RX3 = some m.cls := findClass_of_methodNamed B.named
  have hlocks := B.notSynchronized
  subst hsz
  have hD := hD0.self (sz := s.heap.size)
  obtain ⟨A, hAe⟩ : ∃ A, A = va_A (mdW b cB w h cd wn mn kn ik so ks rs lf K) s.heap.size := ⟨_, rfl⟩
  rw [← hAe] at hD hZ
  have hA : ∀ q : Nat, s.heap.size ≤ q → A q := fun q h => by rw [hAe]; exact Or.inr h
  have hS : va_S A s.heap s.heap [] := va_S.rf
  have hP : va_P (dC, dI) vwCl (mdW b cB w h cd wn mn kn ik so ks rs lf K) s.heap := hP
  have hl := lv_entry ([.ref (b 0), .int (iI dx), .int (iI dy)]) (n := 7) (Nat.le_of_ble_eq_true rfl)
  rw [lg_entry_eq]
  generalize (lg_sl ([.ref (b 0), .int (iI dx), .int (iI dy)]) ++ List.replicate (7 - (lg_sl ([.ref (b 0), .int (iI dx), .int (iI dy)])).length) Slot.unset).toArray = ls at hl ⊢
  have hl : lv_has ls 7 [(0, .ref (b 0)), (1, .int (iI dx)), (2, .int (iI dy))] := hl
  refine lv_aload_n hx hb dX3_repeat_0 rfl (lv_at hl 0 rfl) ?_
  refine lv_iload_n hx hb dX3_repeat_1 rfl (lv_at hl 1 rfl) ?_
  refine lv_iconst (v := iI 1) hx hb dX3_repeat_2 rfl ?_
  refine lv_bipush (v := iI 20) hx hb dX3_repeat_3 (by decide) ?_
  refine z_rcalli (va_runS (As := [.int (iI dx), .int (iI 1), .int (iI 20)]) (rest := [.ref (b 0)]) ⟨hx, hb, hml, hown, hts⟩ (c_X3_isIn l dC dI (s.heap).size dx 1 20 (by omega) (by omega) (by omega)) (va_cwS 3 hts g_X3_55 rfl rfl rfl (by decide +kernel) ⟨Nat.le_of_ble_eq_true rfl, Nat.le_of_ble_eq_true rfl⟩) (zP_S z_P0 (hK.sub [] rfl) z_D0 hS (z_free0 hS hA) hZ) rfl rfl hl.1 rfl (lv_room (Nat.le_of_ble_eq_true rfl)) dX3_repeat_5 ⟨Nat.le_of_ble_eq_true rfl, Nat.le_of_ble_eq_true rfl⟩) hP hD hS (z_free0 hS hA) (fun _ h => by cases h) (fun H locs _ hP hD hS _ => ?_)
  refine z_joinH (D := (dC, dI)) (cl := vwCl) (A := A) (ws := mdW b cB w h cd wn mn kn ik so ks rs lf K) (g0 := F0 m 26 ls [.int (iI (cod1a (isW dx 1 20) (isW dy 1 20))), .ref (b 0)]) (fun H locs hP hD hS => ?_) (fun J26 => ?_)
  · refine va_put (D := (dC, dI)) (ci := 3) (v := .int (iI (cod1a (isW dx 1 20) (isW dy 1 20)))) (ty := .int) (C := RX3) (T := TX3) (N := 18) hx hb hts inX3 tyX3 tyX3_ok nmX3 hown hK hP hD hS 0 rfl rfl 0 (by decide) (hts _ wm_403) (fun _ h9 => h9) rfl (by decide +kernel) rfl rfl (Nat.le_of_ble_eq_true rfl) dX3_repeat_26 (fun H locs hP hD hS => ?_)
    have hP : va_P (dC, dI) vwCl (mdW b cB w h (cod1a (isW dx 1 20) (isW dy 1 20)) wn mn kn ik so ks rs lf K) H := hP
    have hD : va_D A (mdW b cB w h (cod1a (isW dx 1 20) (isW dy 1 20)) wn mn kn ik so ks rs lf K) := hD
    refine lv_iconst (v := iI 0) hx hb dX3_repeat_29 rfl ?_
    refine lv_istore_n (lv' := [(3, .int (iI 0)), (0, .ref (b 0)), (1, .int (iI dx)), (2, .int (iI dy))]) hx hb dX3_repeat_30 rfl hl (by decide) rfl (fun ls hl => ?_)
    refine lv_aload_n hx hb dX3_repeat_31 rfl (lv_at hl 1 rfl) ?_
    refine va_get (D := (dC, dI)) (ci := 3) (v := .int (iI (h : Int))) (C := RX3) (T := TX3) (N := 18) hx hb hts inX3 hown hK hP 0 rfl rfl 2 (by decide) (hts _ wm_405) (fun _ h9 => h9) rfl dX3_repeat_32 ?_
    refine lv_iconst (v := iI 1) hx hb dX3_repeat_35 rfl ?_
    refine z_sub hx hb dX3_repeat_36 ?_
    refine z_top (b := (h : Int) - 1 - ((0 : Nat) : Int)) (by omega) ?_
    refine lv_istore (lv' := [(4, .int (iI ((h : Int) - 1 - ((0 : Nat) : Int)))), (3, .int (iI 0)), (0, .ref (b 0)), (1, .int (iI dx)), (2, .int (iI dy))]) hx hb dX3_repeat_37 hl (by decide) rfl (fun ls hl => ?_)
    have hcr := cod1a_rg (isW dx 1 20) (isW dy 1 20)
    by_cases hc0 : cod1a (isW dx 1 20) (isW dy 1 20) = 0
    · have hok := cod1a_ok (p := isW dx 1 20) (q := isW dy 1 20) (by omega)
      have hdx := isW_t.mp hok.1
      have hdy := isW_t.mp hok.2
      refine lp_X3_repeat_39 b cB w h (cod1a (isW dx 1 20) (isW dy 1 20)) mn kn ik so ks rs lf K (wn, 0) dx dy hx hb hml hown hts hA hZ hK (hw) (hh) (hdx) (hdy) (hc0) (hwn) (⟨Int.le_refl 0, Int.le_refl 0⟩) (fun H locs ls hP hD hS hl => ?_)  h 0 (by omega) _ _ _ hP hD hS (lv_sub hl [2, 3, 4, 1, 0] rfl)
      have hP : va_P (dC, dI) vwCl (mdW b cB w h (cod1a (isW dx 1 20) (isW dy 1 20)) ((qmF w h dx dy h (wn, 0)).1) mn kn ik so ks rs lf K) H := hP
      have hD : va_D A (mdW b cB w h (cod1a (isW dx 1 20) (isW dy 1 20)) ((qmF w h dx dy h (wn, 0)).1) mn kn ik so ks rs lf K) := hD
      have hl : lv_has ls 7 [(0, .ref (b 0)), (1, .int (iI dx)), (2, .int (iI dy)), (3, .int (iI ((qmF w h dx dy h (wn, 0)).2))), (4, .int (iI ((h : Int) - 1 - ((h : Nat) : Int))))] := hl
      refine lv_iload_n hx hb dX3_repeat_136 rfl (lv_at hl 3 rfl) ?_
      subst hAe
      first | rw [show (if cod1a (isW dx 1 20) (isW dy 1 20) ≤ 0 then (qmF w h dx dy h (wn, 0)).1 else wn) = (qmF w h dx dy h (wn, 0)).1 from if_pos (by omega)] | rw [show (if cod1a (isW dx 1 20) (isW dy 1 20) ≤ 0 then (qmF w h dx dy h (wn, 0)).1 else wn) = wn from if_neg (by omega)]
      refine z_top (b := if cod1a (isW dx 1 20) (isW dy 1 20) ≤ 0 then (qmF w h dx dy h (wn, 0)).2 else 0) (by first | rw [if_pos (by omega)] | rw [if_neg (by omega)]) ?_
      exact z_iret hx hb hr hlocks hP hK hD hS (trivial) dX3_repeat_137
    · refine lv_iload hx hb dX3_repeat_39 (lv_at hl 0 rfl) ?_
      refine z_if_lt (tgt := 136) hx hb dX3_repeat_41 (by decide) (by omega) (fun c41 => by exfalso; omega) (fun c41 => ?_)
      refine lv_aload_n hx hb dX3_repeat_44 rfl (lv_at hl 2 rfl) ?_
      refine va_get (D := (dC, dI)) (ci := 3) (v := .int (iI (cod1a (isW dx 1 20) (isW dy 1 20)))) (C := RX3) (T := TX3) (N := 18) hx hb hts inX3 hown hK hP 0 rfl rfl 0 (by decide) (hts _ wm_403) (fun _ h9 => h9) rfl dX3_repeat_45 ?_
      refine z_if_ne (tgt := 136) hx hb dX3_repeat_48 (by decide) (by omega) (fun c48 => ?_) (fun c48 => by exfalso; omega)
      refine lv_iload_n hx hb dX3_repeat_136 rfl (lv_at hl 1 rfl) ?_
      subst hAe
      first | rw [show (if cod1a (isW dx 1 20) (isW dy 1 20) ≤ 0 then (qmF w h dx dy h (wn, 0)).1 else wn) = (qmF w h dx dy h (wn, 0)).1 from if_pos (by omega)] | rw [show (if cod1a (isW dx 1 20) (isW dy 1 20) ≤ 0 then (qmF w h dx dy h (wn, 0)).1 else wn) = wn from if_neg (by omega)]
      refine z_top (b := if cod1a (isW dx 1 20) (isW dy 1 20) ≤ 0 then (qmF w h dx dy h (wn, 0)).2 else 0) (by first | rw [if_pos (by omega)] | rw [if_neg (by omega)]) ?_
      exact z_iret hx hb hr hlocks hP hK hD hS (trivial) dX3_repeat_137
  · refine z_if_eq (tgt := 25) hx hb dX3_repeat_8 (by decide) (isW_rg _ _ _) (fun c8 => ?_) (fun c8 => ?_)
    · refine lv_iconst (v := iI 1) hx hb dX3_repeat_25 rfl ?_
      exact z_top (b := cod1a (isW dx 1 20) (isW dy 1 20)) (by unfold cod1a; (repeat' split) <;> omega) (J26 _ _ hP hD hS)
    · refine lv_iload_n hx hb dX3_repeat_11 rfl (lv_at hl 2 rfl) ?_
      refine lv_iconst (v := iI 1) hx hb dX3_repeat_12 rfl ?_
      refine lv_bipush (v := iI 20) hx hb dX3_repeat_13 (by decide) ?_
      refine z_rcalli (va_runS (As := [.int (iI dy), .int (iI 1), .int (iI 20)]) (rest := [.ref (b 0)]) ⟨hx, hb, hml, hown, hts⟩ (c_X3_isIn l dC dI (H).size dy 1 20 (by omega) (by omega) (by omega)) (va_cwS 3 hts g_X3_55 rfl rfl rfl (by decide +kernel) ⟨Nat.le_of_ble_eq_true rfl, Nat.le_of_ble_eq_true rfl⟩) (zP_S z_P0 (hK.sub [] rfl) z_D0 hS (z_free0 hS hA) hZ) rfl rfl hl.1 rfl (lv_room (Nat.le_of_ble_eq_true rfl)) dX3_repeat_15 ⟨Nat.le_of_ble_eq_true rfl, Nat.le_of_ble_eq_true rfl⟩) hP hD hS (z_free0 hS hA) (fun _ h => by cases h) (fun H locs _ hP hD hS _ => ?_)
      refine z_if_eq (tgt := 25) hx hb dX3_repeat_18 (by decide) (isW_rg _ _ _) (fun c18 => ?_) (fun c18 => ?_)
      · refine lv_iconst (v := iI 1) hx hb dX3_repeat_25 rfl ?_
        exact z_top (b := cod1a (isW dx 1 20) (isW dy 1 20)) (by unfold cod1a; (repeat' split) <;> omega) (J26 _ _ hP hD hS)
      · refine lv_iconst (v := iI 0) hx hb dX3_repeat_21 rfl ?_
        refine lv_goto (tgt := 26) hx hb dX3_repeat_22 (by decide) ?_
        exact z_top (b := cod1a (isW dx 1 20) (isW dy 1 20)) (by unfold cod1a; (repeat' split) <;> omega) (J26 _ _ hP hD hS)
abbrev r_X3_merge : Room := { frames := 1, cells := 0, slots := 0, locals := 22 }
set_option maxHeartbeats 4000000 in
set_option maxRecDepth 100000 in
theorem lp_X3_merge_49 {p : Program} {l : Launch} {e : Env} {s : State} {m : MethodId} {args : Array Value} {below : List Frame} {meth : Method} {c : Code} {Q : State → Prop} {A : Nat → Prop} {dC : Nat → ClassId} {dI : Nat → Nat → Nat} (b : Nat → Nat) (cB : Nat → ClassId) (w h : Nat) (cd : Int) (mn : Nat → Int) (ik so : Int) (ks rs lf : Nat → Int) (K : MK) (q0 : ((Nat → Int) × Int) × (Nat → Int)) (u v : Int) (hx : p.tables.exec = Jvm.exec) (hb : c.code = cX3_merge) (hml : c.maxLocals = 8) (hown : s.vm.findClass RX3 = some m.cls) (hts : ∀ w ∈ wsAll, w.before args s = true) (hA : ∀ q : Nat, s.heap.size ≤ q → A q) (hZ : zZ A s s.heap) (hK : va_K (dC, dI) vwCl (mdT cB) s) (hw : 1 ≤ w ∧ w ≤ 20) (hh : 1 ≤ h ∧ h ≤ 20) (hcd : cd = 0) (hu : 0 ≤ u ∧ u ≤ 3) (hv : 0 ≤ v ∧ v ≤ 1000) (hq1 : bd q0.1.1 0 1000) (hq2 : 0 ≤ q0.1.2 ∧ q0.1.2 ≤ 0) (hq3 : bd q0.2 0 1000) (kk : ∀ (H : Heap) (locs : List Loc) (ls : Array Slot), va_P (dC, dI) vwCl (mdW b cB w h cd ((mmF w h u v 400 q0).1.1) mn ((mmF w h u v 400 q0).2) ik so ks rs lf K) H → va_D A (mdW b cB w h cd ((mmF w h u v 400 q0).1.1) mn ((mmF w h u v 400 q0).2) ik so ks rs lf K) → va_S A s.heap H locs → lv_has ls 8 [(0, .ref (b 0)), (1, .int (iI u)), (2, .int (iI v)), (3, .int (iI ((mmF w h u v 400 q0).1.2))), (4, .int (iI ((400 : Nat) : Int)))] → W p l e r_X3_merge s m args below meth c H locs 0 0 Q (F0 m 260 ls [])) : ∀ (n i : Nat), i + n = 400 → ∀ (H : Heap) (locs : List Loc) (ls : Array Slot), va_P (dC, dI) vwCl (mdW b cB w h cd ((mmF w h u v i q0).1.1) mn ((mmF w h u v i q0).2) ik so ks rs lf K) H → va_D A (mdW b cB w h cd ((mmF w h u v i q0).1.1) mn ((mmF w h u v i q0).2) ik so ks rs lf K) → va_S A s.heap H locs → lv_has ls 8 [(0, .ref (b 0)), (1, .int (iI u)), (2, .int (iI v)), (3, .int (iI ((mmF w h u v i q0).1.2))), (4, .int (iI ((i : Nat) : Int)))] → W p l e r_X3_merge s m args below meth c H locs 0 0 Q (F0 m 49 ls []) := by
  intro n
  induction n with
  | zero =>
    intro i hi H locs ls hP hD hS hl
    have hi9 : 400 = i := by omega
    subst hi9
    refine lv_iload hx hb dX3_merge_49 (lv_at hl 4 rfl) ?_
    refine lv_sipush (v := iI 400) hx hb dX3_merge_51 (by decide) ?_
    refine z_icmp_ge (tgt := 260) hx hb dX3_merge_54 (by decide) (by omega) (by omega) (fun c54 => ?_) (fun c54 => ?_)
    · exact kk _ _ _ hP hD hS (lv_sub hl [0, 1, 2, 3, 4] rfl)
    · refine lv_aload_n hx hb dX3_merge_57 rfl (lv_at hl 0 rfl) ?_
      refine va_get (D := (dC, dI)) (ci := 3) (v := .int (iI cd)) (C := RX3) (T := TX3) (N := 18) hx hb hts inX3 hown hK hP 0 rfl rfl 0 (by decide) (hts _ wm_403) (fun _ h9 => h9) rfl dX3_merge_58 ?_
      refine z_if_ne (tgt := 260) hx hb dX3_merge_61 (by decide) (by omega) (fun c61 => ?_) (fun c61 => by exfalso; omega)
      exact kk _ _ _ hP hD hS (lv_sub hl [0, 1, 2, 3, 4] rfl)
  | succ n ih =>
    intro i hi H locs ls hP hD hS hl
    have hQ := mmF_ok (w := w) (h := h) (u := u) (v := v) (n := i) hq1 hq2 hq3
    have hb1 := hQ.1.1 i
    have hb2 := hQ.2 i
    have hm1 := z_mod (a := ((i : Nat) : Int)) (b := 20) (by omega) (by omega)
    have hd1 : 0 ≤ ((i : Nat) : Int) / 20 ∧ ((i : Nat) : Int) / 20 < 20 := by omega
    refine lv_iload hx hb dX3_merge_49 (lv_at hl 4 rfl) ?_
    refine lv_sipush (v := iI 400) hx hb dX3_merge_51 (by decide) ?_
    refine z_icmp_ge (tgt := 260) hx hb dX3_merge_54 (by decide) (by omega) (by omega) (fun c54 => by exfalso; omega) (fun c54 => ?_)
    refine lv_aload_n hx hb dX3_merge_57 rfl (lv_at hl 0 rfl) ?_
    refine va_get (D := (dC, dI)) (ci := 3) (v := .int (iI cd)) (C := RX3) (T := TX3) (N := 18) hx hb hts inX3 hown hK hP 0 rfl rfl 0 (by decide) (hts _ wm_403) (fun _ h9 => h9) rfl dX3_merge_58 ?_
    refine z_if_ne (tgt := 260) hx hb dX3_merge_61 (by decide) (by omega) (fun c61 => by exfalso; omega) (fun c61 => ?_)
    refine lv_iload_n hx hb dX3_merge_64 rfl (lv_at hl 1 rfl) ?_
    refine z_if_ne (tgt := 82) hx hb dX3_merge_65 (by decide) (by omega) (fun c65 => ?_) (fun c65 => ?_)
    · refine lv_iload hx hb dX3_merge_82 (lv_at hl 4 rfl) ?_
      refine lv_bipush (v := iI 20) hx hb dX3_merge_84 (by decide) ?_
      refine z_rem hx hb dX3_merge_86 (by omega) (by omega) ?_
      refine lv_aload_n hx hb dX3_merge_87 rfl (lv_at hl 0 rfl) ?_
      refine va_get (D := (dC, dI)) (ci := 3) (v := .int (iI (w : Int))) (C := RX3) (T := TX3) (N := 18) hx hb hts inX3 hown hK hP 0 rfl rfl 1 (by decide) (hts _ wm_404) (fun _ h9 => h9) rfl dX3_merge_88 ?_
      refine z_icmp_ge (tgt := 254) hx hb dX3_merge_91 (by decide) (by omega) (by omega) (fun c91 => ?_) (fun c91 => ?_)
      · refine lv_iinc (v := iI (((i + 1) : Nat) : Int)) (lv' := [(4, .int (iI (((i + 1) : Nat) : Int))), (0, .ref (b 0)), (1, .int (iI u)), (2, .int (iI v)), (3, .int (iI ((mmF w h u v i q0).1.2)))]) hx hb dX3_merge_254 hl (k := 4) rfl ((iI_add _ _).trans (congrArg iI (by omega))) (by decide) rfl (fun ls hl => ?_)
        refine lv_goto (tgt := 49) hx hb dX3_merge_257 (by decide) ?_
        have e2 : mmF w h u v (i + 1) q0 = (((mmF w h u v i q0).1.1, (mmF w h u v i q0).1.2), (mmF w h u v i q0).2) := by
          show mmS w h u v i (mmF w h u v i q0) = _
          unfold mmS stS
          (repeat' split) <;> first | rfl | (exfalso; omega) | (simp only [Int.add_zero]; done) | (simp only [Int.add_zero]; rfl)
        exact ih (i + 1) (by omega) _ _ _ (by rw [e2]; exact hP) (by rw [e2]; exact hD) hS (by rw [e2]; exact lv_sub hl [1, 2, 3, 4, 0] rfl)
      · refine lv_iload hx hb dX3_merge_94 (lv_at hl 4 rfl) ?_
        refine lv_bipush (v := iI 20) hx hb dX3_merge_96 (by decide) ?_
        refine z_div hx hb dX3_merge_98 (by omega) (by omega) ?_
        refine lv_aload_n hx hb dX3_merge_99 rfl (lv_at hl 0 rfl) ?_
        refine va_get (D := (dC, dI)) (ci := 3) (v := .int (iI (h : Int))) (C := RX3) (T := TX3) (N := 18) hx hb hts inX3 hown hK hP 0 rfl rfl 2 (by decide) (hts _ wm_405) (fun _ h9 => h9) rfl dX3_merge_100 ?_
        refine z_icmp_ge (tgt := 254) hx hb dX3_merge_103 (by decide) (by omega) (by omega) (fun c103 => ?_) (fun c103 => ?_)
        · refine lv_iinc (v := iI (((i + 1) : Nat) : Int)) (lv' := [(4, .int (iI (((i + 1) : Nat) : Int))), (0, .ref (b 0)), (1, .int (iI u)), (2, .int (iI v)), (3, .int (iI ((mmF w h u v i q0).1.2)))]) hx hb dX3_merge_254 hl (k := 4) rfl ((iI_add _ _).trans (congrArg iI (by omega))) (by decide) rfl (fun ls hl => ?_)
          refine lv_goto (tgt := 49) hx hb dX3_merge_257 (by decide) ?_
          have e2 : mmF w h u v (i + 1) q0 = (((mmF w h u v i q0).1.1, (mmF w h u v i q0).1.2), (mmF w h u v i q0).2) := by
            show mmS w h u v i (mmF w h u v i q0) = _
            unfold mmS stS
            (repeat' split) <;> first | rfl | (exfalso; omega) | (simp only [Int.add_zero]; done) | (simp only [Int.add_zero]; rfl)
          exact ih (i + 1) (by omega) _ _ _ (by rw [e2]; exact hP) (by rw [e2]; exact hD) hS (by rw [e2]; exact lv_sub hl [1, 2, 3, 4, 0] rfl)
        · skip
          refine lv_aload_n hx hb dX3_merge_106 rfl (lv_at hl 0 rfl) ?_
          refine va_get (D := (dC, dI)) (ci := 3) (v := .ref (b 1)) (C := RX3) (T := TX3) (N := 18) hx hb hts inX3 hown hK hP 0 rfl rfl 3 (by decide) (hts _ wm_406) (fun _ h9 => h9) rfl dX3_merge_107 ?_
          refine lv_iload hx hb dX3_merge_110 (lv_at hl 4 rfl) ?_
          refine z_iald (f := (mmF w h u v i q0).1.1) (i := ((i : Nat) : Int)) hx hb hK hP 1 0 rfl rfl (by omega) (by decide) dX3_merge_112 ?_
          refine z_top (b := (mmF w h u v i q0).1.1 i) (rfl) ?_
          refine lv_istore (lv' := [(5, .int (iI ((mmF w h u v i q0).1.1 i))), (0, .ref (b 0)), (1, .int (iI u)), (2, .int (iI v)), (3, .int (iI ((mmF w h u v i q0).1.2))), (4, .int (iI ((i : Nat) : Int)))]) hx hb dX3_merge_113 hl (by decide) rfl (fun ls hl => ?_)
          refine lv_iload hx hb dX3_merge_115 (lv_at hl 0 rfl) ?_
          refine lv_aload_n hx hb dX3_merge_117 rfl (lv_at hl 1 rfl) ?_
          refine va_get (D := (dC, dI)) (ci := 3) (v := .ref (b 3)) (C := RX3) (T := TX3) (N := 18) hx hb hts inX3 hown hK hP 0 rfl rfl 5 (by decide) (hts _ wm_408) (fun _ h9 => h9) rfl dX3_merge_118 ?_
          refine lv_iload hx hb dX3_merge_121 (lv_at hl 5 rfl) ?_
          refine z_iald (f := (mmF w h u v i q0).2) (i := ((i : Nat) : Int)) hx hb hK hP 3 2 rfl rfl (by omega) (by decide) dX3_merge_123 ?_
          refine z_top (b := (mmF w h u v i q0).2 i) (rfl) ?_
          refine z_add hx hb dX3_merge_124 ?_
          refine lv_iload_n hx hb dX3_merge_125 rfl (lv_at hl 3 rfl) ?_
          refine z_sub hx hb dX3_merge_126 ?_
          refine lv_istore (lv' := [(6, .int (iI ((((mmF w h u v i q0).1.1 i) + ((mmF w h u v i q0).2 i)) - v))), (5, .int (iI ((mmF w h u v i q0).1.1 i))), (0, .ref (b 0)), (1, .int (iI u)), (2, .int (iI v)), (3, .int (iI ((mmF w h u v i q0).1.2))), (4, .int (iI ((i : Nat) : Int)))]) hx hb dX3_merge_127 hl (by decide) rfl (fun ls hl => ?_)
          refine lv_iload_n hx hb dX3_merge_129 rfl (lv_at hl 3 rfl) ?_
          refine lv_iconst (v := iI 1) hx hb dX3_merge_130 rfl ?_
          refine z_joinH (D := (dC, dI)) (cl := vwCl) (A := A) (ws := mdW b cB w h cd ((mmF w h u v i q0).1.1) mn ((mmF w h u v i q0).2) ik so ks rs lf K) (g0 := F0 m 228 ls [.int (iI (moF u ((mmF w h u v i q0).1.1 i) ((mmF w h u v i q0).2 i) v))]) (fun H locs hP hD hS => ?_) (fun J228 => ?_)
          · have hmo := moF_rg (u := u) (v := v) (b := (mmF w h u v i q0).1.1 i) (d := (mmF w h u v i q0).2 i) (by omega) (by omega)
            refine lv_istore (lv' := [(7, .int (iI (moF u ((mmF w h u v i q0).1.1 i) ((mmF w h u v i q0).2 i) v))), (6, .int (iI ((((mmF w h u v i q0).1.1 i) + ((mmF w h u v i q0).2 i)) - v))), (5, .int (iI ((mmF w h u v i q0).1.1 i))), (0, .ref (b 0)), (1, .int (iI u)), (2, .int (iI v)), (3, .int (iI ((mmF w h u v i q0).1.2))), (4, .int (iI ((i : Nat) : Int)))]) hx hb dX3_merge_228 hl (by decide) rfl (fun ls hl => ?_)
            refine lv_iload hx hb dX3_merge_230 (lv_at hl 0 rfl) ?_
            refine lv_iload hx hb dX3_merge_232 (lv_at hl 2 rfl) ?_
            refine z_icmp_eq (tgt := 243) hx hb dX3_merge_234 (by decide) (by omega) (by omega) (fun c234 => ?_) (fun c234 => ?_)
            · refine lv_iload_n hx hb dX3_merge_243 rfl (lv_at hl 6 rfl) ?_
              refine lv_istore_n (lv' := [(3, .int (iI ((mmF w h u v i q0).1.2))), (7, .int (iI (moF u ((mmF w h u v i q0).1.1 i) ((mmF w h u v i q0).2 i) v))), (6, .int (iI ((((mmF w h u v i q0).1.1 i) + ((mmF w h u v i q0).2 i)) - v))), (5, .int (iI ((mmF w h u v i q0).1.1 i))), (0, .ref (b 0)), (1, .int (iI u)), (2, .int (iI v)), (4, .int (iI ((i : Nat) : Int)))]) hx hb dX3_merge_244 rfl hl (by decide) rfl (fun ls hl => ?_)
              refine lv_aload_n hx hb dX3_merge_245 rfl (lv_at hl 4 rfl) ?_
              refine va_get (D := (dC, dI)) (ci := 3) (v := .ref (b 1)) (C := RX3) (T := TX3) (N := 18) hx hb hts inX3 hown hK hP 0 rfl rfl 3 (by decide) (hts _ wm_406) (fun _ h9 => h9) rfl dX3_merge_246 ?_
              refine lv_iload hx hb dX3_merge_249 (lv_at hl 7 rfl) ?_
              refine lv_iload hx hb dX3_merge_251 (lv_at hl 1 rfl) ?_
              refine z_iast (f := (mmF w h u v i q0).1.1) (i := ((i : Nat) : Int)) (x := moF u ((mmF w h u v i q0).1.1 i) ((mmF w h u v i q0).2 i) v) hx hb hK hP hD hS 1 0 rfl rfl (by omega) (by decide) dX3_merge_253 (fun H locs hP hD hS => ?_)
              have hP : va_P (dC, dI) vwCl (mdW b cB w h cd (uI ((mmF w h u v i q0).1.1) (((i : Nat) : Int)).toNat (moF u ((mmF w h u v i q0).1.1 i) ((mmF w h u v i q0).2 i) v)) mn ((mmF w h u v i q0).2) ik so ks rs lf K) H := hP
              have hD : va_D A (mdW b cB w h cd (uI ((mmF w h u v i q0).1.1) (((i : Nat) : Int)).toNat (moF u ((mmF w h u v i q0).1.1 i) ((mmF w h u v i q0).2 i) v)) mn ((mmF w h u v i q0).2) ik so ks rs lf K) := hD
              refine lv_iinc (v := iI (((i + 1) : Nat) : Int)) (lv' := [(4, .int (iI (((i + 1) : Nat) : Int))), (3, .int (iI ((mmF w h u v i q0).1.2))), (7, .int (iI (moF u ((mmF w h u v i q0).1.1 i) ((mmF w h u v i q0).2 i) v))), (6, .int (iI ((((mmF w h u v i q0).1.1 i) + ((mmF w h u v i q0).2 i)) - v))), (5, .int (iI ((mmF w h u v i q0).1.1 i))), (0, .ref (b 0)), (1, .int (iI u)), (2, .int (iI v))]) hx hb dX3_merge_254 hl (k := 7) rfl ((iI_add _ _).trans (congrArg iI (by omega))) (by decide) rfl (fun ls hl => ?_)
              refine lv_goto (tgt := 49) hx hb dX3_merge_257 (by decide) ?_
              have e2 : mmF w h u v (i + 1) q0 = ((uI ((mmF w h u v i q0).1.1) (((i : Nat) : Int)).toNat (moF u ((mmF w h u v i q0).1.1 i) ((mmF w h u v i q0).2 i) v), (mmF w h u v i q0).1.2), (mmF w h u v i q0).2) := by
                show mmS w h u v i (mmF w h u v i q0) = _
                unfold mmS stS
                (repeat' split) <;> first | rfl | (exfalso; omega) | (simp only [Int.add_zero]; done) | (simp only [Int.add_zero]; rfl)
              exact ih (i + 1) (by omega) _ _ _ (by rw [e2]; exact hP) (by rw [e2]; exact hD) hS (by rw [e2]; exact lv_sub hl [5, 6, 7, 1, 0] rfl)
            · refine lv_iload_n hx hb dX3_merge_237 rfl (lv_at hl 6 rfl) ?_
              refine lv_iconst (v := iI 1) hx hb dX3_merge_238 rfl ?_
              refine z_add hx hb dX3_merge_239 ?_
              refine lv_goto (tgt := 244) hx hb dX3_merge_240 (by decide) ?_
              refine lv_istore_n (lv' := [(3, .int (iI (((mmF w h u v i q0).1.2) + 1))), (7, .int (iI (moF u ((mmF w h u v i q0).1.1 i) ((mmF w h u v i q0).2 i) v))), (6, .int (iI ((((mmF w h u v i q0).1.1 i) + ((mmF w h u v i q0).2 i)) - v))), (5, .int (iI ((mmF w h u v i q0).1.1 i))), (0, .ref (b 0)), (1, .int (iI u)), (2, .int (iI v)), (4, .int (iI ((i : Nat) : Int)))]) hx hb dX3_merge_244 rfl hl (by decide) rfl (fun ls hl => ?_)
              refine lv_aload_n hx hb dX3_merge_245 rfl (lv_at hl 4 rfl) ?_
              refine va_get (D := (dC, dI)) (ci := 3) (v := .ref (b 1)) (C := RX3) (T := TX3) (N := 18) hx hb hts inX3 hown hK hP 0 rfl rfl 3 (by decide) (hts _ wm_406) (fun _ h9 => h9) rfl dX3_merge_246 ?_
              refine lv_iload hx hb dX3_merge_249 (lv_at hl 7 rfl) ?_
              refine lv_iload hx hb dX3_merge_251 (lv_at hl 1 rfl) ?_
              refine z_iast (f := (mmF w h u v i q0).1.1) (i := ((i : Nat) : Int)) (x := moF u ((mmF w h u v i q0).1.1 i) ((mmF w h u v i q0).2 i) v) hx hb hK hP hD hS 1 0 rfl rfl (by omega) (by decide) dX3_merge_253 (fun H locs hP hD hS => ?_)
              have hP : va_P (dC, dI) vwCl (mdW b cB w h cd (uI ((mmF w h u v i q0).1.1) (((i : Nat) : Int)).toNat (moF u ((mmF w h u v i q0).1.1 i) ((mmF w h u v i q0).2 i) v)) mn ((mmF w h u v i q0).2) ik so ks rs lf K) H := hP
              have hD : va_D A (mdW b cB w h cd (uI ((mmF w h u v i q0).1.1) (((i : Nat) : Int)).toNat (moF u ((mmF w h u v i q0).1.1 i) ((mmF w h u v i q0).2 i) v)) mn ((mmF w h u v i q0).2) ik so ks rs lf K) := hD
              refine lv_iinc (v := iI (((i + 1) : Nat) : Int)) (lv' := [(4, .int (iI (((i + 1) : Nat) : Int))), (3, .int (iI (((mmF w h u v i q0).1.2) + 1))), (7, .int (iI (moF u ((mmF w h u v i q0).1.1 i) ((mmF w h u v i q0).2 i) v))), (6, .int (iI ((((mmF w h u v i q0).1.1 i) + ((mmF w h u v i q0).2 i)) - v))), (5, .int (iI ((mmF w h u v i q0).1.1 i))), (0, .ref (b 0)), (1, .int (iI u)), (2, .int (iI v))]) hx hb dX3_merge_254 hl (k := 7) rfl ((iI_add _ _).trans (congrArg iI (by omega))) (by decide) rfl (fun ls hl => ?_)
              refine lv_goto (tgt := 49) hx hb dX3_merge_257 (by decide) ?_
              have e2 : mmF w h u v (i + 1) q0 = ((uI ((mmF w h u v i q0).1.1) (((i : Nat) : Int)).toNat (moF u ((mmF w h u v i q0).1.1 i) ((mmF w h u v i q0).2 i) v), ((mmF w h u v i q0).1.2) + 1), (mmF w h u v i q0).2) := by
                show mmS w h u v i (mmF w h u v i q0) = _
                unfold mmS stS
                (repeat' split) <;> first | rfl | (exfalso; omega) | (simp only [Int.add_zero]; done) | (simp only [Int.add_zero]; rfl)
              exact ih (i + 1) (by omega) _ _ _ (by rw [e2]; exact hP) (by rw [e2]; exact hD) hS (by rw [e2]; exact lv_sub hl [5, 6, 7, 1, 0] rfl)
          · refine z_icmp_ne (tgt := 161) hx hb dX3_merge_131 (by decide) (by omega) (by omega) (fun c131 => ?_) (fun c131 => ?_)
            · refine lv_iload_n hx hb dX3_merge_161 rfl (lv_at hl 3 rfl) ?_
              refine lv_iconst (v := iI 2) hx hb dX3_merge_162 rfl ?_
              refine z_icmp_ne (tgt := 193) hx hb dX3_merge_163 (by decide) (by omega) (by omega) (fun c163 => ?_) (fun c163 => ?_)
              · refine lv_iload_n hx hb dX3_merge_193 rfl (lv_at hl 3 rfl) ?_
                refine lv_iconst (v := iI 3) hx hb dX3_merge_194 rfl ?_
                refine z_icmp_ne (tgt := 226) hx hb dX3_merge_195 (by decide) (by omega) (by omega) (fun c195 => ?_) (fun c195 => ?_)
                · refine lv_iload hx hb dX3_merge_226 (lv_at hl 1 rfl) ?_
                  have hmo := moF_rg (u := u) (v := v) (b := (mmF w h u v i q0).1.1 i) (d := (mmF w h u v i q0).2 i) (by omega) (by omega)
                  exact z_top (b := moF u ((mmF w h u v i q0).1.1 i) ((mmF w h u v i q0).2 i) v) (by unfold moF; (repeat' split) <;> omega) (J228 _ _ hP hD hS)
                · refine lv_iload hx hb dX3_merge_198 (lv_at hl 0 rfl) ?_
                  refine z_if_ge (tgt := 207) hx hb dX3_merge_200 (by decide) (by omega) (fun c200 => ?_) (fun c200 => ?_)
                  · refine lv_iload hx hb dX3_merge_207 (lv_at hl 0 rfl) ?_
                    refine lv_sipush (v := iI 1000) hx hb dX3_merge_209 (by decide) ?_
                    refine z_icmp_le (tgt := 221) hx hb dX3_merge_212 (by decide) (by omega) (by omega) (fun c212 => ?_) (fun c212 => ?_)
                    · refine lv_iload hx hb dX3_merge_221 (lv_at hl 0 rfl) ?_
                      refine lv_goto (tgt := 228) hx hb dX3_merge_223 (by decide) ?_
                      have hmo := moF_rg (u := u) (v := v) (b := (mmF w h u v i q0).1.1 i) (d := (mmF w h u v i q0).2 i) (by omega) (by omega)
                      exact z_top (b := moF u ((mmF w h u v i q0).1.1 i) ((mmF w h u v i q0).2 i) v) (by unfold moF; (repeat' split) <;> omega) (J228 _ _ hP hD hS)
                    · refine lv_sipush (v := iI 1000) hx hb dX3_merge_215 (by decide) ?_
                      refine lv_goto (tgt := 228) hx hb dX3_merge_218 (by decide) ?_
                      have hmo := moF_rg (u := u) (v := v) (b := (mmF w h u v i q0).1.1 i) (d := (mmF w h u v i q0).2 i) (by omega) (by omega)
                      exact z_top (b := moF u ((mmF w h u v i q0).1.1 i) ((mmF w h u v i q0).2 i) v) (by unfold moF; (repeat' split) <;> omega) (J228 _ _ hP hD hS)
                  · refine lv_iconst (v := iI 0) hx hb dX3_merge_203 rfl ?_
                    refine lv_goto (tgt := 228) hx hb dX3_merge_204 (by decide) ?_
                    have hmo := moF_rg (u := u) (v := v) (b := (mmF w h u v i q0).1.1 i) (d := (mmF w h u v i q0).2 i) (by omega) (by omega)
                    exact z_top (b := moF u ((mmF w h u v i q0).1.1 i) ((mmF w h u v i q0).2 i) v) (by unfold moF; (repeat' split) <;> omega) (J228 _ _ hP hD hS)
              · refine lv_aload_n hx hb dX3_merge_166 rfl (lv_at hl 2 rfl) ?_
                refine va_get (D := (dC, dI)) (ci := 3) (v := .ref (b 3)) (C := RX3) (T := TX3) (N := 18) hx hb hts inX3 hown hK hP 0 rfl rfl 5 (by decide) (hts _ wm_408) (fun _ h9 => h9) rfl dX3_merge_167 ?_
                refine lv_iload hx hb dX3_merge_170 (lv_at hl 6 rfl) ?_
                refine z_iald (f := (mmF w h u v i q0).2) (i := ((i : Nat) : Int)) hx hb hK hP 3 2 rfl rfl (by omega) (by decide) dX3_merge_172 ?_
                refine z_top (b := (mmF w h u v i q0).2 i) (rfl) ?_
                refine lv_iload hx hb dX3_merge_173 (lv_at hl 1 rfl) ?_
                refine z_icmp_ge (tgt := 188) hx hb dX3_merge_175 (by decide) (by omega) (by omega) (fun c175 => ?_) (fun c175 => ?_)
                · refine lv_iload hx hb dX3_merge_188 (lv_at hl 1 rfl) ?_
                  refine lv_goto (tgt := 228) hx hb dX3_merge_190 (by decide) ?_
                  have hmo := moF_rg (u := u) (v := v) (b := (mmF w h u v i q0).1.1 i) (d := (mmF w h u v i q0).2 i) (by omega) (by omega)
                  exact z_top (b := moF u ((mmF w h u v i q0).1.1 i) ((mmF w h u v i q0).2 i) v) (by unfold moF; (repeat' split) <;> omega) (J228 _ _ hP hD hS)
                · refine lv_aload_n hx hb dX3_merge_178 rfl (lv_at hl 2 rfl) ?_
                  refine va_get (D := (dC, dI)) (ci := 3) (v := .ref (b 3)) (C := RX3) (T := TX3) (N := 18) hx hb hts inX3 hown hK hP 0 rfl rfl 5 (by decide) (hts _ wm_408) (fun _ h9 => h9) rfl dX3_merge_179 ?_
                  refine lv_iload hx hb dX3_merge_182 (lv_at hl 6 rfl) ?_
                  refine z_iald (f := (mmF w h u v i q0).2) (i := ((i : Nat) : Int)) hx hb hK hP 3 2 rfl rfl (by omega) (by decide) dX3_merge_184 ?_
                  refine z_top (b := (mmF w h u v i q0).2 i) (rfl) ?_
                  refine lv_goto (tgt := 228) hx hb dX3_merge_185 (by decide) ?_
                  have hmo := moF_rg (u := u) (v := v) (b := (mmF w h u v i q0).1.1 i) (d := (mmF w h u v i q0).2 i) (by omega) (by omega)
                  exact z_top (b := moF u ((mmF w h u v i q0).1.1 i) ((mmF w h u v i q0).2 i) v) (by unfold moF; (repeat' split) <;> omega) (J228 _ _ hP hD hS)
            · refine lv_aload_n hx hb dX3_merge_134 rfl (lv_at hl 2 rfl) ?_
              refine va_get (D := (dC, dI)) (ci := 3) (v := .ref (b 3)) (C := RX3) (T := TX3) (N := 18) hx hb hts inX3 hown hK hP 0 rfl rfl 5 (by decide) (hts _ wm_408) (fun _ h9 => h9) rfl dX3_merge_135 ?_
              refine lv_iload hx hb dX3_merge_138 (lv_at hl 6 rfl) ?_
              refine z_iald (f := (mmF w h u v i q0).2) (i := ((i : Nat) : Int)) hx hb hK hP 3 2 rfl rfl (by omega) (by decide) dX3_merge_140 ?_
              refine z_top (b := (mmF w h u v i q0).2 i) (rfl) ?_
              refine lv_iload hx hb dX3_merge_141 (lv_at hl 1 rfl) ?_
              refine z_icmp_le (tgt := 156) hx hb dX3_merge_143 (by decide) (by omega) (by omega) (fun c143 => ?_) (fun c143 => ?_)
              · refine lv_iload hx hb dX3_merge_156 (lv_at hl 1 rfl) ?_
                refine lv_goto (tgt := 228) hx hb dX3_merge_158 (by decide) ?_
                have hmo := moF_rg (u := u) (v := v) (b := (mmF w h u v i q0).1.1 i) (d := (mmF w h u v i q0).2 i) (by omega) (by omega)
                exact z_top (b := moF u ((mmF w h u v i q0).1.1 i) ((mmF w h u v i q0).2 i) v) (by unfold moF; (repeat' split) <;> omega) (J228 _ _ hP hD hS)
              · refine lv_aload_n hx hb dX3_merge_146 rfl (lv_at hl 2 rfl) ?_
                refine va_get (D := (dC, dI)) (ci := 3) (v := .ref (b 3)) (C := RX3) (T := TX3) (N := 18) hx hb hts inX3 hown hK hP 0 rfl rfl 5 (by decide) (hts _ wm_408) (fun _ h9 => h9) rfl dX3_merge_147 ?_
                refine lv_iload hx hb dX3_merge_150 (lv_at hl 6 rfl) ?_
                refine z_iald (f := (mmF w h u v i q0).2) (i := ((i : Nat) : Int)) hx hb hK hP 3 2 rfl rfl (by omega) (by decide) dX3_merge_152 ?_
                refine z_top (b := (mmF w h u v i q0).2 i) (rfl) ?_
                refine lv_goto (tgt := 228) hx hb dX3_merge_153 (by decide) ?_
                have hmo := moF_rg (u := u) (v := v) (b := (mmF w h u v i q0).1.1 i) (d := (mmF w h u v i q0).2 i) (by omega) (by omega)
                exact z_top (b := moF u ((mmF w h u v i q0).1.1 i) ((mmF w h u v i q0).2 i) v) (by unfold moF; (repeat' split) <;> omega) (J228 _ _ hP hD hS)
    · refine lv_aload_n hx hb dX3_merge_68 rfl (lv_at hl 0 rfl) ?_
      refine va_get (D := (dC, dI)) (ci := 3) (v := .ref (b 3)) (C := RX3) (T := TX3) (N := 18) hx hb hts inX3 hown hK hP 0 rfl rfl 5 (by decide) (hts _ wm_408) (fun _ h9 => h9) rfl dX3_merge_69 ?_
      refine lv_iload hx hb dX3_merge_72 (lv_at hl 4 rfl) ?_
      refine lv_aload_n hx hb dX3_merge_74 rfl (lv_at hl 0 rfl) ?_
      refine va_get (D := (dC, dI)) (ci := 3) (v := .ref (b 1)) (C := RX3) (T := TX3) (N := 18) hx hb hts inX3 hown hK hP 0 rfl rfl 3 (by decide) (hts _ wm_406) (fun _ h9 => h9) rfl dX3_merge_75 ?_
      refine lv_iload hx hb dX3_merge_78 (lv_at hl 4 rfl) ?_
      refine z_iald (f := (mmF w h u v i q0).1.1) (i := ((i : Nat) : Int)) hx hb hK hP 1 0 rfl rfl (by omega) (by decide) dX3_merge_80 ?_
      refine z_top (b := (mmF w h u v i q0).1.1 i) (rfl) ?_
      refine z_iast (f := (mmF w h u v i q0).2) (i := ((i : Nat) : Int)) (x := (mmF w h u v i q0).1.1 i) hx hb hK hP hD hS 3 2 rfl rfl (by omega) (by decide) dX3_merge_81 (fun H locs hP hD hS => ?_)
      have hP : va_P (dC, dI) vwCl (mdW b cB w h cd ((mmF w h u v i q0).1.1) mn (uI ((mmF w h u v i q0).2) (((i : Nat) : Int)).toNat ((mmF w h u v i q0).1.1 i)) ik so ks rs lf K) H := hP
      have hD : va_D A (mdW b cB w h cd ((mmF w h u v i q0).1.1) mn (uI ((mmF w h u v i q0).2) (((i : Nat) : Int)).toNat ((mmF w h u v i q0).1.1 i)) ik so ks rs lf K) := hD
      refine lv_iload hx hb dX3_merge_82 (lv_at hl 4 rfl) ?_
      refine lv_bipush (v := iI 20) hx hb dX3_merge_84 (by decide) ?_
      refine z_rem hx hb dX3_merge_86 (by omega) (by omega) ?_
      refine lv_aload_n hx hb dX3_merge_87 rfl (lv_at hl 0 rfl) ?_
      refine va_get (D := (dC, dI)) (ci := 3) (v := .int (iI (w : Int))) (C := RX3) (T := TX3) (N := 18) hx hb hts inX3 hown hK hP 0 rfl rfl 1 (by decide) (hts _ wm_404) (fun _ h9 => h9) rfl dX3_merge_88 ?_
      refine z_icmp_ge (tgt := 254) hx hb dX3_merge_91 (by decide) (by omega) (by omega) (fun c91 => ?_) (fun c91 => ?_)
      · refine lv_iinc (v := iI (((i + 1) : Nat) : Int)) (lv' := [(4, .int (iI (((i + 1) : Nat) : Int))), (0, .ref (b 0)), (1, .int (iI u)), (2, .int (iI v)), (3, .int (iI ((mmF w h u v i q0).1.2)))]) hx hb dX3_merge_254 hl (k := 4) rfl ((iI_add _ _).trans (congrArg iI (by omega))) (by decide) rfl (fun ls hl => ?_)
        refine lv_goto (tgt := 49) hx hb dX3_merge_257 (by decide) ?_
        have e2 : mmF w h u v (i + 1) q0 = (((mmF w h u v i q0).1.1, (mmF w h u v i q0).1.2), uI ((mmF w h u v i q0).2) (((i : Nat) : Int)).toNat ((mmF w h u v i q0).1.1 i)) := by
          show mmS w h u v i (mmF w h u v i q0) = _
          unfold mmS stS
          (repeat' split) <;> first | rfl | (exfalso; omega) | (simp only [Int.add_zero]; done) | (simp only [Int.add_zero]; rfl)
        exact ih (i + 1) (by omega) _ _ _ (by rw [e2]; exact hP) (by rw [e2]; exact hD) hS (by rw [e2]; exact lv_sub hl [1, 2, 3, 4, 0] rfl)
      · refine lv_iload hx hb dX3_merge_94 (lv_at hl 4 rfl) ?_
        refine lv_bipush (v := iI 20) hx hb dX3_merge_96 (by decide) ?_
        refine z_div hx hb dX3_merge_98 (by omega) (by omega) ?_
        refine lv_aload_n hx hb dX3_merge_99 rfl (lv_at hl 0 rfl) ?_
        refine va_get (D := (dC, dI)) (ci := 3) (v := .int (iI (h : Int))) (C := RX3) (T := TX3) (N := 18) hx hb hts inX3 hown hK hP 0 rfl rfl 2 (by decide) (hts _ wm_405) (fun _ h9 => h9) rfl dX3_merge_100 ?_
        refine z_icmp_ge (tgt := 254) hx hb dX3_merge_103 (by decide) (by omega) (by omega) (fun c103 => ?_) (fun c103 => ?_)
        · refine lv_iinc (v := iI (((i + 1) : Nat) : Int)) (lv' := [(4, .int (iI (((i + 1) : Nat) : Int))), (0, .ref (b 0)), (1, .int (iI u)), (2, .int (iI v)), (3, .int (iI ((mmF w h u v i q0).1.2)))]) hx hb dX3_merge_254 hl (k := 4) rfl ((iI_add _ _).trans (congrArg iI (by omega))) (by decide) rfl (fun ls hl => ?_)
          refine lv_goto (tgt := 49) hx hb dX3_merge_257 (by decide) ?_
          have e2 : mmF w h u v (i + 1) q0 = (((mmF w h u v i q0).1.1, (mmF w h u v i q0).1.2), uI ((mmF w h u v i q0).2) (((i : Nat) : Int)).toNat ((mmF w h u v i q0).1.1 i)) := by
            show mmS w h u v i (mmF w h u v i q0) = _
            unfold mmS stS
            (repeat' split) <;> first | rfl | (exfalso; omega) | (simp only [Int.add_zero]; done) | (simp only [Int.add_zero]; rfl)
          exact ih (i + 1) (by omega) _ _ _ (by rw [e2]; exact hP) (by rw [e2]; exact hD) hS (by rw [e2]; exact lv_sub hl [1, 2, 3, 4, 0] rfl)
        · have hk3 : uI (mmF w h u v i q0).2 i ((mmF w h u v i q0).1.1 i) i = (mmF w h u v i q0).1.1 i := uI_s
          refine lv_aload_n hx hb dX3_merge_106 rfl (lv_at hl 0 rfl) ?_
          refine va_get (D := (dC, dI)) (ci := 3) (v := .ref (b 1)) (C := RX3) (T := TX3) (N := 18) hx hb hts inX3 hown hK hP 0 rfl rfl 3 (by decide) (hts _ wm_406) (fun _ h9 => h9) rfl dX3_merge_107 ?_
          refine lv_iload hx hb dX3_merge_110 (lv_at hl 4 rfl) ?_
          refine z_iald (f := (mmF w h u v i q0).1.1) (i := ((i : Nat) : Int)) hx hb hK hP 1 0 rfl rfl (by omega) (by decide) dX3_merge_112 ?_
          refine z_top (b := (mmF w h u v i q0).1.1 i) (rfl) ?_
          refine lv_istore (lv' := [(5, .int (iI ((mmF w h u v i q0).1.1 i))), (0, .ref (b 0)), (1, .int (iI u)), (2, .int (iI v)), (3, .int (iI ((mmF w h u v i q0).1.2))), (4, .int (iI ((i : Nat) : Int)))]) hx hb dX3_merge_113 hl (by decide) rfl (fun ls hl => ?_)
          refine lv_iload hx hb dX3_merge_115 (lv_at hl 0 rfl) ?_
          refine lv_aload_n hx hb dX3_merge_117 rfl (lv_at hl 1 rfl) ?_
          refine va_get (D := (dC, dI)) (ci := 3) (v := .ref (b 3)) (C := RX3) (T := TX3) (N := 18) hx hb hts inX3 hown hK hP 0 rfl rfl 5 (by decide) (hts _ wm_408) (fun _ h9 => h9) rfl dX3_merge_118 ?_
          refine lv_iload hx hb dX3_merge_121 (lv_at hl 5 rfl) ?_
          refine z_iald (f := uI ((mmF w h u v i q0).2) (((i : Nat) : Int)).toNat ((mmF w h u v i q0).1.1 i)) (i := ((i : Nat) : Int)) hx hb hK hP 3 2 rfl rfl (by omega) (by decide) dX3_merge_123 ?_
          refine z_top (b := uI (mmF w h u v i q0).2 i ((mmF w h u v i q0).1.1 i) i) (rfl) ?_
          refine z_add hx hb dX3_merge_124 ?_
          refine lv_iload_n hx hb dX3_merge_125 rfl (lv_at hl 3 rfl) ?_
          refine z_sub hx hb dX3_merge_126 ?_
          refine lv_istore (lv' := [(6, .int (iI ((((mmF w h u v i q0).1.1 i) + (uI (mmF w h u v i q0).2 i ((mmF w h u v i q0).1.1 i) i)) - v))), (5, .int (iI ((mmF w h u v i q0).1.1 i))), (0, .ref (b 0)), (1, .int (iI u)), (2, .int (iI v)), (3, .int (iI ((mmF w h u v i q0).1.2))), (4, .int (iI ((i : Nat) : Int)))]) hx hb dX3_merge_127 hl (by decide) rfl (fun ls hl => ?_)
          refine lv_iload_n hx hb dX3_merge_129 rfl (lv_at hl 3 rfl) ?_
          refine lv_iconst (v := iI 1) hx hb dX3_merge_130 rfl ?_
          refine z_joinH (D := (dC, dI)) (cl := vwCl) (A := A) (ws := mdW b cB w h cd ((mmF w h u v i q0).1.1) mn (uI ((mmF w h u v i q0).2) (((i : Nat) : Int)).toNat ((mmF w h u v i q0).1.1 i)) ik so ks rs lf K) (g0 := F0 m 228 ls [.int (iI (moF u ((mmF w h u v i q0).1.1 i) (uI (mmF w h u v i q0).2 i ((mmF w h u v i q0).1.1 i) i) v))]) (fun H locs hP hD hS => ?_) (fun J228 => ?_)
          · have hmo := moF_rg (u := u) (v := v) (b := (mmF w h u v i q0).1.1 i) (d := uI (mmF w h u v i q0).2 i ((mmF w h u v i q0).1.1 i) i) (by omega) (by omega)
            refine lv_istore (lv' := [(7, .int (iI (moF u ((mmF w h u v i q0).1.1 i) (uI (mmF w h u v i q0).2 i ((mmF w h u v i q0).1.1 i) i) v))), (6, .int (iI ((((mmF w h u v i q0).1.1 i) + (uI (mmF w h u v i q0).2 i ((mmF w h u v i q0).1.1 i) i)) - v))), (5, .int (iI ((mmF w h u v i q0).1.1 i))), (0, .ref (b 0)), (1, .int (iI u)), (2, .int (iI v)), (3, .int (iI ((mmF w h u v i q0).1.2))), (4, .int (iI ((i : Nat) : Int)))]) hx hb dX3_merge_228 hl (by decide) rfl (fun ls hl => ?_)
            refine lv_iload hx hb dX3_merge_230 (lv_at hl 0 rfl) ?_
            refine lv_iload hx hb dX3_merge_232 (lv_at hl 2 rfl) ?_
            refine z_icmp_eq (tgt := 243) hx hb dX3_merge_234 (by decide) (by omega) (by omega) (fun c234 => ?_) (fun c234 => ?_)
            · refine lv_iload_n hx hb dX3_merge_243 rfl (lv_at hl 6 rfl) ?_
              refine lv_istore_n (lv' := [(3, .int (iI ((mmF w h u v i q0).1.2))), (7, .int (iI (moF u ((mmF w h u v i q0).1.1 i) (uI (mmF w h u v i q0).2 i ((mmF w h u v i q0).1.1 i) i) v))), (6, .int (iI ((((mmF w h u v i q0).1.1 i) + (uI (mmF w h u v i q0).2 i ((mmF w h u v i q0).1.1 i) i)) - v))), (5, .int (iI ((mmF w h u v i q0).1.1 i))), (0, .ref (b 0)), (1, .int (iI u)), (2, .int (iI v)), (4, .int (iI ((i : Nat) : Int)))]) hx hb dX3_merge_244 rfl hl (by decide) rfl (fun ls hl => ?_)
              refine lv_aload_n hx hb dX3_merge_245 rfl (lv_at hl 4 rfl) ?_
              refine va_get (D := (dC, dI)) (ci := 3) (v := .ref (b 1)) (C := RX3) (T := TX3) (N := 18) hx hb hts inX3 hown hK hP 0 rfl rfl 3 (by decide) (hts _ wm_406) (fun _ h9 => h9) rfl dX3_merge_246 ?_
              refine lv_iload hx hb dX3_merge_249 (lv_at hl 7 rfl) ?_
              refine lv_iload hx hb dX3_merge_251 (lv_at hl 1 rfl) ?_
              refine z_iast (f := (mmF w h u v i q0).1.1) (i := ((i : Nat) : Int)) (x := moF u ((mmF w h u v i q0).1.1 i) (uI (mmF w h u v i q0).2 i ((mmF w h u v i q0).1.1 i) i) v) hx hb hK hP hD hS 1 0 rfl rfl (by omega) (by decide) dX3_merge_253 (fun H locs hP hD hS => ?_)
              have hP : va_P (dC, dI) vwCl (mdW b cB w h cd (uI ((mmF w h u v i q0).1.1) (((i : Nat) : Int)).toNat (moF u ((mmF w h u v i q0).1.1 i) (uI (mmF w h u v i q0).2 i ((mmF w h u v i q0).1.1 i) i) v)) mn (uI ((mmF w h u v i q0).2) (((i : Nat) : Int)).toNat ((mmF w h u v i q0).1.1 i)) ik so ks rs lf K) H := hP
              have hD : va_D A (mdW b cB w h cd (uI ((mmF w h u v i q0).1.1) (((i : Nat) : Int)).toNat (moF u ((mmF w h u v i q0).1.1 i) (uI (mmF w h u v i q0).2 i ((mmF w h u v i q0).1.1 i) i) v)) mn (uI ((mmF w h u v i q0).2) (((i : Nat) : Int)).toNat ((mmF w h u v i q0).1.1 i)) ik so ks rs lf K) := hD
              refine lv_iinc (v := iI (((i + 1) : Nat) : Int)) (lv' := [(4, .int (iI (((i + 1) : Nat) : Int))), (3, .int (iI ((mmF w h u v i q0).1.2))), (7, .int (iI (moF u ((mmF w h u v i q0).1.1 i) (uI (mmF w h u v i q0).2 i ((mmF w h u v i q0).1.1 i) i) v))), (6, .int (iI ((((mmF w h u v i q0).1.1 i) + (uI (mmF w h u v i q0).2 i ((mmF w h u v i q0).1.1 i) i)) - v))), (5, .int (iI ((mmF w h u v i q0).1.1 i))), (0, .ref (b 0)), (1, .int (iI u)), (2, .int (iI v))]) hx hb dX3_merge_254 hl (k := 7) rfl ((iI_add _ _).trans (congrArg iI (by omega))) (by decide) rfl (fun ls hl => ?_)
              refine lv_goto (tgt := 49) hx hb dX3_merge_257 (by decide) ?_
              have e2 : mmF w h u v (i + 1) q0 = ((uI ((mmF w h u v i q0).1.1) (((i : Nat) : Int)).toNat (moF u ((mmF w h u v i q0).1.1 i) (uI (mmF w h u v i q0).2 i ((mmF w h u v i q0).1.1 i) i) v), (mmF w h u v i q0).1.2), uI ((mmF w h u v i q0).2) (((i : Nat) : Int)).toNat ((mmF w h u v i q0).1.1 i)) := by
                show mmS w h u v i (mmF w h u v i q0) = _
                unfold mmS stS
                (repeat' split) <;> first | rfl | (exfalso; omega) | (simp only [Int.add_zero]; done) | (simp only [Int.add_zero]; rfl)
              exact ih (i + 1) (by omega) _ _ _ (by rw [e2]; exact hP) (by rw [e2]; exact hD) hS (by rw [e2]; exact lv_sub hl [5, 6, 7, 1, 0] rfl)
            · refine lv_iload_n hx hb dX3_merge_237 rfl (lv_at hl 6 rfl) ?_
              refine lv_iconst (v := iI 1) hx hb dX3_merge_238 rfl ?_
              refine z_add hx hb dX3_merge_239 ?_
              refine lv_goto (tgt := 244) hx hb dX3_merge_240 (by decide) ?_
              refine lv_istore_n (lv' := [(3, .int (iI (((mmF w h u v i q0).1.2) + 1))), (7, .int (iI (moF u ((mmF w h u v i q0).1.1 i) (uI (mmF w h u v i q0).2 i ((mmF w h u v i q0).1.1 i) i) v))), (6, .int (iI ((((mmF w h u v i q0).1.1 i) + (uI (mmF w h u v i q0).2 i ((mmF w h u v i q0).1.1 i) i)) - v))), (5, .int (iI ((mmF w h u v i q0).1.1 i))), (0, .ref (b 0)), (1, .int (iI u)), (2, .int (iI v)), (4, .int (iI ((i : Nat) : Int)))]) hx hb dX3_merge_244 rfl hl (by decide) rfl (fun ls hl => ?_)
              refine lv_aload_n hx hb dX3_merge_245 rfl (lv_at hl 4 rfl) ?_
              refine va_get (D := (dC, dI)) (ci := 3) (v := .ref (b 1)) (C := RX3) (T := TX3) (N := 18) hx hb hts inX3 hown hK hP 0 rfl rfl 3 (by decide) (hts _ wm_406) (fun _ h9 => h9) rfl dX3_merge_246 ?_
              refine lv_iload hx hb dX3_merge_249 (lv_at hl 7 rfl) ?_
              refine lv_iload hx hb dX3_merge_251 (lv_at hl 1 rfl) ?_
              refine z_iast (f := (mmF w h u v i q0).1.1) (i := ((i : Nat) : Int)) (x := moF u ((mmF w h u v i q0).1.1 i) (uI (mmF w h u v i q0).2 i ((mmF w h u v i q0).1.1 i) i) v) hx hb hK hP hD hS 1 0 rfl rfl (by omega) (by decide) dX3_merge_253 (fun H locs hP hD hS => ?_)
              have hP : va_P (dC, dI) vwCl (mdW b cB w h cd (uI ((mmF w h u v i q0).1.1) (((i : Nat) : Int)).toNat (moF u ((mmF w h u v i q0).1.1 i) (uI (mmF w h u v i q0).2 i ((mmF w h u v i q0).1.1 i) i) v)) mn (uI ((mmF w h u v i q0).2) (((i : Nat) : Int)).toNat ((mmF w h u v i q0).1.1 i)) ik so ks rs lf K) H := hP
              have hD : va_D A (mdW b cB w h cd (uI ((mmF w h u v i q0).1.1) (((i : Nat) : Int)).toNat (moF u ((mmF w h u v i q0).1.1 i) (uI (mmF w h u v i q0).2 i ((mmF w h u v i q0).1.1 i) i) v)) mn (uI ((mmF w h u v i q0).2) (((i : Nat) : Int)).toNat ((mmF w h u v i q0).1.1 i)) ik so ks rs lf K) := hD
              refine lv_iinc (v := iI (((i + 1) : Nat) : Int)) (lv' := [(4, .int (iI (((i + 1) : Nat) : Int))), (3, .int (iI (((mmF w h u v i q0).1.2) + 1))), (7, .int (iI (moF u ((mmF w h u v i q0).1.1 i) (uI (mmF w h u v i q0).2 i ((mmF w h u v i q0).1.1 i) i) v))), (6, .int (iI ((((mmF w h u v i q0).1.1 i) + (uI (mmF w h u v i q0).2 i ((mmF w h u v i q0).1.1 i) i)) - v))), (5, .int (iI ((mmF w h u v i q0).1.1 i))), (0, .ref (b 0)), (1, .int (iI u)), (2, .int (iI v))]) hx hb dX3_merge_254 hl (k := 7) rfl ((iI_add _ _).trans (congrArg iI (by omega))) (by decide) rfl (fun ls hl => ?_)
              refine lv_goto (tgt := 49) hx hb dX3_merge_257 (by decide) ?_
              have e2 : mmF w h u v (i + 1) q0 = ((uI ((mmF w h u v i q0).1.1) (((i : Nat) : Int)).toNat (moF u ((mmF w h u v i q0).1.1 i) (uI (mmF w h u v i q0).2 i ((mmF w h u v i q0).1.1 i) i) v), ((mmF w h u v i q0).1.2) + 1), uI ((mmF w h u v i q0).2) (((i : Nat) : Int)).toNat ((mmF w h u v i q0).1.1 i)) := by
                show mmS w h u v i (mmF w h u v i q0) = _
                unfold mmS stS
                (repeat' split) <;> first | rfl | (exfalso; omega) | (simp only [Int.add_zero]; done) | (simp only [Int.add_zero]; rfl)
              exact ih (i + 1) (by omega) _ _ _ (by rw [e2]; exact hP) (by rw [e2]; exact hD) hS (by rw [e2]; exact lv_sub hl [5, 6, 7, 1, 0] rfl)
          · refine z_icmp_ne (tgt := 161) hx hb dX3_merge_131 (by decide) (by omega) (by omega) (fun c131 => ?_) (fun c131 => ?_)
            · refine lv_iload_n hx hb dX3_merge_161 rfl (lv_at hl 3 rfl) ?_
              refine lv_iconst (v := iI 2) hx hb dX3_merge_162 rfl ?_
              refine z_icmp_ne (tgt := 193) hx hb dX3_merge_163 (by decide) (by omega) (by omega) (fun c163 => ?_) (fun c163 => ?_)
              · refine lv_iload_n hx hb dX3_merge_193 rfl (lv_at hl 3 rfl) ?_
                refine lv_iconst (v := iI 3) hx hb dX3_merge_194 rfl ?_
                refine z_icmp_ne (tgt := 226) hx hb dX3_merge_195 (by decide) (by omega) (by omega) (fun c195 => ?_) (fun c195 => ?_)
                · refine lv_iload hx hb dX3_merge_226 (lv_at hl 1 rfl) ?_
                  have hmo := moF_rg (u := u) (v := v) (b := (mmF w h u v i q0).1.1 i) (d := uI (mmF w h u v i q0).2 i ((mmF w h u v i q0).1.1 i) i) (by omega) (by omega)
                  exact z_top (b := moF u ((mmF w h u v i q0).1.1 i) (uI (mmF w h u v i q0).2 i ((mmF w h u v i q0).1.1 i) i) v) (by unfold moF; (repeat' split) <;> omega) (J228 _ _ hP hD hS)
                · refine lv_iload hx hb dX3_merge_198 (lv_at hl 0 rfl) ?_
                  refine z_if_ge (tgt := 207) hx hb dX3_merge_200 (by decide) (by omega) (fun c200 => ?_) (fun c200 => ?_)
                  · refine lv_iload hx hb dX3_merge_207 (lv_at hl 0 rfl) ?_
                    refine lv_sipush (v := iI 1000) hx hb dX3_merge_209 (by decide) ?_
                    refine z_icmp_le (tgt := 221) hx hb dX3_merge_212 (by decide) (by omega) (by omega) (fun c212 => ?_) (fun c212 => ?_)
                    · refine lv_iload hx hb dX3_merge_221 (lv_at hl 0 rfl) ?_
                      refine lv_goto (tgt := 228) hx hb dX3_merge_223 (by decide) ?_
                      have hmo := moF_rg (u := u) (v := v) (b := (mmF w h u v i q0).1.1 i) (d := uI (mmF w h u v i q0).2 i ((mmF w h u v i q0).1.1 i) i) (by omega) (by omega)
                      exact z_top (b := moF u ((mmF w h u v i q0).1.1 i) (uI (mmF w h u v i q0).2 i ((mmF w h u v i q0).1.1 i) i) v) (by unfold moF; (repeat' split) <;> omega) (J228 _ _ hP hD hS)
                    · refine lv_sipush (v := iI 1000) hx hb dX3_merge_215 (by decide) ?_
                      refine lv_goto (tgt := 228) hx hb dX3_merge_218 (by decide) ?_
                      have hmo := moF_rg (u := u) (v := v) (b := (mmF w h u v i q0).1.1 i) (d := uI (mmF w h u v i q0).2 i ((mmF w h u v i q0).1.1 i) i) (by omega) (by omega)
                      exact z_top (b := moF u ((mmF w h u v i q0).1.1 i) (uI (mmF w h u v i q0).2 i ((mmF w h u v i q0).1.1 i) i) v) (by unfold moF; (repeat' split) <;> omega) (J228 _ _ hP hD hS)
                  · refine lv_iconst (v := iI 0) hx hb dX3_merge_203 rfl ?_
                    refine lv_goto (tgt := 228) hx hb dX3_merge_204 (by decide) ?_
                    have hmo := moF_rg (u := u) (v := v) (b := (mmF w h u v i q0).1.1 i) (d := uI (mmF w h u v i q0).2 i ((mmF w h u v i q0).1.1 i) i) (by omega) (by omega)
                    exact z_top (b := moF u ((mmF w h u v i q0).1.1 i) (uI (mmF w h u v i q0).2 i ((mmF w h u v i q0).1.1 i) i) v) (by unfold moF; (repeat' split) <;> omega) (J228 _ _ hP hD hS)
              · refine lv_aload_n hx hb dX3_merge_166 rfl (lv_at hl 2 rfl) ?_
                refine va_get (D := (dC, dI)) (ci := 3) (v := .ref (b 3)) (C := RX3) (T := TX3) (N := 18) hx hb hts inX3 hown hK hP 0 rfl rfl 5 (by decide) (hts _ wm_408) (fun _ h9 => h9) rfl dX3_merge_167 ?_
                refine lv_iload hx hb dX3_merge_170 (lv_at hl 6 rfl) ?_
                refine z_iald (f := uI ((mmF w h u v i q0).2) (((i : Nat) : Int)).toNat ((mmF w h u v i q0).1.1 i)) (i := ((i : Nat) : Int)) hx hb hK hP 3 2 rfl rfl (by omega) (by decide) dX3_merge_172 ?_
                refine z_top (b := uI (mmF w h u v i q0).2 i ((mmF w h u v i q0).1.1 i) i) (rfl) ?_
                refine lv_iload hx hb dX3_merge_173 (lv_at hl 1 rfl) ?_
                refine z_icmp_ge (tgt := 188) hx hb dX3_merge_175 (by decide) (by omega) (by omega) (fun c175 => ?_) (fun c175 => ?_)
                · refine lv_iload hx hb dX3_merge_188 (lv_at hl 1 rfl) ?_
                  refine lv_goto (tgt := 228) hx hb dX3_merge_190 (by decide) ?_
                  have hmo := moF_rg (u := u) (v := v) (b := (mmF w h u v i q0).1.1 i) (d := uI (mmF w h u v i q0).2 i ((mmF w h u v i q0).1.1 i) i) (by omega) (by omega)
                  exact z_top (b := moF u ((mmF w h u v i q0).1.1 i) (uI (mmF w h u v i q0).2 i ((mmF w h u v i q0).1.1 i) i) v) (by unfold moF; (repeat' split) <;> omega) (J228 _ _ hP hD hS)
                · refine lv_aload_n hx hb dX3_merge_178 rfl (lv_at hl 2 rfl) ?_
                  refine va_get (D := (dC, dI)) (ci := 3) (v := .ref (b 3)) (C := RX3) (T := TX3) (N := 18) hx hb hts inX3 hown hK hP 0 rfl rfl 5 (by decide) (hts _ wm_408) (fun _ h9 => h9) rfl dX3_merge_179 ?_
                  refine lv_iload hx hb dX3_merge_182 (lv_at hl 6 rfl) ?_
                  refine z_iald (f := uI ((mmF w h u v i q0).2) (((i : Nat) : Int)).toNat ((mmF w h u v i q0).1.1 i)) (i := ((i : Nat) : Int)) hx hb hK hP 3 2 rfl rfl (by omega) (by decide) dX3_merge_184 ?_
                  refine z_top (b := uI (mmF w h u v i q0).2 i ((mmF w h u v i q0).1.1 i) i) (rfl) ?_
                  refine lv_goto (tgt := 228) hx hb dX3_merge_185 (by decide) ?_
                  have hmo := moF_rg (u := u) (v := v) (b := (mmF w h u v i q0).1.1 i) (d := uI (mmF w h u v i q0).2 i ((mmF w h u v i q0).1.1 i) i) (by omega) (by omega)
                  exact z_top (b := moF u ((mmF w h u v i q0).1.1 i) (uI (mmF w h u v i q0).2 i ((mmF w h u v i q0).1.1 i) i) v) (by unfold moF; (repeat' split) <;> omega) (J228 _ _ hP hD hS)
            · refine lv_aload_n hx hb dX3_merge_134 rfl (lv_at hl 2 rfl) ?_
              refine va_get (D := (dC, dI)) (ci := 3) (v := .ref (b 3)) (C := RX3) (T := TX3) (N := 18) hx hb hts inX3 hown hK hP 0 rfl rfl 5 (by decide) (hts _ wm_408) (fun _ h9 => h9) rfl dX3_merge_135 ?_
              refine lv_iload hx hb dX3_merge_138 (lv_at hl 6 rfl) ?_
              refine z_iald (f := uI ((mmF w h u v i q0).2) (((i : Nat) : Int)).toNat ((mmF w h u v i q0).1.1 i)) (i := ((i : Nat) : Int)) hx hb hK hP 3 2 rfl rfl (by omega) (by decide) dX3_merge_140 ?_
              refine z_top (b := uI (mmF w h u v i q0).2 i ((mmF w h u v i q0).1.1 i) i) (rfl) ?_
              refine lv_iload hx hb dX3_merge_141 (lv_at hl 1 rfl) ?_
              refine z_icmp_le (tgt := 156) hx hb dX3_merge_143 (by decide) (by omega) (by omega) (fun c143 => ?_) (fun c143 => ?_)
              · refine lv_iload hx hb dX3_merge_156 (lv_at hl 1 rfl) ?_
                refine lv_goto (tgt := 228) hx hb dX3_merge_158 (by decide) ?_
                have hmo := moF_rg (u := u) (v := v) (b := (mmF w h u v i q0).1.1 i) (d := uI (mmF w h u v i q0).2 i ((mmF w h u v i q0).1.1 i) i) (by omega) (by omega)
                exact z_top (b := moF u ((mmF w h u v i q0).1.1 i) (uI (mmF w h u v i q0).2 i ((mmF w h u v i q0).1.1 i) i) v) (by unfold moF; (repeat' split) <;> omega) (J228 _ _ hP hD hS)
              · refine lv_aload_n hx hb dX3_merge_146 rfl (lv_at hl 2 rfl) ?_
                refine va_get (D := (dC, dI)) (ci := 3) (v := .ref (b 3)) (C := RX3) (T := TX3) (N := 18) hx hb hts inX3 hown hK hP 0 rfl rfl 5 (by decide) (hts _ wm_408) (fun _ h9 => h9) rfl dX3_merge_147 ?_
                refine lv_iload hx hb dX3_merge_150 (lv_at hl 6 rfl) ?_
                refine z_iald (f := uI ((mmF w h u v i q0).2) (((i : Nat) : Int)).toNat ((mmF w h u v i q0).1.1 i)) (i := ((i : Nat) : Int)) hx hb hK hP 3 2 rfl rfl (by omega) (by decide) dX3_merge_152 ?_
                refine z_top (b := uI (mmF w h u v i q0).2 i ((mmF w h u v i q0).1.1 i) i) (rfl) ?_
                refine lv_goto (tgt := 228) hx hb dX3_merge_153 (by decide) ?_
                have hmo := moF_rg (u := u) (v := v) (b := (mmF w h u v i q0).1.1 i) (d := uI (mmF w h u v i q0).2 i ((mmF w h u v i q0).1.1 i) i) (by omega) (by omega)
                exact z_top (b := moF u ((mmF w h u v i q0).1.1 i) (uI (mmF w h u v i q0).2 i ((mmF w h u v i q0).1.1 i) i) v) (by unfold moF; (repeat' split) <;> omega) (J228 _ _ hP hD hS)
set_option maxHeartbeats 4000000 in
set_option maxRecDepth 100000 in
theorem c_X3_merge (l : Launch) (dC : Nat → ClassId) (dI : Nat → Nat → Nat) (sz : Nat) (b : Nat → Nat) (cB : Nat → ClassId) (w h : Nat) (cd : Int) (wn mn kn : Nat → Int) (ik so : Int) (ks rs lf : Nat → Int) (K : MK) (u v : Int) (hw : 1 ≤ w ∧ w ≤ 20) (hh : 1 ≤ h ∧ h ≤ 20) (hwn : bd wn 0 1000) (hkn : bd kn 0 1000) (hik : ik = 0 ∨ ik = 1) (h1 : rg u) (h2 : rg v) : Met l yX3_merge wsX3_merge r_X3_merge (zP (dC, dI) vwCl (mdT cB) (mdW b cB w h cd wn mn kn ik so ks rs lf K) sz [.ref (b 0), .int (iI u), .int (iI v)]) (zQi (dC, dI) vwCl (mdT cB) (mdW b cB w h cd wn mn kn ik so ks rs lf K) sz (True) (if codM (isW u 0 3) (isW v 0 1000) u ik ≤ 0 then (mmF w h u v 400 ((wn, 0), kn)).1.2 else 0) (mdW b cB w h (codM (isW u 0 3) (isW v 0 1000) u ik) (if codM (isW u 0 3) (isW v 0 1000) u ik ≤ 0 then (mmF w h u v 400 ((wn, 0), kn)).1.1 else wn) mn (if codM (isW u 0 3) (isW v 0 1000) u ik ≤ 0 then (mmF w h u v 400 ((wn, 0), kn)).2 else kn) (ikM ik (codM (isW u 0 3) (isW v 0 1000) u ik)) so ks rs lf K)) 0 0 (va_A (mdW b cB w h cd wn mn kn ik so ks rs lf K) sz) := by
  refine Met.ofW (cc := cX3_merge) (maxL := 8) (ret := (some .int)) (by decide) rfl ?_
  intro p e s m args below meth c s₁ B hml hv
  obtain ⟨rfl, hsz, hP, hK, hD0, hZ⟩ := hv
  have hx := B.exec
  have hb := B.bytes
  have hr := B.returns
  have hts0 := atoms_spec (ws := wsX3_merge) B.pre
  have hts : ∀ w ∈ wsAll, w.before _ s = true := fun w h => hts0 w (List.mem_cons_of_mem _ h)
  have hown : s.vm.findClass RX3 = some m.cls := findClass_of_methodNamed B.named
  have hlocks := B.notSynchronized
  subst hsz
  have hD := hD0.self (sz := s.heap.size)
  obtain ⟨A, hAe⟩ : ∃ A, A = va_A (mdW b cB w h cd wn mn kn ik so ks rs lf K) s.heap.size := ⟨_, rfl⟩
  rw [← hAe] at hD hZ
  have hA : ∀ q : Nat, s.heap.size ≤ q → A q := fun q h => by rw [hAe]; exact Or.inr h
  have hS : va_S A s.heap s.heap [] := va_S.rf
  have hP : va_P (dC, dI) vwCl (mdW b cB w h cd wn mn kn ik so ks rs lf K) s.heap := hP
  have hl := lv_entry ([.ref (b 0), .int (iI u), .int (iI v)]) (n := 8) (Nat.le_of_ble_eq_true rfl)
  rw [lg_entry_eq]
  generalize (lg_sl ([.ref (b 0), .int (iI u), .int (iI v)]) ++ List.replicate (8 - (lg_sl ([.ref (b 0), .int (iI u), .int (iI v)])).length) Slot.unset).toArray = ls at hl ⊢
  have hl : lv_has ls 8 [(0, .ref (b 0)), (1, .int (iI u)), (2, .int (iI v))] := hl
  refine lv_aload_n hx hb dX3_merge_0 rfl (lv_at hl 0 rfl) ?_
  refine lv_iload_n hx hb dX3_merge_1 rfl (lv_at hl 1 rfl) ?_
  refine lv_iconst (v := iI 0) hx hb dX3_merge_2 rfl ?_
  refine lv_iconst (v := iI 3) hx hb dX3_merge_3 rfl ?_
  refine z_rcalli (va_runS (As := [.int (iI u), .int (iI 0), .int (iI 3)]) (rest := [.ref (b 0)]) ⟨hx, hb, hml, hown, hts⟩ (c_X3_isIn l dC dI (s.heap).size u 0 3 (by omega) (by omega) (by omega)) (va_cwS 3 hts g_X3_55 rfl rfl rfl (by decide +kernel) ⟨Nat.le_of_ble_eq_true rfl, Nat.le_of_ble_eq_true rfl⟩) (zP_S z_P0 (hK.sub [] rfl) z_D0 hS (z_free0 hS hA) hZ) rfl rfl hl.1 rfl (lv_room (Nat.le_of_ble_eq_true rfl)) dX3_merge_4 ⟨Nat.le_of_ble_eq_true rfl, Nat.le_of_ble_eq_true rfl⟩) hP hD hS (z_free0 hS hA) (fun _ h => by cases h) (fun H locs _ hP hD hS _ => ?_)
  refine z_joinH (D := (dC, dI)) (cl := vwCl) (A := A) (ws := mdW b cB w h cd wn mn kn ik so ks rs lf K) (g0 := F0 m 41 ls [.int (iI (codM (isW u 0 3) (isW v 0 1000) u ik)), .ref (b 0)]) (fun H locs hP hD hS => ?_) (fun J41 => ?_)
  · refine va_put (D := (dC, dI)) (ci := 3) (v := .int (iI (codM (isW u 0 3) (isW v 0 1000) u ik))) (ty := .int) (C := RX3) (T := TX3) (N := 18) hx hb hts inX3 tyX3 tyX3_ok nmX3 hown hK hP hD hS 0 rfl rfl 0 (by decide) (hts _ wm_403) (fun _ h9 => h9) rfl (by decide +kernel) rfl rfl (Nat.le_of_ble_eq_true rfl) dX3_merge_41 (fun H locs hP hD hS => ?_)
    have hP : va_P (dC, dI) vwCl (mdW b cB w h (codM (isW u 0 3) (isW v 0 1000) u ik) wn mn kn ik so ks rs lf K) H := hP
    have hD : va_D A (mdW b cB w h (codM (isW u 0 3) (isW v 0 1000) u ik) wn mn kn ik so ks rs lf K) := hD
    refine lv_iconst (v := iI 0) hx hb dX3_merge_44 rfl ?_
    refine lv_istore_n (lv' := [(3, .int (iI 0)), (0, .ref (b 0)), (1, .int (iI u)), (2, .int (iI v))]) hx hb dX3_merge_45 rfl hl (by decide) rfl (fun ls hl => ?_)
    refine lv_iconst (v := iI 0) hx hb dX3_merge_46 rfl ?_
    refine lv_istore (lv' := [(4, .int (iI 0)), (3, .int (iI 0)), (0, .ref (b 0)), (1, .int (iI u)), (2, .int (iI v))]) hx hb dX3_merge_47 hl (by decide) rfl (fun ls hl => ?_)
    have hcr := codM_rg (isW u 0 3) (isW v 0 1000) u ik
    by_cases hc0 : codM (isW u 0 3) (isW v 0 1000) u ik = 0
    · have hok := codM_ok (p := isW u 0 3) (q := isW v 0 1000) (u := u) (k := ik) (by omega)
      have hu := isW_t.mp hok.1
      have hv := isW_t.mp hok.2.1
      refine lp_X3_merge_49 b cB w h (codM (isW u 0 3) (isW v 0 1000) u ik) mn ik so ks rs lf K ((wn, 0), kn) u v hx hb hml hown hts hA hZ hK (hw) (hh) (hc0) (hu) (hv) (hwn) (⟨Int.le_refl 0, Int.le_refl 0⟩) (hkn) (fun H locs ls hP hD hS hl => ?_)  400 0 (by omega) _ _ _ hP hD hS (lv_sub hl [2, 3, 4, 1, 0] rfl)
      have hP : va_P (dC, dI) vwCl (mdW b cB w h (codM (isW u 0 3) (isW v 0 1000) u ik) ((mmF w h u v 400 ((wn, 0), kn)).1.1) mn ((mmF w h u v 400 ((wn, 0), kn)).2) ik so ks rs lf K) H := hP
      have hD : va_D A (mdW b cB w h (codM (isW u 0 3) (isW v 0 1000) u ik) ((mmF w h u v 400 ((wn, 0), kn)).1.1) mn ((mmF w h u v 400 ((wn, 0), kn)).2) ik so ks rs lf K) := hD
      have hl : lv_has ls 8 [(0, .ref (b 0)), (1, .int (iI u)), (2, .int (iI v)), (3, .int (iI ((mmF w h u v 400 ((wn, 0), kn)).1.2))), (4, .int (iI ((400 : Nat) : Int)))] := hl
      refine lv_aload_n hx hb dX3_merge_260 rfl (lv_at hl 0 rfl) ?_
      refine lv_aload_n hx hb dX3_merge_261 rfl (lv_at hl 0 rfl) ?_
      refine va_get (D := (dC, dI)) (ci := 3) (v := .int (iI ik)) (C := RX3) (T := TX3) (N := 18) hx hb hts inX3 hown hK hP 0 rfl rfl 6 (by decide) (hts _ wm_409) (fun _ h9 => h9) rfl dX3_merge_262 ?_
      refine z_joinH (D := (dC, dI)) (cl := vwCl) (A := A) (ws := mdW b cB w h (codM (isW u 0 3) (isW v 0 1000) u ik) ((mmF w h u v 400 ((wn, 0), kn)).1.1) mn ((mmF w h u v 400 ((wn, 0), kn)).2) ik so ks rs lf K) (g0 := F0 m 280 ls [.int (iI (ikM ik (codM (isW u 0 3) (isW v 0 1000) u ik))), .ref (b 0)]) (fun H locs hP hD hS => ?_) (fun J280 => ?_)
      · refine va_put (D := (dC, dI)) (ci := 3) (v := .int (iI (ikM ik (codM (isW u 0 3) (isW v 0 1000) u ik)))) (ty := .boolean) (C := RX3) (T := TX3) (N := 18) hx hb hts inX3 tyX3 tyX3_ok nmX3 hown hK hP hD hS 0 rfl rfl 6 (by decide) (hts _ wm_409) (fun _ h9 => h9) rfl (by decide +kernel) (z_nb (ikM_01 _ _)) (z_fb (ikM_01 _ _)) (Nat.le_of_ble_eq_true rfl) dX3_merge_280 (fun H locs hP hD hS => ?_)
        have hP : va_P (dC, dI) vwCl (mdW b cB w h (codM (isW u 0 3) (isW v 0 1000) u ik) ((mmF w h u v 400 ((wn, 0), kn)).1.1) mn ((mmF w h u v 400 ((wn, 0), kn)).2) (ikM ik (codM (isW u 0 3) (isW v 0 1000) u ik)) so ks rs lf K) H := hP
        have hD : va_D A (mdW b cB w h (codM (isW u 0 3) (isW v 0 1000) u ik) ((mmF w h u v 400 ((wn, 0), kn)).1.1) mn ((mmF w h u v 400 ((wn, 0), kn)).2) (ikM ik (codM (isW u 0 3) (isW v 0 1000) u ik)) so ks rs lf K) := hD
        refine lv_iload_n hx hb dX3_merge_283 rfl (lv_at hl 3 rfl) ?_
        subst hAe
        first | rw [show (if codM (isW u 0 3) (isW v 0 1000) u ik ≤ 0 then (mmF w h u v 400 ((wn, 0), kn)).1.1 else wn) = (mmF w h u v 400 ((wn, 0), kn)).1.1 from if_pos (by omega), show (if codM (isW u 0 3) (isW v 0 1000) u ik ≤ 0 then (mmF w h u v 400 ((wn, 0), kn)).2 else kn) = (mmF w h u v 400 ((wn, 0), kn)).2 from if_pos (by omega)] | rw [show (if codM (isW u 0 3) (isW v 0 1000) u ik ≤ 0 then (mmF w h u v 400 ((wn, 0), kn)).1.1 else wn) = wn from if_neg (by omega), show (if codM (isW u 0 3) (isW v 0 1000) u ik ≤ 0 then (mmF w h u v 400 ((wn, 0), kn)).2 else kn) = kn from if_neg (by omega)]
        refine z_top (b := if codM (isW u 0 3) (isW v 0 1000) u ik ≤ 0 then (mmF w h u v 400 ((wn, 0), kn)).1.2 else 0) (by first | rw [if_pos (by omega)] | rw [if_neg (by omega)]) ?_
        exact z_iret hx hb hr hlocks hP hK hD hS (trivial) dX3_merge_284
      · refine z_if_ne (tgt := 275) hx hb dX3_merge_265 (by decide) (by omega) (fun c265 => ?_) (fun c265 => ?_)
        · refine lv_iconst (v := iI 1) hx hb dX3_merge_275 rfl ?_
          refine lv_goto (tgt := 280) hx hb dX3_merge_276 (by decide) ?_
          exact z_top (b := ikM ik (codM (isW u 0 3) (isW v 0 1000) u ik)) (by unfold ikM; split <;> omega) (J280 _ _ hP hD hS)
        · refine lv_aload_n hx hb dX3_merge_268 rfl (lv_at hl 0 rfl) ?_
          refine va_get (D := (dC, dI)) (ci := 3) (v := .int (iI (codM (isW u 0 3) (isW v 0 1000) u ik))) (C := RX3) (T := TX3) (N := 18) hx hb hts inX3 hown hK hP 0 rfl rfl 0 (by decide) (hts _ wm_403) (fun _ h9 => h9) rfl dX3_merge_269 ?_
          refine z_if_ne (tgt := 279) hx hb dX3_merge_272 (by decide) (by omega) (fun c272 => ?_) (fun c272 => ?_)
          · refine lv_iconst (v := iI 0) hx hb dX3_merge_279 rfl ?_
            exact z_top (b := ikM ik (codM (isW u 0 3) (isW v 0 1000) u ik)) (by unfold ikM; split <;> omega) (J280 _ _ hP hD hS)
          · refine lv_iconst (v := iI 1) hx hb dX3_merge_275 rfl ?_
            refine lv_goto (tgt := 280) hx hb dX3_merge_276 (by decide) ?_
            exact z_top (b := ikM ik (codM (isW u 0 3) (isW v 0 1000) u ik)) (by unfold ikM; split <;> omega) (J280 _ _ hP hD hS)
    · refine lv_iload hx hb dX3_merge_49 (lv_at hl 0 rfl) ?_
      refine lv_sipush (v := iI 400) hx hb dX3_merge_51 (by decide) ?_
      refine z_icmp_ge (tgt := 260) hx hb dX3_merge_54 (by decide) (by omega) (by omega) (fun c54 => by exfalso; omega) (fun c54 => ?_)
      refine lv_aload_n hx hb dX3_merge_57 rfl (lv_at hl 2 rfl) ?_
      refine va_get (D := (dC, dI)) (ci := 3) (v := .int (iI (codM (isW u 0 3) (isW v 0 1000) u ik))) (C := RX3) (T := TX3) (N := 18) hx hb hts inX3 hown hK hP 0 rfl rfl 0 (by decide) (hts _ wm_403) (fun _ h9 => h9) rfl dX3_merge_58 ?_
      refine z_if_ne (tgt := 260) hx hb dX3_merge_61 (by decide) (by omega) (fun c61 => ?_) (fun c61 => by exfalso; omega)
      refine lv_aload_n hx hb dX3_merge_260 rfl (lv_at hl 2 rfl) ?_
      refine lv_aload_n hx hb dX3_merge_261 rfl (lv_at hl 2 rfl) ?_
      refine va_get (D := (dC, dI)) (ci := 3) (v := .int (iI ik)) (C := RX3) (T := TX3) (N := 18) hx hb hts inX3 hown hK hP 0 rfl rfl 6 (by decide) (hts _ wm_409) (fun _ h9 => h9) rfl dX3_merge_262 ?_
      refine z_joinH (D := (dC, dI)) (cl := vwCl) (A := A) (ws := mdW b cB w h (codM (isW u 0 3) (isW v 0 1000) u ik) wn mn kn ik so ks rs lf K) (g0 := F0 m 280 ls [.int (iI (ikM ik (codM (isW u 0 3) (isW v 0 1000) u ik))), .ref (b 0)]) (fun H locs hP hD hS => ?_) (fun J280 => ?_)
      · refine va_put (D := (dC, dI)) (ci := 3) (v := .int (iI (ikM ik (codM (isW u 0 3) (isW v 0 1000) u ik)))) (ty := .boolean) (C := RX3) (T := TX3) (N := 18) hx hb hts inX3 tyX3 tyX3_ok nmX3 hown hK hP hD hS 0 rfl rfl 6 (by decide) (hts _ wm_409) (fun _ h9 => h9) rfl (by decide +kernel) (z_nb (ikM_01 _ _)) (z_fb (ikM_01 _ _)) (Nat.le_of_ble_eq_true rfl) dX3_merge_280 (fun H locs hP hD hS => ?_)
        have hP : va_P (dC, dI) vwCl (mdW b cB w h (codM (isW u 0 3) (isW v 0 1000) u ik) wn mn kn (ikM ik (codM (isW u 0 3) (isW v 0 1000) u ik)) so ks rs lf K) H := hP
        have hD : va_D A (mdW b cB w h (codM (isW u 0 3) (isW v 0 1000) u ik) wn mn kn (ikM ik (codM (isW u 0 3) (isW v 0 1000) u ik)) so ks rs lf K) := hD
        refine lv_iload_n hx hb dX3_merge_283 rfl (lv_at hl 1 rfl) ?_
        subst hAe
        first | rw [show (if codM (isW u 0 3) (isW v 0 1000) u ik ≤ 0 then (mmF w h u v 400 ((wn, 0), kn)).1.1 else wn) = (mmF w h u v 400 ((wn, 0), kn)).1.1 from if_pos (by omega), show (if codM (isW u 0 3) (isW v 0 1000) u ik ≤ 0 then (mmF w h u v 400 ((wn, 0), kn)).2 else kn) = (mmF w h u v 400 ((wn, 0), kn)).2 from if_pos (by omega)] | rw [show (if codM (isW u 0 3) (isW v 0 1000) u ik ≤ 0 then (mmF w h u v 400 ((wn, 0), kn)).1.1 else wn) = wn from if_neg (by omega), show (if codM (isW u 0 3) (isW v 0 1000) u ik ≤ 0 then (mmF w h u v 400 ((wn, 0), kn)).2 else kn) = kn from if_neg (by omega)]
        refine z_top (b := if codM (isW u 0 3) (isW v 0 1000) u ik ≤ 0 then (mmF w h u v 400 ((wn, 0), kn)).1.2 else 0) (by first | rw [if_pos (by omega)] | rw [if_neg (by omega)]) ?_
        exact z_iret hx hb hr hlocks hP hK hD hS (trivial) dX3_merge_284
      · refine z_if_ne (tgt := 275) hx hb dX3_merge_265 (by decide) (by omega) (fun c265 => ?_) (fun c265 => ?_)
        · refine lv_iconst (v := iI 1) hx hb dX3_merge_275 rfl ?_
          refine lv_goto (tgt := 280) hx hb dX3_merge_276 (by decide) ?_
          exact z_top (b := ikM ik (codM (isW u 0 3) (isW v 0 1000) u ik)) (by unfold ikM; split <;> omega) (J280 _ _ hP hD hS)
        · refine lv_aload_n hx hb dX3_merge_268 rfl (lv_at hl 2 rfl) ?_
          refine va_get (D := (dC, dI)) (ci := 3) (v := .int (iI (codM (isW u 0 3) (isW v 0 1000) u ik))) (C := RX3) (T := TX3) (N := 18) hx hb hts inX3 hown hK hP 0 rfl rfl 0 (by decide) (hts _ wm_403) (fun _ h9 => h9) rfl dX3_merge_269 ?_
          refine z_if_ne (tgt := 279) hx hb dX3_merge_272 (by decide) (by omega) (fun c272 => ?_) (fun c272 => ?_)
          · refine lv_iconst (v := iI 0) hx hb dX3_merge_279 rfl ?_
            exact z_top (b := ikM ik (codM (isW u 0 3) (isW v 0 1000) u ik)) (by unfold ikM; split <;> omega) (J280 _ _ hP hD hS)
          · refine lv_iconst (v := iI 1) hx hb dX3_merge_275 rfl ?_
            refine lv_goto (tgt := 280) hx hb dX3_merge_276 (by decide) ?_
            exact z_top (b := ikM ik (codM (isW u 0 3) (isW v 0 1000) u ik)) (by unfold ikM; split <;> omega) (J280 _ _ hP hD hS)
  · refine z_if_eq (tgt := 21) hx hb dX3_merge_7 (by decide) (isW_rg _ _ _) (fun c7 => ?_) (fun c7 => ?_)
    · refine lv_iconst (v := iI 1) hx hb dX3_merge_21 rfl ?_
      refine lv_goto (tgt := 41) hx hb dX3_merge_22 (by decide) ?_
      exact z_top (b := codM (isW u 0 3) (isW v 0 1000) u ik) (by unfold codM; (repeat' split) <;> omega) (J41 _ _ hP hD hS)
    · refine lv_iload_n hx hb dX3_merge_10 rfl (lv_at hl 2 rfl) ?_
      refine lv_iconst (v := iI 0) hx hb dX3_merge_11 rfl ?_
      refine lv_sipush (v := iI 1000) hx hb dX3_merge_12 (by decide) ?_
      refine z_rcalli (va_runS (As := [.int (iI v), .int (iI 0), .int (iI 1000)]) (rest := [.ref (b 0)]) ⟨hx, hb, hml, hown, hts⟩ (c_X3_isIn l dC dI (H).size v 0 1000 (by omega) (by omega) (by omega)) (va_cwS 3 hts g_X3_55 rfl rfl rfl (by decide +kernel) ⟨Nat.le_of_ble_eq_true rfl, Nat.le_of_ble_eq_true rfl⟩) (zP_S z_P0 (hK.sub [] rfl) z_D0 hS (z_free0 hS hA) hZ) rfl rfl hl.1 rfl (lv_room (Nat.le_of_ble_eq_true rfl)) dX3_merge_15 ⟨Nat.le_of_ble_eq_true rfl, Nat.le_of_ble_eq_true rfl⟩) hP hD hS (z_free0 hS hA) (fun _ h => by cases h) (fun H locs _ hP hD hS _ => ?_)
      refine z_if_ne (tgt := 25) hx hb dX3_merge_18 (by decide) (isW_rg _ _ _) (fun c18 => ?_) (fun c18 => ?_)
      · refine lv_iload_n hx hb dX3_merge_25 rfl (lv_at hl 1 rfl) ?_
        refine z_if_le (tgt := 40) hx hb dX3_merge_26 (by decide) (by omega) (fun c26 => ?_) (fun c26 => ?_)
        · refine lv_iconst (v := iI 0) hx hb dX3_merge_40 rfl ?_
          exact z_top (b := codM (isW u 0 3) (isW v 0 1000) u ik) (by unfold codM; (repeat' split) <;> omega) (J41 _ _ hP hD hS)
        · refine lv_aload_n hx hb dX3_merge_29 rfl (lv_at hl 0 rfl) ?_
          refine va_get (D := (dC, dI)) (ci := 3) (v := .int (iI ik)) (C := RX3) (T := TX3) (N := 18) hx hb hts inX3 hown hK hP 0 rfl rfl 6 (by decide) (hts _ wm_409) (fun _ h9 => h9) rfl dX3_merge_30 ?_
          refine z_if_ne (tgt := 40) hx hb dX3_merge_33 (by decide) (by omega) (fun c33 => ?_) (fun c33 => ?_)
          · refine lv_iconst (v := iI 0) hx hb dX3_merge_40 rfl ?_
            exact z_top (b := codM (isW u 0 3) (isW v 0 1000) u ik) (by unfold codM; (repeat' split) <;> omega) (J41 _ _ hP hD hS)
          · refine lv_iconst (v := iI 2) hx hb dX3_merge_36 rfl ?_
            refine lv_goto (tgt := 41) hx hb dX3_merge_37 (by decide) ?_
            exact z_top (b := codM (isW u 0 3) (isW v 0 1000) u ik) (by unfold codM; (repeat' split) <;> omega) (J41 _ _ hP hD hS)
      · refine lv_iconst (v := iI 1) hx hb dX3_merge_21 rfl ?_
        refine lv_goto (tgt := 41) hx hb dX3_merge_22 (by decide) ?_
        exact z_top (b := codM (isW u 0 3) (isW v 0 1000) u ik) (by unfold codM; (repeat' split) <;> omega) (J41 _ _ hP hD hS)
