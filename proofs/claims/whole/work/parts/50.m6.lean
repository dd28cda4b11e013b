abbrev r_X3_fine : Room := { frames := 3, cells := 0, slots := 0, locals := 76 }
set_option maxHeartbeats 4000000 in
set_option maxRecDepth 100000 in
theorem lp_X3_fine_84 {p : Program} {l : Launch} {e : Env} {s : State} {m : MethodId} {args : Array Value} {below : List Frame} {meth : Method} {c : Code} {Q : State → Prop} {A : Nat → Prop} {dC : Nat → ClassId} {dI : Nat → Nat → Nat} (b : Nat → Nat) (cB : Nat → ClassId) (w h : Nat) (cd : Int) (wn mn kn : Nat → Int) (ik so : Int) (ks rs lf : Nat → Int) (K : MK) (t st g u M : Int) (hx : p.tables.exec = Jvm.exec) (hb : c.code = cX3_fine) (hml : c.maxLocals = 7) (hown : s.vm.findClass RX3 = some m.cls) (hts : ∀ w ∈ wsAll, w.before args s = true) (hA : ∀ q : Nat, s.heap.size ≤ q → A q) (hZ : zZ A s s.heap) (hK : va_K (dC, dI) vwCl (mdT cB) s) (hw : 1 ≤ w ∧ w ≤ 20) (hh : 1 ≤ h ∧ h ≤ 20) (hwn : bd wn 0 1000) (ht3 : 0 ≤ t ∧ t ≤ 3) (hks : 0 ≤ ks t.toNat ∧ ks t.toNat ≤ 2) (hrs : 0 ≤ rs t.toNat ∧ rs t.toNat ≤ 5) (hu : 0 ≤ u ∧ u < (h : Int)) (hg : 0 ≤ g ∧ g ≤ 100) (hK0 : mkOK K M) (hM : 0 ≤ M ∧ M ≤ 1000000000) (kk : ∀ (H : Heap) (locs : List Loc) (ls : Array Slot), va_P (dC, dI) vwCl (mdW b cB w h cd wn mn kn ik so ks rs lf (mfR w h wn (ks t.toNat) (rs t.toNat) u g w K)) H → va_D A (mdW b cB w h cd wn mn kn ik so ks rs lf (mfR w h wn (ks t.toNat) (rs t.toNat) u g w K)) → va_S A s.heap H locs → lv_has ls 7 [(0, .ref (b 0)), (1, .int (iI t)), (2, .int (iI st)), (3, .int (iI g)), (4, .int (iI u)), (5, .int (iI ((w : Nat) : Int)))] → W p l e r_X3_fine s m args below meth c H locs 0 0 Q (F0 m 138 ls [])) : ∀ (n i : Nat), i + n = w → ∀ (H : Heap) (locs : List Loc) (ls : Array Slot), va_P (dC, dI) vwCl (mdW b cB w h cd wn mn kn ik so ks rs lf (mfR w h wn (ks t.toNat) (rs t.toNat) u g i K)) H → va_D A (mdW b cB w h cd wn mn kn ik so ks rs lf (mfR w h wn (ks t.toNat) (rs t.toNat) u g i K)) → va_S A s.heap H locs → lv_has ls 7 [(0, .ref (b 0)), (1, .int (iI t)), (2, .int (iI st)), (3, .int (iI g)), (4, .int (iI u)), (5, .int (iI ((i : Nat) : Int)))] → W p l e r_X3_fine s m args below meth c H locs 0 0 Q (F0 m 84 ls []) := by
  intro n
  induction n with
  | zero =>
    intro i hi H locs ls hP hD hS hl
    have hi9 : w = i := by omega
    subst hi9
    refine lv_iload hx hb dX3_fine_84 (lv_at hl 5 rfl) ?_
    refine lv_aload_n hx hb dX3_fine_86 rfl (lv_at hl 0 rfl) ?_
    refine va_get (D := (dC, dI)) (ci := 3) (v := .int (iI (w : Int))) (C := RX3) (T := TX3) (N := 18) hx hb hts inX3 hown hK hP 0 rfl rfl 1 (by decide) (hts _ wm_404) (fun _ h9 => h9) rfl dX3_fine_87 ?_
    refine z_icmp_ge (tgt := 138) hx hb dX3_fine_90 (by decide) (by omega) (by omega) (fun c90 => ?_) (fun c90 => by exfalso; omega)
    exact kk _ _ _ hP hD hS (lv_sub hl [0, 1, 2, 3, 4, 5] rfl)
  | succ n ih =>
    intro i hi H locs ls hP hD hS hl
    have hx9 := rwX_rg (w := w) (b := evB g) (i := ((i : Nat) : Int)) (by omega) (by omega)
    have hzp := lmF_pos (kd := ks t.toNat) hrs hwn hx9 hu
    have hzr := lmF_rg (w := w) (kd := ks t.toNat) (r := rs t.toNat) (x := rwX w (evB g) ((i : Nat) : Int)) (y := u) (n := nB h (rs t.toNat) u) hwn
    have hQ := mfR_ok (kd := ks t.toNat) (g := g) (n := i) hw.2 (by omega) hh.2 hu hrs hwn hK0
    refine lv_iload hx hb dX3_fine_84 (lv_at hl 5 rfl) ?_
    refine lv_aload_n hx hb dX3_fine_86 rfl (lv_at hl 0 rfl) ?_
    refine va_get (D := (dC, dI)) (ci := 3) (v := .int (iI (w : Int))) (C := RX3) (T := TX3) (N := 18) hx hb hts inX3 hown hK hP 0 rfl rfl 1 (by decide) (hts _ wm_404) (fun _ h9 => h9) rfl dX3_fine_87 ?_
    refine z_icmp_ge (tgt := 138) hx hb dX3_fine_90 (by decide) (by omega) (by omega) (fun c90 => by exfalso; omega) (fun c90 => ?_)
    refine lv_iload_n hx hb dX3_fine_93 rfl (lv_at hl 3 rfl) ?_
    refine lv_iconst (v := iI 2) hx hb dX3_fine_94 rfl ?_
    refine z_rem hx hb dX3_fine_95 (by omega) (by omega) ?_
    refine z_joinH (D := (dC, dI)) (cl := vwCl) (A := A) (ws := mdW b cB w h cd wn mn kn ik so ks rs lf (mfR w h wn (ks t.toNat) (rs t.toNat) u g i K)) (g0 := F0 m 113 ls [.int (iI (rwX w (evB g) ((i : Nat) : Int)))]) (fun H locs hP hD hS => ?_) (fun J113 => ?_)
    · refine lv_istore (lv' := [(6, .int (iI (rwX w (evB g) ((i : Nat) : Int)))), (0, .ref (b 0)), (1, .int (iI t)), (2, .int (iI st)), (3, .int (iI g)), (4, .int (iI u)), (5, .int (iI ((i : Nat) : Int)))]) hx hb dX3_fine_113 hl (by decide) rfl (fun ls hl => ?_)
      refine lv_aload_n hx hb dX3_fine_115 rfl (lv_at hl 1 rfl) ?_
      refine lv_iload hx hb dX3_fine_116 (lv_at hl 0 rfl) ?_
      refine lv_iload hx hb dX3_fine_118 (lv_at hl 5 rfl) ?_
      refine lv_aload_n hx hb dX3_fine_120 rfl (lv_at hl 1 rfl) ?_
      refine lv_iload hx hb dX3_fine_121 (lv_at hl 0 rfl) ?_
      refine lv_iload hx hb dX3_fine_123 (lv_at hl 5 rfl) ?_
      refine lv_iload_n hx hb dX3_fine_125 rfl (lv_at hl 2 rfl) ?_
      have hFc := z_freeR (wc := mdW b cB w h cd wn mn kn ik so ks rs lf (mfR w h wn (ks t.toNat) (rs t.toNat) u g i K)) (fun _ h => h) hD hS hA
      refine z_wcalli (va_runV (As := [.int (iI (rwX w (evB g) ((i : Nat) : Int))), .int (iI u), .int (iI t)]) (rest := [.int (iI u), .int (iI (rwX w (evB g) ((i : Nat) : Int))), .ref (b 0)]) ⟨hx, hb, hml, hown, hts⟩ (c_X3_liftOf l dC dI (H).size b cB w h cd wn mn kn ik so ks rs lf (mfR w h wn (ks t.toNat) (rs t.toNat) u g i K) (rwX w (evB g) ((i : Nat) : Int)) u t hw hh hwn (by omega) (by omega) ht3 hks hrs) (cwV 3 hts g_X3_67 rfl rfl rfl (by decide +kernel) ⟨Nat.le_of_ble_eq_true rfl, Nat.le_of_ble_eq_true rfl⟩) (zP_V (ci := 3) (q0 := 0) rfl rfl hP hK hD hS hFc hZ) rfl rfl hl.1 rfl (lv_room (Nat.le_of_ble_eq_true rfl)) dX3_fine_126 ⟨Nat.le_of_ble_eq_true rfl, Nat.le_of_ble_eq_true rfl⟩) hS hFc (fun H locs _ hP hD hS _ => ?_)
      have hP : va_P (dC, dI) vwCl (mdW b cB w h cd wn mn kn ik so ks rs lf (mfR w h wn (ks t.toNat) (rs t.toNat) u g i K)) H := hP
      have hD : va_D A (mdW b cB w h cd wn mn kn ik so ks rs lf (mfR w h wn (ks t.toNat) (rs t.toNat) u g i K)) := hD
      have hFc := z_freeR (wc := mdW b cB w h cd wn mn kn ik so ks rs lf (mfR w h wn (ks t.toNat) (rs t.toNat) u g i K)) (fun _ h => h) hD hS hA
      refine z_wcallv (va_runV (As := [.int (iI (rwX w (evB g) ((i : Nat) : Int))), .int (iI u), .int (iI (lmF w wn (ks t.toNat) (rs t.toNat) (rwX w (evB g) ((i : Nat) : Int)) u (nB h (rs t.toNat) u)))]) (rest := []) ⟨hx, hb, hml, hown, hts⟩ (c_X3_move3 l dC dI (H).size b cB w h cd wn mn kn ik so ks rs lf (mfR w h wn (ks t.toNat) (rs t.toNat) u g i K) (rwX w (evB g) ((i : Nat) : Int)) u (lmF w wn (ks t.toNat) (rs t.toNat) (rwX w (evB g) ((i : Nat) : Int)) u (nB h (rs t.toNat) u)) (M + ((i : Nat) : Int)) hQ (by omega) (by omega) (by omega) (by omega)) (cwV 3 hts g_X3_95 rfl rfl rfl (by decide +kernel) ⟨Nat.le_of_ble_eq_true rfl, Nat.le_of_ble_eq_true rfl⟩) (zP_V (ci := 3) (q0 := 0) rfl rfl hP hK hD hS hFc hZ) rfl rfl hl.1 rfl (lv_room (Nat.le_of_ble_eq_true rfl)) dX3_fine_129 ⟨Nat.le_of_ble_eq_true rfl, Nat.le_of_ble_eq_true rfl⟩) hS hFc (fun H locs _ hP hD hS _ => ?_)
      have hP : va_P (dC, dI) vwCl (mdW b cB w h cd wn mn kn ik so ks rs lf (mkA (rwX w (evB g) ((i : Nat) : Int)) u (lmF w wn (ks t.toNat) (rs t.toNat) (rwX w (evB g) ((i : Nat) : Int)) u (nB h (rs t.toNat) u)) (mfR w h wn (ks t.toNat) (rs t.toNat) u g i K))) H := hP
      have hD : va_D A (mdW b cB w h cd wn mn kn ik so ks rs lf (mkA (rwX w (evB g) ((i : Nat) : Int)) u (lmF w wn (ks t.toNat) (rs t.toNat) (rwX w (evB g) ((i : Nat) : Int)) u (nB h (rs t.toNat) u)) (mfR w h wn (ks t.toNat) (rs t.toNat) u g i K))) := hD
      refine lv_iinc (v := iI (((i + 1) : Nat) : Int)) (lv' := [(5, .int (iI (((i + 1) : Nat) : Int))), (6, .int (iI (rwX w (evB g) ((i : Nat) : Int)))), (0, .ref (b 0)), (1, .int (iI t)), (2, .int (iI st)), (3, .int (iI g)), (4, .int (iI u))]) hx hb dX3_fine_132 hl (k := 6) rfl ((iI_add _ _).trans (congrArg iI (by omega))) (by decide) rfl (fun ls hl => ?_)
      refine lv_goto (tgt := 84) hx hb dX3_fine_135 (by decide) ?_
      exact ih (i + 1) (by omega) _ _ _ hP hD hS (lv_sub hl [2, 3, 4, 5, 6, 0] rfl)
    · refine z_if_ne (tgt := 104) hx hb dX3_fine_96 (by decide) (by omega) (fun c96 => ?_) (fun c96 => ?_)
      · refine lv_aload_n hx hb dX3_fine_104 rfl (lv_at hl 0 rfl) ?_
        refine va_get (D := (dC, dI)) (ci := 3) (v := .int (iI (w : Int))) (C := RX3) (T := TX3) (N := 18) hx hb hts inX3 hown hK hP 0 rfl rfl 1 (by decide) (hts _ wm_404) (fun _ h9 => h9) rfl dX3_fine_105 ?_
        refine lv_iconst (v := iI 1) hx hb dX3_fine_108 rfl ?_
        refine z_sub hx hb dX3_fine_109 ?_
        refine lv_iload hx hb dX3_fine_110 (lv_at hl 5 rfl) ?_
        refine z_sub hx hb dX3_fine_112 ?_
        exact z_top (b := rwX w (evB g) ((i : Nat) : Int)) (by unfold rwX evB; (repeat' split) <;> omega) (J113 _ _ hP hD hS)
      · refine lv_iload hx hb dX3_fine_99 (lv_at hl 5 rfl) ?_
        refine lv_goto (tgt := 113) hx hb dX3_fine_101 (by decide) ?_
        exact z_top (b := rwX w (evB g) ((i : Nat) : Int)) (by unfold rwX evB; (repeat' split) <;> omega) (J113 _ _ hP hD hS)
set_option maxHeartbeats 4000000 in
set_option maxRecDepth 100000 in
theorem lp_X3_fine_54 {p : Program} {l : Launch} {e : Env} {s : State} {m : MethodId} {args : Array Value} {below : List Frame} {meth : Method} {c : Code} {Q : State → Prop} {A : Nat → Prop} {dC : Nat → ClassId} {dI : Nat → Nat → Nat} (b : Nat → Nat) (cB : Nat → ClassId) (w h : Nat) (cd : Int) (wn mn kn : Nat → Int) (ik so : Int) (ks rs lf : Nat → Int) (q0 : MK × Int) (t st M : Int) (hx : p.tables.exec = Jvm.exec) (hb : c.code = cX3_fine) (hml : c.maxLocals = 7) (hown : s.vm.findClass RX3 = some m.cls) (hts : ∀ w ∈ wsAll, w.before args s = true) (hA : ∀ q : Nat, s.heap.size ≤ q → A q) (hZ : zZ A s s.heap) (hK : va_K (dC, dI) vwCl (mdT cB) s) (hw : 1 ≤ w ∧ w ≤ 20) (hh : 1 ≤ h ∧ h ≤ 20) (hwn : bd wn 0 1000) (ht3 : 0 ≤ t ∧ t ≤ 3) (hks : 0 ≤ ks t.toNat ∧ ks t.toNat ≤ 2) (hrs : 0 ≤ rs t.toNat ∧ rs t.toNat ≤ 5) (hst : 1 ≤ st ∧ st ≤ 20) (hq1 : mkOK q0.1 M) (hq2 : 0 ≤ q0.2 ∧ q0.2 ≤ 0) (hM : 0 ≤ M ∧ M ≤ 1000000) (kk : ∀ (H : Heap) (locs : List Loc) (ls : Array Slot), va_P (dC, dI) vwCl (mdW b cB w h cd wn mn kn ik so ks rs lf ((mfG w h wn (ks t.toNat) (rs t.toNat) st h q0).1)) H → va_D A (mdW b cB w h cd wn mn kn ik so ks rs lf ((mfG w h wn (ks t.toNat) (rs t.toNat) st h q0).1)) → va_S A s.heap H locs → lv_has ls 7 [(0, .ref (b 0)), (1, .int (iI t)), (2, .int (iI st)), (3, .int (iI ((mfG w h wn (ks t.toNat) (rs t.toNat) st h q0).2))), (4, .int (iI ((h : Nat) : Int)))] → W p l e r_X3_fine s m args below meth c H locs 0 0 Q (F0 m 147 ls [])) : ∀ (n i : Nat), i + n = h → ∀ (H : Heap) (locs : List Loc) (ls : Array Slot), va_P (dC, dI) vwCl (mdW b cB w h cd wn mn kn ik so ks rs lf ((mfG w h wn (ks t.toNat) (rs t.toNat) st i q0).1)) H → va_D A (mdW b cB w h cd wn mn kn ik so ks rs lf ((mfG w h wn (ks t.toNat) (rs t.toNat) st i q0).1)) → va_S A s.heap H locs → lv_has ls 7 [(0, .ref (b 0)), (1, .int (iI t)), (2, .int (iI st)), (3, .int (iI ((mfG w h wn (ks t.toNat) (rs t.toNat) st i q0).2))), (4, .int (iI ((i : Nat) : Int)))] → W p l e r_X3_fine s m args below meth c H locs 0 0 Q (F0 m 54 ls []) := by
  intro n
  induction n with
  | zero =>
    intro i hi H locs ls hP hD hS hl
    have hi9 : h = i := by omega
    subst hi9
    refine lv_iload hx hb dX3_fine_54 (lv_at hl 4 rfl) ?_
    refine lv_aload_n hx hb dX3_fine_56 rfl (lv_at hl 0 rfl) ?_
    refine va_get (D := (dC, dI)) (ci := 3) (v := .int (iI (h : Int))) (C := RX3) (T := TX3) (N := 18) hx hb hts inX3 hown hK hP 0 rfl rfl 2 (by decide) (hts _ wm_405) (fun _ h9 => h9) rfl dX3_fine_57 ?_
    refine z_icmp_ge (tgt := 147) hx hb dX3_fine_60 (by decide) (by omega) (by omega) (fun c60 => ?_) (fun c60 => by exfalso; omega)
    exact kk _ _ _ hP hD hS (lv_sub hl [0, 1, 2, 3, 4] rfl)
  | succ n ih =>
    intro i hi H locs ls hP hD hS hl
    have hQ := mfG_ok (w := w) (h := h) (kd := ks t.toNat) (st := st) (n := i) hw.2 hh.2 (by omega) hrs hwn hq1 hq2
    refine lv_iload hx hb dX3_fine_54 (lv_at hl 4 rfl) ?_
    refine lv_aload_n hx hb dX3_fine_56 rfl (lv_at hl 0 rfl) ?_
    refine va_get (D := (dC, dI)) (ci := 3) (v := .int (iI (h : Int))) (C := RX3) (T := TX3) (N := 18) hx hb hts inX3 hown hK hP 0 rfl rfl 2 (by decide) (hts _ wm_405) (fun _ h9 => h9) rfl dX3_fine_57 ?_
    refine z_icmp_ge (tgt := 147) hx hb dX3_fine_60 (by decide) (by omega) (by omega) (fun c60 => by exfalso; omega) (fun c60 => ?_)
    refine lv_iload hx hb dX3_fine_63 (lv_at hl 4 rfl) ?_
    refine lv_iload_n hx hb dX3_fine_65 rfl (lv_at hl 2 rfl) ?_
    refine z_rem hx hb dX3_fine_66 (by omega) (by omega) ?_
    have hm9 := z_mod (a := ((i : Nat) : Int)) (b := st) (by omega) (by omega)
    refine z_if_eq (tgt := 81) hx hb dX3_fine_67 (by decide) (by omega) (fun c67 => ?_) (fun c67 => ?_)
    · refine lv_iconst (v := iI 0) hx hb dX3_fine_81 rfl ?_
      refine lv_istore (lv' := [(5, .int (iI 0)), (0, .ref (b 0)), (1, .int (iI t)), (2, .int (iI st)), (3, .int (iI ((mfG w h wn (ks t.toNat) (rs t.toNat) st i q0).2))), (4, .int (iI ((i : Nat) : Int)))]) hx hb dX3_fine_82 hl (by decide) rfl (fun ls hl => ?_)
      refine lp_X3_fine_84 b cB w h cd wn mn kn ik so ks rs lf ((mfG w h wn (ks t.toNat) (rs t.toNat) st i q0).1) t st ((mfG w h wn (ks t.toNat) (rs t.toNat) st i q0).2) ((i : Nat) : Int) (M + 20 * ((i : Nat) : Int)) hx hb hml hown hts hA hZ hK (hw) (hh) (hwn) (ht3) (hks) (hrs) (by omega) (by omega) (hQ.1) (by omega) (fun H locs ls hP hD hS hl => ?_)  w 0 (by omega) _ _ _ hP hD hS (lv_sub hl [1, 2, 3, 4, 5, 0] rfl)
      have hP : va_P (dC, dI) vwCl (mdW b cB w h cd wn mn kn ik so ks rs lf (mfR w h wn (ks t.toNat) (rs t.toNat) ((i : Nat) : Int) ((mfG w h wn (ks t.toNat) (rs t.toNat) st i q0).2) w ((mfG w h wn (ks t.toNat) (rs t.toNat) st i q0).1))) H := hP
      have hD : va_D A (mdW b cB w h cd wn mn kn ik so ks rs lf (mfR w h wn (ks t.toNat) (rs t.toNat) ((i : Nat) : Int) ((mfG w h wn (ks t.toNat) (rs t.toNat) st i q0).2) w ((mfG w h wn (ks t.toNat) (rs t.toNat) st i q0).1))) := hD
      have hl : lv_has ls 7 [(0, .ref (b 0)), (1, .int (iI t)), (2, .int (iI st)), (3, .int (iI ((mfG w h wn (ks t.toNat) (rs t.toNat) st i q0).2))), (4, .int (iI ((i : Nat) : Int))), (5, .int (iI ((w : Nat) : Int)))] := hl
      refine lv_iinc (v := iI (((mfG w h wn (ks t.toNat) (rs t.toNat) st i q0).2) + 1)) (lv' := [(3, .int (iI (((mfG w h wn (ks t.toNat) (rs t.toNat) st i q0).2) + 1))), (0, .ref (b 0)), (1, .int (iI t)), (2, .int (iI st)), (4, .int (iI ((i : Nat) : Int))), (5, .int (iI ((w : Nat) : Int)))]) hx hb dX3_fine_138 hl (k := 3) rfl (iI_add _ _) (by decide) rfl (fun ls hl => ?_)
      refine lv_iinc (v := iI (((i + 1) : Nat) : Int)) (lv' := [(4, .int (iI (((i + 1) : Nat) : Int))), (3, .int (iI (((mfG w h wn (ks t.toNat) (rs t.toNat) st i q0).2) + 1))), (0, .ref (b 0)), (1, .int (iI t)), (2, .int (iI st)), (5, .int (iI ((w : Nat) : Int)))]) hx hb dX3_fine_141 hl (k := 4) rfl ((iI_add _ _).trans (congrArg iI (by omega))) (by decide) rfl (fun ls hl => ?_)
      refine lv_goto (tgt := 54) hx hb dX3_fine_144 (by decide) ?_
      have e2 : mfG w h wn (ks t.toNat) (rs t.toNat) st (i + 1) q0 = ((mfR w h wn (ks t.toNat) (rs t.toNat) ((i : Nat) : Int) ((mfG w h wn (ks t.toNat) (rs t.toNat) st i q0).2) w ((mfG w h wn (ks t.toNat) (rs t.toNat) st i q0).1)), ((mfG w h wn (ks t.toNat) (rs t.toNat) st i q0).2) + 1) := by
        show mfS w h wn (ks t.toNat) (rs t.toNat) st ((i : Nat) : Int) (mfG w h wn (ks t.toNat) (rs t.toNat) st i q0) = _
        unfold mfS
        split <;> first | rfl | (exfalso; omega)
      exact ih (i + 1) (by omega) _ _ _ (by rw [e2]; exact hP) (by rw [e2]; exact hD) hS (by rw [e2]; exact lv_sub hl [2, 3, 4, 1, 0] rfl)
    · refine lv_iload hx hb dX3_fine_70 (lv_at hl 4 rfl) ?_
      refine lv_aload_n hx hb dX3_fine_72 rfl (lv_at hl 0 rfl) ?_
      refine va_get (D := (dC, dI)) (ci := 3) (v := .int (iI (h : Int))) (C := RX3) (T := TX3) (N := 18) hx hb hts inX3 hown hK hP 0 rfl rfl 2 (by decide) (hts _ wm_405) (fun _ h9 => h9) rfl dX3_fine_73 ?_
      refine lv_iconst (v := iI 1) hx hb dX3_fine_76 rfl ?_
      refine z_sub hx hb dX3_fine_77 ?_
      refine z_icmp_ne (tgt := 141) hx hb dX3_fine_78 (by decide) (by omega) (by omega) (fun c78 => ?_) (fun c78 => ?_)
      · refine lv_iinc (v := iI (((i + 1) : Nat) : Int)) (lv' := [(4, .int (iI (((i + 1) : Nat) : Int))), (0, .ref (b 0)), (1, .int (iI t)), (2, .int (iI st)), (3, .int (iI ((mfG w h wn (ks t.toNat) (rs t.toNat) st i q0).2)))]) hx hb dX3_fine_141 hl (k := 4) rfl ((iI_add _ _).trans (congrArg iI (by omega))) (by decide) rfl (fun ls hl => ?_)
        refine lv_goto (tgt := 54) hx hb dX3_fine_144 (by decide) ?_
        have e2 : mfG w h wn (ks t.toNat) (rs t.toNat) st (i + 1) q0 = (((mfG w h wn (ks t.toNat) (rs t.toNat) st i q0).1), (mfG w h wn (ks t.toNat) (rs t.toNat) st i q0).2) := by
          show mfS w h wn (ks t.toNat) (rs t.toNat) st ((i : Nat) : Int) (mfG w h wn (ks t.toNat) (rs t.toNat) st i q0) = _
          unfold mfS
          split <;> first | rfl | (exfalso; omega)
        exact ih (i + 1) (by omega) _ _ _ (by rw [e2]; exact hP) (by rw [e2]; exact hD) hS (by rw [e2]; exact lv_sub hl [1, 2, 3, 4, 0] rfl)
      · refine lv_iconst (v := iI 0) hx hb dX3_fine_81 rfl ?_
        refine lv_istore (lv' := [(5, .int (iI 0)), (0, .ref (b 0)), (1, .int (iI t)), (2, .int (iI st)), (3, .int (iI ((mfG w h wn (ks t.toNat) (rs t.toNat) st i q0).2))), (4, .int (iI ((i : Nat) : Int)))]) hx hb dX3_fine_82 hl (by decide) rfl (fun ls hl => ?_)
        refine lp_X3_fine_84 b cB w h cd wn mn kn ik so ks rs lf ((mfG w h wn (ks t.toNat) (rs t.toNat) st i q0).1) t st ((mfG w h wn (ks t.toNat) (rs t.toNat) st i q0).2) ((i : Nat) : Int) (M + 20 * ((i : Nat) : Int)) hx hb hml hown hts hA hZ hK (hw) (hh) (hwn) (ht3) (hks) (hrs) (by omega) (by omega) (hQ.1) (by omega) (fun H locs ls hP hD hS hl => ?_)  w 0 (by omega) _ _ _ hP hD hS (lv_sub hl [1, 2, 3, 4, 5, 0] rfl)
        have hP : va_P (dC, dI) vwCl (mdW b cB w h cd wn mn kn ik so ks rs lf (mfR w h wn (ks t.toNat) (rs t.toNat) ((i : Nat) : Int) ((mfG w h wn (ks t.toNat) (rs t.toNat) st i q0).2) w ((mfG w h wn (ks t.toNat) (rs t.toNat) st i q0).1))) H := hP
        have hD : va_D A (mdW b cB w h cd wn mn kn ik so ks rs lf (mfR w h wn (ks t.toNat) (rs t.toNat) ((i : Nat) : Int) ((mfG w h wn (ks t.toNat) (rs t.toNat) st i q0).2) w ((mfG w h wn (ks t.toNat) (rs t.toNat) st i q0).1))) := hD
        have hl : lv_has ls 7 [(0, .ref (b 0)), (1, .int (iI t)), (2, .int (iI st)), (3, .int (iI ((mfG w h wn (ks t.toNat) (rs t.toNat) st i q0).2))), (4, .int (iI ((i : Nat) : Int))), (5, .int (iI ((w : Nat) : Int)))] := hl
        refine lv_iinc (v := iI (((mfG w h wn (ks t.toNat) (rs t.toNat) st i q0).2) + 1)) (lv' := [(3, .int (iI (((mfG w h wn (ks t.toNat) (rs t.toNat) st i q0).2) + 1))), (0, .ref (b 0)), (1, .int (iI t)), (2, .int (iI st)), (4, .int (iI ((i : Nat) : Int))), (5, .int (iI ((w : Nat) : Int)))]) hx hb dX3_fine_138 hl (k := 3) rfl (iI_add _ _) (by decide) rfl (fun ls hl => ?_)
        refine lv_iinc (v := iI (((i + 1) : Nat) : Int)) (lv' := [(4, .int (iI (((i + 1) : Nat) : Int))), (3, .int (iI (((mfG w h wn (ks t.toNat) (rs t.toNat) st i q0).2) + 1))), (0, .ref (b 0)), (1, .int (iI t)), (2, .int (iI st)), (5, .int (iI ((w : Nat) : Int)))]) hx hb dX3_fine_141 hl (k := 4) rfl ((iI_add _ _).trans (congrArg iI (by omega))) (by decide) rfl (fun ls hl => ?_)
        refine lv_goto (tgt := 54) hx hb dX3_fine_144 (by decide) ?_
        have e2 : mfG w h wn (ks t.toNat) (rs t.toNat) st (i + 1) q0 = ((mfR w h wn (ks t.toNat) (rs t.toNat) ((i : Nat) : Int) ((mfG w h wn (ks t.toNat) (rs t.toNat) st i q0).2) w ((mfG w h wn (ks t.toNat) (rs t.toNat) st i q0).1)), ((mfG w h wn (ks t.toNat) (rs t.toNat) st i q0).2) + 1) := by
          show mfS w h wn (ks t.toNat) (rs t.toNat) st ((i : Nat) : Int) (mfG w h wn (ks t.toNat) (rs t.toNat) st i q0) = _
          unfold mfS
          split <;> first | rfl | (exfalso; omega)
        exact ih (i + 1) (by omega) _ _ _ (by rw [e2]; exact hP) (by rw [e2]; exact hD) hS (by rw [e2]; exact lv_sub hl [2, 3, 4, 1, 0] rfl)
set_option maxHeartbeats 4000000 in
set_option maxRecDepth 100000 in
theorem c_X3_fine (l : Launch) (dC : Nat → ClassId) (dI : Nat → Nat → Nat) (sz : Nat) (b : Nat → Nat) (cB : Nat → ClassId) (w h : Nat) (cd : Int) (wn mn kn : Nat → Int) (ik so : Int) (ks rs lf : Nat → Int) (K : MK) (t st : Int) (hw : 1 ≤ w ∧ w ≤ 20) (hh : 1 ≤ h ∧ h ≤ 20) (hwn : bd wn 0 1000) (hmn : bd mn 0 1000) (hK0 : mkOK K 1000000) (h1 : rg t) (h2 : rg st) (hks : ∀ j, j < 4 → 0 ≤ ks j ∧ ks j ≤ 2) (hrs : ∀ j, j < 4 → 0 ≤ rs j ∧ rs j ≤ 5) : Met l yX3_fine wsX3_fine r_X3_fine (zP (dC, dI) vwCl (mdT cB) (mdW b cB w h cd wn mn kn ik so ks rs lf K) sz [.ref (b 0), .int (iI t), .int (iI st)]) (zQi (dC, dI) vwCl (mdT cB) (mdW b cB w h cd wn mn kn ik so ks rs lf K) sz (True) (if cod2 (isW t 0 3) (isW st 1 20) ≤ 0 then (mfG w h wn (ks t.toNat) (rs t.toNat) st h (mkN 400 (mkB K), 0)).2 else 0) (mdW b cB w h (cod2 (isW t 0 3) (isW st 1 20)) wn (if cod2 (isW t 0 3) (isW st 1 20) ≤ 0 then cmF w h (mfG w h wn (ks t.toNat) (rs t.toNat) st h (mkN 400 (mkB K), 0)).1.1 (ks t.toNat) (rs t.toNat) h mn else mn) kn ik so ks rs lf (if cod2 (isW t 0 3) (isW st 1 20) ≤ 0 then (mfG w h wn (ks t.toNat) (rs t.toNat) st h (mkN 400 (mkB K), 0)).1 else K))) 0 0 (va_A (mdW b cB w h cd wn mn kn ik so ks rs lf K) sz) := by
  refine Met.ofW (cc := cX3_fine) (maxL := 7) (ret := (some .int)) (by decide) rfl ?_
  intro p e s m args below meth c s₁ B hml hv
  obtain ⟨rfl, hsz, hP, hK, hD0, hZ⟩ := hv
  have hx := B.exec
  have hb := B.bytes
  have hr := B.returns
  have hts0 := atoms_spec (ws := wsX3_fine) B.pre
  have hts : ∀ w ∈ wsAll, w.before _ s = true := fun w h => hts0 w (List.mem_cons_of_mem _ h)
  have hown : s.vm.findClass RX3 = some m.cls := findClass_of_methodNamed B.named
  have hlocks := B.notSynchronized
  subst hsz
  have hD := hD0.self (sz := s.heap.size)
  obtain ⟨A, hAe⟩ : ∃ A, A = va_A (mdW b cB w h cd wn mn kn ik so ks rs lf K) s.heap.size := ⟨_, rfl⟩
  rw [← hAe] at hD hZ
  have hA : ∀ q : Nat, s.heap.size ≤ q → A q := fun q h => by rw [hAe]; exact Or.inr h
  have hS : va_S A s.heap s.heap [] := va_S.rf
  have hP : va_P (dC, dI) vwCl (mdW b cB w h cd wn mn kn ik so ks rs lf K) s.heap := hP
  have hl := lv_entry ([.ref (b 0), .int (iI t), .int (iI st)]) (n := 7) (Nat.le_of_ble_eq_true rfl)
  rw [lg_entry_eq]
  generalize (lg_sl ([.ref (b 0), .int (iI t), .int (iI st)]) ++ List.replicate (7 - (lg_sl ([.ref (b 0), .int (iI t), .int (iI st)])).length) Slot.unset).toArray = ls at hl ⊢
  have hl : lv_has ls 7 [(0, .ref (b 0)), (1, .int (iI t)), (2, .int (iI st))] := hl
  refine lv_aload_n hx hb dX3_fine_0 rfl (lv_at hl 0 rfl) ?_
  refine lv_iload_n hx hb dX3_fine_1 rfl (lv_at hl 1 rfl) ?_
  refine lv_iconst (v := iI 0) hx hb dX3_fine_2 rfl ?_
  refine lv_iconst (v := iI 3) hx hb dX3_fine_3 rfl ?_
  refine z_rcalli (va_runS (As := [.int (iI t), .int (iI 0), .int (iI 3)]) (rest := [.ref (b 0)]) ⟨hx, hb, hml, hown, hts⟩ (c_X3_isIn l dC dI (s.heap).size t 0 3 (by omega) (by omega) (by omega)) (va_cwS 3 hts g_X3_55 rfl rfl rfl (by decide +kernel) ⟨Nat.le_of_ble_eq_true rfl, Nat.le_of_ble_eq_true rfl⟩) (zP_S z_P0 (hK.sub [] rfl) z_D0 hS (z_free0 hS hA) hZ) rfl rfl hl.1 rfl (lv_room (Nat.le_of_ble_eq_true rfl)) dX3_fine_4 ⟨Nat.le_of_ble_eq_true rfl, Nat.le_of_ble_eq_true rfl⟩) hP hD hS (z_free0 hS hA) (fun _ h => by cases h) (fun H locs _ hP hD hS _ => ?_)
  refine z_joinH (D := (dC, dI)) (cl := vwCl) (A := A) (ws := mdW b cB w h cd wn mn kn ik so ks rs lf K) (g0 := F0 m 29 ls [.int (iI (cod2 (isW t 0 3) (isW st 1 20))), .ref (b 0)]) (fun H locs hP hD hS => ?_) (fun J29 => ?_)
  · refine va_put (D := (dC, dI)) (ci := 3) (v := .int (iI (cod2 (isW t 0 3) (isW st 1 20)))) (ty := .int) (C := RX3) (T := TX3) (N := 18) hx hb hts inX3 tyX3 tyX3_ok nmX3 hown hK hP hD hS 0 rfl rfl 0 (by decide) (hts _ wm_403) (fun _ h9 => h9) rfl (by decide +kernel) rfl rfl (Nat.le_of_ble_eq_true rfl) dX3_fine_29 (fun H locs hP hD hS => ?_)
    have hP : va_P (dC, dI) vwCl (mdW b cB w h (cod2 (isW t 0 3) (isW st 1 20)) wn mn kn ik so ks rs lf K) H := hP
    have hD : va_D A (mdW b cB w h (cod2 (isW t 0 3) (isW st 1 20)) wn mn kn ik so ks rs lf K) := hD
    refine lv_aload_n hx hb dX3_fine_32 rfl (lv_at hl 0 rfl) ?_
    refine va_get (D := (dC, dI)) (ci := 3) (v := .int (iI (cod2 (isW t 0 3) (isW st 1 20)))) (C := RX3) (T := TX3) (N := 18) hx hb hts inX3 hown hK hP 0 rfl rfl 0 (by decide) (hts _ wm_403) (fun _ h9 => h9) rfl dX3_fine_33 ?_
    have hcr := cod2_rg (isW t 0 3) (isW st 1 20)
    refine z_if_le (tgt := 41) hx hb dX3_fine_36 (by decide) (by omega) (fun c36 => ?_) (fun c36 => ?_)
    · have hok := cod2_ok c36
      have ht3 := isW_t.mp hok.1
      have hst := isW_t.mp hok.2
      have hj : t.toNat < 4 := by omega
      have hks := hks _ hj
      have hrs := hrs _ hj
      refine lv_aload_n hx hb dX3_fine_41 rfl (lv_at hl 0 rfl) ?_
      have hFc := z_freeR (wc := mdW b cB w h (cod2 (isW t 0 3) (isW st 1 20)) wn mn kn ik so ks rs lf K) (fun _ h => h) hD hS hA
      refine z_wcallv (va_runV (As := []) (rest := []) ⟨hx, hb, hml, hown, hts⟩ (c_X3_begin l dC dI (H).size b cB w h (cod2 (isW t 0 3) (isW st 1 20)) wn mn kn ik so ks rs lf K ) (cwV 0 hts g_X3_89 rfl rfl rfl (by decide +kernel) ⟨Nat.le_of_ble_eq_true rfl, Nat.le_of_ble_eq_true rfl⟩) (zP_V (ci := 3) (q0 := 0) rfl rfl hP hK hD hS hFc hZ) rfl rfl hl.1 rfl (lv_room (Nat.le_of_ble_eq_true rfl)) dX3_fine_42 ⟨Nat.le_of_ble_eq_true rfl, Nat.le_of_ble_eq_true rfl⟩) hS hFc (fun H locs _ hP hD hS _ => ?_)
      have hP : va_P (dC, dI) vwCl (mdW b cB w h (cod2 (isW t 0 3) (isW st 1 20)) wn mn kn ik so ks rs lf (mkB K)) H := hP
      have hD : va_D A (mdW b cB w h (cod2 (isW t 0 3) (isW st 1 20)) wn mn kn ik so ks rs lf (mkB K)) := hD
      refine lv_aload_n hx hb dX3_fine_45 rfl (lv_at hl 0 rfl) ?_
      have hFc := z_freeR (wc := mdW b cB w h (cod2 (isW t 0 3) (isW st 1 20)) wn mn kn ik so ks rs lf (mkB K)) (fun _ h => h) hD hS hA
      refine z_wcallv (va_runV (As := []) (rest := []) ⟨hx, hb, hml, hown, hts⟩ (c_X3_noTips l dC dI (H).size b cB w h (cod2 (isW t 0 3) (isW st 1 20)) wn mn kn ik so ks rs lf (mkB K) ) (cwV 0 hts g_X3_92 rfl rfl rfl (by decide +kernel) ⟨Nat.le_of_ble_eq_true rfl, Nat.le_of_ble_eq_true rfl⟩) (zP_V (ci := 3) (q0 := 0) rfl rfl hP hK hD hS hFc hZ) rfl rfl hl.1 rfl (lv_room (Nat.le_of_ble_eq_true rfl)) dX3_fine_46 ⟨Nat.le_of_ble_eq_true rfl, Nat.le_of_ble_eq_true rfl⟩) hS hFc (fun H locs _ hP hD hS _ => ?_)
      have hP : va_P (dC, dI) vwCl (mdW b cB w h (cod2 (isW t 0 3) (isW st 1 20)) wn mn kn ik so ks rs lf (mkN 400 (mkB K))) H := hP
      have hD : va_D A (mdW b cB w h (cod2 (isW t 0 3) (isW st 1 20)) wn mn kn ik so ks rs lf (mkN 400 (mkB K))) := hD
      refine lv_iconst (v := iI 0) hx hb dX3_fine_49 rfl ?_
      refine lv_istore_n (lv' := [(3, .int (iI 0)), (0, .ref (b 0)), (1, .int (iI t)), (2, .int (iI st))]) hx hb dX3_fine_50 rfl hl (by decide) rfl (fun ls hl => ?_)
      refine lv_iconst (v := iI 0) hx hb dX3_fine_51 rfl ?_
      refine lv_istore (lv' := [(4, .int (iI 0)), (3, .int (iI 0)), (0, .ref (b 0)), (1, .int (iI t)), (2, .int (iI st))]) hx hb dX3_fine_52 hl (by decide) rfl (fun ls hl => ?_)
      refine lp_X3_fine_54 b cB w h (cod2 (isW t 0 3) (isW st 1 20)) wn mn kn ik so ks rs lf (mkN 400 (mkB K), 0) t st 0 hx hb hml hown hts hA hZ hK (hw) (hh) (hwn) (ht3) (hks) (hrs) (hst) (mkN_ok (n := 400) (mkB_ok hK0)) (⟨Int.le_refl 0, Int.le_refl 0⟩) (by decide) (fun H locs ls hP hD hS hl => ?_)  h 0 (by omega) _ _ _ hP hD hS (lv_sub hl [2, 3, 4, 1, 0] rfl)
      have hP : va_P (dC, dI) vwCl (mdW b cB w h (cod2 (isW t 0 3) (isW st 1 20)) wn mn kn ik so ks rs lf ((mfG w h wn (ks t.toNat) (rs t.toNat) st h (mkN 400 (mkB K), 0)).1)) H := hP
      have hD : va_D A (mdW b cB w h (cod2 (isW t 0 3) (isW st 1 20)) wn mn kn ik so ks rs lf ((mfG w h wn (ks t.toNat) (rs t.toNat) st h (mkN 400 (mkB K), 0)).1)) := hD
      have hl : lv_has ls 7 [(0, .ref (b 0)), (1, .int (iI t)), (2, .int (iI st)), (3, .int (iI ((mfG w h wn (ks t.toNat) (rs t.toNat) st h (mkN 400 (mkB K), 0)).2))), (4, .int (iI ((h : Nat) : Int)))] := hl
      refine lv_aload_n hx hb dX3_fine_147 rfl (lv_at hl 0 rfl) ?_
      refine lv_iload_n hx hb dX3_fine_148 rfl (lv_at hl 1 rfl) ?_
      have hQ9 := mfG_ok (w := w) (h := h) (kd := ks t.toNat) (st := st) (n := h) (s := (mkN 400 (mkB K), 0)) hw.2 hh.2 (Nat.le_refl h) hrs hwn (mkN_ok (n := 400) (mkB_ok hK0)) ⟨Int.le_refl 0, Int.le_refl 0⟩
      have hFc := z_freeR (wc := mdW b cB w h (cod2 (isW t 0 3) (isW st 1 20)) wn mn kn ik so ks rs lf ((mfG w h wn (ks t.toNat) (rs t.toNat) st h (mkN 400 (mkB K), 0)).1)) (fun _ h => h) hD hS hA
      refine z_wcallv (va_runV (As := [.int (iI t)]) (rest := []) ⟨hx, hb, hml, hown, hts⟩ (c_X3_carve l dC dI (H).size b cB w h (cod2 (isW t 0 3) (isW st 1 20)) wn mn kn ik so ks rs lf ((mfG w h wn (ks t.toNat) (rs t.toNat) st h (mkN 400 (mkB K), 0)).1) t hw hh ht3 hks hrs hQ9.1.2.2.2.2 hmn) (cwV 1 hts g_X3_99 rfl rfl rfl (by decide +kernel) ⟨Nat.le_of_ble_eq_true rfl, Nat.le_of_ble_eq_true rfl⟩) (zP_V (ci := 3) (q0 := 0) rfl rfl hP hK hD hS hFc hZ) rfl rfl hl.1 rfl (lv_room (Nat.le_of_ble_eq_true rfl)) dX3_fine_149 ⟨Nat.le_of_ble_eq_true rfl, Nat.le_of_ble_eq_true rfl⟩) hS hFc (fun H locs _ hP hD hS _ => ?_)
      have hP : va_P (dC, dI) vwCl (mdW b cB w h (cod2 (isW t 0 3) (isW st 1 20)) wn (cmF w h ((mfG w h wn (ks t.toNat) (rs t.toNat) st h (mkN 400 (mkB K), 0)).1).1 (ks t.toNat) (rs t.toNat) h mn) kn ik so ks rs lf ((mfG w h wn (ks t.toNat) (rs t.toNat) st h (mkN 400 (mkB K), 0)).1)) H := hP
      have hD : va_D A (mdW b cB w h (cod2 (isW t 0 3) (isW st 1 20)) wn (cmF w h ((mfG w h wn (ks t.toNat) (rs t.toNat) st h (mkN 400 (mkB K), 0)).1).1 (ks t.toNat) (rs t.toNat) h mn) kn ik so ks rs lf ((mfG w h wn (ks t.toNat) (rs t.toNat) st h (mkN 400 (mkB K), 0)).1)) := hD
      refine lv_iload_n hx hb dX3_fine_152 rfl (lv_at hl 3 rfl) ?_
      subst hAe
      rw [show (if cod2 (isW t 0 3) (isW st 1 20) ≤ 0 then (mfG w h wn (ks t.toNat) (rs t.toNat) st h (mkN 400 (mkB K), 0)).1 else K) = (mfG w h wn (ks t.toNat) (rs t.toNat) st h (mkN 400 (mkB K), 0)).1 from if_pos (by omega), show (if cod2 (isW t 0 3) (isW st 1 20) ≤ 0 then cmF w h (mfG w h wn (ks t.toNat) (rs t.toNat) st h (mkN 400 (mkB K), 0)).1.1 (ks t.toNat) (rs t.toNat) h mn else mn) = cmF w h (mfG w h wn (ks t.toNat) (rs t.toNat) st h (mkN 400 (mkB K), 0)).1.1 (ks t.toNat) (rs t.toNat) h mn from if_pos (by omega)]
      refine z_top (b := if cod2 (isW t 0 3) (isW st 1 20) ≤ 0 then (mfG w h wn (ks t.toNat) (rs t.toNat) st h (mkN 400 (mkB K), 0)).2 else 0) (by rw [if_pos (by omega)]) ?_
      exact z_iret hx hb hr hlocks hP hK hD hS (trivial) dX3_fine_153
    · refine lv_iconst (v := iI 0) hx hb dX3_fine_39 rfl ?_
      subst hAe
      rw [show (if cod2 (isW t 0 3) (isW st 1 20) ≤ 0 then (mfG w h wn (ks t.toNat) (rs t.toNat) st h (mkN 400 (mkB K), 0)).1 else K) = K from if_neg (by omega), show (if cod2 (isW t 0 3) (isW st 1 20) ≤ 0 then cmF w h (mfG w h wn (ks t.toNat) (rs t.toNat) st h (mkN 400 (mkB K), 0)).1.1 (ks t.toNat) (rs t.toNat) h mn else mn) = mn from if_neg (by omega)]
      refine z_top (b := if cod2 (isW t 0 3) (isW st 1 20) ≤ 0 then (mfG w h wn (ks t.toNat) (rs t.toNat) st h (mkN 400 (mkB K), 0)).2 else 0) (by rw [if_neg (by omega)]) ?_
      exact z_iret hx hb hr hlocks hP hK hD hS (trivial) dX3_fine_40
  · refine z_if_ne (tgt := 14) hx hb dX3_fine_7 (by decide) (isW_rg _ _ _) (fun c7 => ?_) (fun c7 => ?_)
    · refine lv_iload_n hx hb dX3_fine_14 rfl (lv_at hl 2 rfl) ?_
      refine lv_iconst (v := iI 1) hx hb dX3_fine_15 rfl ?_
      refine lv_bipush (v := iI 20) hx hb dX3_fine_16 (by decide) ?_
      refine z_rcalli (va_runS (As := [.int (iI st), .int (iI 1), .int (iI 20)]) (rest := [.ref (b 0)]) ⟨hx, hb, hml, hown, hts⟩ (c_X3_isIn l dC dI (H).size st 1 20 (by omega) (by omega) (by omega)) (va_cwS 3 hts g_X3_55 rfl rfl rfl (by decide +kernel) ⟨Nat.le_of_ble_eq_true rfl, Nat.le_of_ble_eq_true rfl⟩) (zP_S z_P0 (hK.sub [] rfl) z_D0 hS (z_free0 hS hA) hZ) rfl rfl hl.1 rfl (lv_room (Nat.le_of_ble_eq_true rfl)) dX3_fine_18 ⟨Nat.le_of_ble_eq_true rfl, Nat.le_of_ble_eq_true rfl⟩) hP hD hS (z_free0 hS hA) (fun _ h => by cases h) (fun H locs _ hP hD hS _ => ?_)
      refine z_if_eq (tgt := 28) hx hb dX3_fine_21 (by decide) (isW_rg _ _ _) (fun c21 => ?_) (fun c21 => ?_)
      · refine lv_iconst (v := iI 2) hx hb dX3_fine_28 rfl ?_
        exact z_top (b := cod2 (isW t 0 3) (isW st 1 20)) (by unfold cod2; (repeat' split) <;> omega) (J29 _ _ hP hD hS)
      · refine lv_iconst (v := iI 0) hx hb dX3_fine_24 rfl ?_
        refine lv_goto (tgt := 29) hx hb dX3_fine_25 (by decide) ?_
        exact z_top (b := cod2 (isW t 0 3) (isW st 1 20)) (by unfold cod2; (repeat' split) <;> omega) (J29 _ _ hP hD hS)
    · refine lv_iconst (v := iI 1) hx hb dX3_fine_10 rfl ?_
      refine lv_goto (tgt := 29) hx hb dX3_fine_11 (by decide) ?_
      exact z_top (b := cod2 (isW t 0 3) (isW st 1 20)) (by unfold cod2; (repeat' split) <;> omega) (J29 _ _ hP hD hS)
abbrev r_X3_made : Room := { frames := 1, cells := 0, slots := 0, locals := 22 }
set_option maxHeartbeats 4000000 in
set_option maxRecDepth 100000 in
theorem c_X3_made (l : Launch) (dC : Nat → ClassId) (dI : Nat → Nat → Nat) (sz : Nat) (b : Nat → Nat) (cB : Nat → ClassId) (w h : Nat) (cd : Int) (wn mn kn : Nat → Int) (ik so : Int) (ks rs lf : Nat → Int) (K : MK) (x y : Int) (hw : 1 ≤ w ∧ w ≤ 20) (hh : 1 ≤ h ∧ h ≤ 20) (h1 : rg x) (h2 : rg y) : Met l yX3_made wsX3_made r_X3_made (zP (dC, dI) vwCl (mdT cB) (mdW b cB w h cd wn mn kn ik so ks rs lf K) sz [.ref (b 0), .int (iI x), .int (iI y)]) (zQi (dC, dI) vwCl (mdT cB) (mdW b cB w h cd wn mn kn ik so ks rs lf K) sz (True) (if cod1 (plB w h x y) ≤ 0 then mn (20 * y + x).toNat else 0) (mdW b cB w h (cod1 (plB w h x y)) wn mn kn ik so ks rs lf K)) 0 0 (va_A (mdW b cB w h cd wn mn kn ik so ks rs lf K) sz) := by
  refine Met.ofW (cc := cX3_made) (maxL := 3) (ret := (some .int)) (by decide) rfl ?_
  intro p e s m args below meth c s₁ B hml hv
  obtain ⟨rfl, hsz, hP, hK, hD0, hZ⟩ := hv
  have hx := B.exec
  have hb := B.bytes
  have hr := B.returns
  have hts0 := atoms_spec (ws := wsX3_made) B.pre
  have hts : ∀ w ∈ wsAll, w.before _ s = true := fun w h => hts0 w (List.mem_cons_of_mem _ h)
  have hown : s.vm.findClass RX3 = some m.cls := findClass_of_methodNamed B.named
  have hlocks := B.notSynchronized
  subst hsz
  have hD := hD0.self (sz := s.heap.size)
  obtain ⟨A, hAe⟩ : ∃ A, A = va_A (mdW b cB w h cd wn mn kn ik so ks rs lf K) s.heap.size := ⟨_, rfl⟩
  rw [← hAe] at hD hZ
  have hA : ∀ q : Nat, s.heap.size ≤ q → A q := fun q h => by rw [hAe]; exact Or.inr h
  have hS : va_S A s.heap s.heap [] := va_S.rf
  have hP : va_P (dC, dI) vwCl (mdW b cB w h cd wn mn kn ik so ks rs lf K) s.heap := hP
  have hl := lv_entry ([.ref (b 0), .int (iI x), .int (iI y)]) (n := 3) (Nat.le_of_ble_eq_true rfl)
  rw [lg_entry_eq]
  generalize (lg_sl ([.ref (b 0), .int (iI x), .int (iI y)]) ++ List.replicate (3 - (lg_sl ([.ref (b 0), .int (iI x), .int (iI y)])).length) Slot.unset).toArray = ls at hl ⊢
  have hl : lv_has ls 3 [(0, .ref (b 0)), (1, .int (iI x)), (2, .int (iI y))] := hl
  refine lv_aload_n hx hb dX3_made_0 rfl (lv_at hl 0 rfl) ?_
  refine lv_aload_n hx hb dX3_made_1 rfl (lv_at hl 0 rfl) ?_
  refine lv_iload_n hx hb dX3_made_2 rfl (lv_at hl 1 rfl) ?_
  refine lv_iload_n hx hb dX3_made_3 rfl (lv_at hl 2 rfl) ?_
  have hFc := z_freeR (wc := mdW b cB w h cd wn mn kn ik so ks rs lf K) (fun _ h => h) hD hS hA
  refine z_wcalli (va_runV (As := [.int (iI x), .int (iI y)]) (rest := [.ref (b 0)]) ⟨hx, hb, hml, hown, hts⟩ (c_X3_isPlace l dC dI (s.heap).size b cB w h cd wn mn kn ik so ks rs lf K x y hw hh (by omega) (by omega)) (cwV 2 hts g_X3_51 rfl rfl rfl (by decide +kernel) ⟨Nat.le_of_ble_eq_true rfl, Nat.le_of_ble_eq_true rfl⟩) (zP_V (ci := 3) (q0 := 0) rfl rfl hP hK hD hS hFc hZ) rfl rfl hl.1 rfl (lv_room (Nat.le_of_ble_eq_true rfl)) dX3_made_4 ⟨Nat.le_of_ble_eq_true rfl, Nat.le_of_ble_eq_true rfl⟩) hS hFc (fun H locs _ hP hD hS _ => ?_)
  have hP : va_P (dC, dI) vwCl (mdW b cB w h cd wn mn kn ik so ks rs lf K) H := hP
  have hD : va_D A (mdW b cB w h cd wn mn kn ik so ks rs lf K) := hD
  refine z_joinH (D := (dC, dI)) (cl := vwCl) (A := A) (ws := mdW b cB w h cd wn mn kn ik so ks rs lf K) (g0 := F0 m 15 ls [.int (iI (cod1 (plB w h x y))), .ref (b 0)]) (fun H locs hP hD hS => ?_) (fun J15 => ?_)
  · refine va_put (D := (dC, dI)) (ci := 3) (v := .int (iI (cod1 (plB w h x y)))) (ty := .int) (C := RX3) (T := TX3) (N := 18) hx hb hts inX3 tyX3 tyX3_ok nmX3 hown hK hP hD hS 0 rfl rfl 0 (by decide) (hts _ wm_403) (fun _ h9 => h9) rfl (by decide +kernel) rfl rfl (Nat.le_of_ble_eq_true rfl) dX3_made_15 (fun H locs hP hD hS => ?_)
    have hP : va_P (dC, dI) vwCl (mdW b cB w h (cod1 (plB w h x y)) wn mn kn ik so ks rs lf K) H := hP
    have hD : va_D A (mdW b cB w h (cod1 (plB w h x y)) wn mn kn ik so ks rs lf K) := hD
    refine lv_aload_n hx hb dX3_made_18 rfl (lv_at hl 0 rfl) ?_
    refine va_get (D := (dC, dI)) (ci := 3) (v := .int (iI (cod1 (plB w h x y)))) (C := RX3) (T := TX3) (N := 18) hx hb hts inX3 hown hK hP 0 rfl rfl 0 (by decide) (hts _ wm_403) (fun _ h9 => h9) rfl dX3_made_19 ?_
    have hcr := cod1_rg (plB w h x y)
    refine z_if_le (tgt := 29) hx hb dX3_made_22 (by decide) (by omega) (fun c22 => ?_) (fun c22 => ?_)
    · have hpl := plB_t.mp (cod1_ok c22)
      refine lv_aload_n hx hb dX3_made_29 rfl (lv_at hl 0 rfl) ?_
      refine va_get (D := (dC, dI)) (ci := 3) (v := .ref (b 2)) (C := RX3) (T := TX3) (N := 18) hx hb hts inX3 hown hK hP 0 rfl rfl 4 (by decide) (hts _ wm_407) (fun _ h9 => h9) rfl dX3_made_30 ?_
      refine lv_bipush (v := iI 20) hx hb dX3_made_33 (by decide) ?_
      refine lv_iload_n hx hb dX3_made_35 rfl (lv_at hl 2 rfl) ?_
      refine z_mul hx hb dX3_made_36 ?_
      refine lv_iload_n hx hb dX3_made_37 rfl (lv_at hl 1 rfl) ?_
      refine z_add hx hb dX3_made_38 ?_
      refine z_iald (f := mn) (i := (20 * y) + x) hx hb hK hP 2 1 rfl rfl (z_i20 hw.2 hh.2 hpl.1 hpl.2.1 hpl.2.2.1 hpl.2.2.2) (by decide) dX3_made_39 ?_
      subst hAe
      refine z_top (b := if cod1 (plB w h x y) ≤ 0 then mn (20 * y + x).toNat else 0) (by first | rw [if_pos (by omega)] | rw [if_neg (by omega)]) ?_
      exact z_iret hx hb hr hlocks hP hK hD hS (trivial) dX3_made_40
    · refine lv_iconst (v := iI 0) hx hb dX3_made_25 rfl ?_
      refine lv_goto (tgt := 40) hx hb dX3_made_26 (by decide) ?_
      subst hAe
      refine z_top (b := if cod1 (plB w h x y) ≤ 0 then mn (20 * y + x).toNat else 0) (by first | rw [if_pos (by omega)] | rw [if_neg (by omega)]) ?_
      exact z_iret hx hb hr hlocks hP hK hD hS (trivial) dX3_made_40
  · refine z_if_eq (tgt := 14) hx hb dX3_made_7 (by decide) (plB_rg _ _ _ _) (fun c7 => ?_) (fun c7 => ?_)
    · refine lv_iconst (v := iI 1) hx hb dX3_made_14 rfl ?_
      exact z_top (b := cod1 (plB w h x y)) (by unfold cod1; (repeat' split) <;> omega) (J15 _ _ hP hD hS)
    · refine lv_iconst (v := iI 0) hx hb dX3_made_10 rfl ?_
      refine lv_goto (tgt := 15) hx hb dX3_made_11 (by decide) ?_
      exact z_top (b := cod1 (plB w h x y)) (by unfold cod1; (repeat' split) <;> omega) (J15 _ _ hP hD hS)
abbrev r_X3_moves : Room := { frames := 0, cells := 0, slots := 0, locals := 0 }
set_option maxHeartbeats 4000000 in
set_option maxRecDepth 100000 in
theorem c_X3_moves (l : Launch) (dC : Nat → ClassId) (dI : Nat → Nat → Nat) (sz : Nat) (b : Nat → Nat) (cB : Nat → ClassId) (w h : Nat) (cd : Int) (wn mn kn : Nat → Int) (ik so : Int) (ks rs lf : Nat → Int) (K : MK) : Met l yX3_moves wsX3_moves r_X3_moves (zP (dC, dI) vwCl (mdT cB) (mdW b cB w h cd wn mn kn ik so ks rs lf K) sz [.ref (b 0)]) (zQi (dC, dI) vwCl (mdT cB) (mdW b cB w h cd wn mn kn ik so ks rs lf K) sz (True) K.2.2.1 (mdW b cB w h 0 wn mn kn ik so ks rs lf K)) 0 0 (va_A (mdW b cB w h cd wn mn kn ik so ks rs lf K) sz) := by
  refine Met.ofW (cc := cX3_moves) (maxL := 1) (ret := (some .int)) (by decide) rfl ?_
  intro p e s m args below meth c s₁ B hml hv
  obtain ⟨rfl, hsz, hP, hK, hD0, hZ⟩ := hv
  have hx := B.exec
  have hb := B.bytes
  have hr := B.returns
  have hts0 := atoms_spec (ws := wsX3_moves) B.pre
  have hts : ∀ w ∈ wsAll, w.before _ s = true := fun w h => hts0 w (List.mem_cons_of_mem _ h)
  have hown : s.vm.findClass RX3 = some m.cls := findClass_of_methodNamed B.named
  have hlocks := B.notSynchronized
  subst hsz
  have hD := hD0.self (sz := s.heap.size)
  obtain ⟨A, hAe⟩ : ∃ A, A = va_A (mdW b cB w h cd wn mn kn ik so ks rs lf K) s.heap.size := ⟨_, rfl⟩
  rw [← hAe] at hD hZ
  have hA : ∀ q : Nat, s.heap.size ≤ q → A q := fun q h => by rw [hAe]; exact Or.inr h
  have hS : va_S A s.heap s.heap [] := va_S.rf
  have hP : va_P (dC, dI) vwCl (mdW b cB w h cd wn mn kn ik so ks rs lf K) s.heap := hP
  have hl := lv_entry ([.ref (b 0)]) (n := 1) (Nat.le_of_ble_eq_true rfl)
  rw [lg_entry_eq]
  generalize (lg_sl ([.ref (b 0)]) ++ List.replicate (1 - (lg_sl ([.ref (b 0)])).length) Slot.unset).toArray = ls at hl ⊢
  have hl : lv_has ls 1 [(0, .ref (b 0))] := hl
  refine lv_aload_n hx hb dX3_moves_0 rfl (lv_at hl 0 rfl) ?_
  refine lv_iconst (v := iI 0) hx hb dX3_moves_1 rfl ?_
  refine va_put (D := (dC, dI)) (ci := 3) (v := .int (iI 0)) (ty := .int) (C := RX3) (T := TX3) (N := 18) hx hb hts inX3 tyX3 tyX3_ok nmX3 hown hK hP hD hS 0 rfl rfl 0 (by decide) (hts _ wm_403) (fun _ h9 => h9) rfl (by decide +kernel) rfl rfl (Nat.le_of_ble_eq_true rfl) dX3_moves_2 (fun H locs hP hD hS => ?_)
  have hP : va_P (dC, dI) vwCl (mdW b cB w h 0 wn mn kn ik so ks rs lf K) H := hP
  have hD : va_D A (mdW b cB w h 0 wn mn kn ik so ks rs lf K) := hD
  refine lv_aload_n hx hb dX3_moves_5 rfl (lv_at hl 0 rfl) ?_
  refine va_get (D := (dC, dI)) (ci := 3) (v := .int (iI K.2.2.1)) (C := RX3) (T := TX3) (N := 18) hx hb hts inX3 hown hK hP 0 rfl rfl 12 (by decide) (hts _ wm_415) (fun _ h9 => h9) rfl dX3_moves_6 ?_
  subst hAe
  exact z_iret hx hb hr hlocks hP hK hD hS (trivial) dX3_moves_9
abbrev r_X3_way : Room := { frames := 0, cells := 0, slots := 0, locals := 0 }
set_option maxHeartbeats 4000000 in
set_option maxRecDepth 100000 in
theorem c_X3_way (l : Launch) (dC : Nat → ClassId) (dI : Nat → Nat → Nat) (sz : Nat) (b : Nat → Nat) (cB : Nat → ClassId) (w h : Nat) (cd : Int) (wn mn kn : Nat → Int) (ik so : Int) (ks rs lf : Nat → Int) (K : MK) : Met l yX3_way wsX3_way r_X3_way (zP (dC, dI) vwCl (mdT cB) (mdW b cB w h cd wn mn kn ik so ks rs lf K) sz [.ref (b 0)]) (zQl (dC, dI) vwCl (mdT cB) (mdW b cB w h cd wn mn kn ik so ks rs lf K) sz (True) K.2.2.2.1 (mdW b cB w h 0 wn mn kn ik so ks rs lf K)) 0 0 (va_A (mdW b cB w h cd wn mn kn ik so ks rs lf K) sz) := by
  refine Met.ofW (cc := cX3_way) (maxL := 1) (ret := (some .long)) (by decide) rfl ?_
  intro p e s m args below meth c s₁ B hml hv
  obtain ⟨rfl, hsz, hP, hK, hD0, hZ⟩ := hv
  have hx := B.exec
  have hb := B.bytes
  have hr := B.returns
  have hts0 := atoms_spec (ws := wsX3_way) B.pre
  have hts : ∀ w ∈ wsAll, w.before _ s = true := fun w h => hts0 w (List.mem_cons_of_mem _ h)
  have hown : s.vm.findClass RX3 = some m.cls := findClass_of_methodNamed B.named
  have hlocks := B.notSynchronized
  subst hsz
  have hD := hD0.self (sz := s.heap.size)
  obtain ⟨A, hAe⟩ : ∃ A, A = va_A (mdW b cB w h cd wn mn kn ik so ks rs lf K) s.heap.size := ⟨_, rfl⟩
  rw [← hAe] at hD hZ
  have hA : ∀ q : Nat, s.heap.size ≤ q → A q := fun q h => by rw [hAe]; exact Or.inr h
  have hS : va_S A s.heap s.heap [] := va_S.rf
  have hP : va_P (dC, dI) vwCl (mdW b cB w h cd wn mn kn ik so ks rs lf K) s.heap := hP
  have hl := lv_entry ([.ref (b 0)]) (n := 1) (Nat.le_of_ble_eq_true rfl)
  rw [lg_entry_eq]
  generalize (lg_sl ([.ref (b 0)]) ++ List.replicate (1 - (lg_sl ([.ref (b 0)])).length) Slot.unset).toArray = ls at hl ⊢
  have hl : lv_has ls 1 [(0, .ref (b 0))] := hl
  refine lv_aload_n hx hb dX3_way_0 rfl (lv_at hl 0 rfl) ?_
  refine lv_iconst (v := iI 0) hx hb dX3_way_1 rfl ?_
  refine va_put (D := (dC, dI)) (ci := 3) (v := .int (iI 0)) (ty := .int) (C := RX3) (T := TX3) (N := 18) hx hb hts inX3 tyX3 tyX3_ok nmX3 hown hK hP hD hS 0 rfl rfl 0 (by decide) (hts _ wm_403) (fun _ h9 => h9) rfl (by decide +kernel) rfl rfl (Nat.le_of_ble_eq_true rfl) dX3_way_2 (fun H locs hP hD hS => ?_)
  have hP : va_P (dC, dI) vwCl (mdW b cB w h 0 wn mn kn ik so ks rs lf K) H := hP
  have hD : va_D A (mdW b cB w h 0 wn mn kn ik so ks rs lf K) := hD
  refine lv_aload_n hx hb dX3_way_5 rfl (lv_at hl 0 rfl) ?_
  refine va_get (D := (dC, dI)) (ci := 3) (v := .long (lI K.2.2.2.1)) (C := RX3) (T := TX3) (N := 18) hx hb hts inX3 hown hK hP 0 rfl rfl 14 (by decide) (hts _ wm_417) (fun _ h9 => h9) rfl dX3_way_6 ?_
  subst hAe
  exact z_lret hx hb hr hlocks hP hK hD hS (trivial) dX3_way_9
abbrev r_X3_move : Room := { frames := 1, cells := 0, slots := 0, locals := 22 }
set_option maxHeartbeats 4000000 in
set_option maxRecDepth 100000 in
theorem c_X3_move (l : Launch) (dC : Nat → ClassId) (dI : Nat → Nat → Nat) (sz : Nat) (b : Nat → Nat) (cB : Nat → ClassId) (w h : Nat) (cd : Int) (wn mn kn : Nat → Int) (ik so : Int) (ks rs lf : Nat → Int) (K : MK) (k u : Int) (h1 : rg k) (h2 : rg u) (hK0 : mkOK K 1000000) : Met l yX3_move wsX3_move r_X3_move (zP (dC, dI) vwCl (mdT cB) (mdW b cB w h cd wn mn kn ik so ks rs lf K) sz [.ref (b 0), .int (iI k), .int (iI u)]) (zQi (dC, dI) vwCl (mdT cB) (mdW b cB w h cd wn mn kn ik so ks rs lf K) sz (True) (if cod2 (if 0 ≤ k ∧ k < K.2.2.1 ∧ k < 2000 then 1 else 0) (isW u 0 2) ≤ 0 then K.2.1 (3 * k + u).toNat else 0) (mdW b cB w h (cod2 (if 0 ≤ k ∧ k < K.2.2.1 ∧ k < 2000 then 1 else 0) (isW u 0 2)) wn mn kn ik so ks rs lf K)) 0 0 (va_A (mdW b cB w h cd wn mn kn ik so ks rs lf K) sz) := by
  refine Met.ofW (cc := cX3_move) (maxL := 3) (ret := (some .int)) (by decide) rfl ?_
  intro p e s m args below meth c s₁ B hml hv
  obtain ⟨rfl, hsz, hP, hK, hD0, hZ⟩ := hv
  have hx := B.exec
  have hb := B.bytes
  have hr := B.returns
  have hts0 := atoms_spec (ws := wsX3_move) B.pre
  have hts : ∀ w ∈ wsAll, w.before _ s = true := fun w h => hts0 w (List.mem_cons_of_mem _ h)
  have hown : s.vm.findClass RX3 = some m.cls := findClass_of_methodNamed B.named
  have hlocks := B.notSynchronized
  subst hsz
  have hD := hD0.self (sz := s.heap.size)
  obtain ⟨A, hAe⟩ : ∃ A, A = va_A (mdW b cB w h cd wn mn kn ik so ks rs lf K) s.heap.size := ⟨_, rfl⟩
  rw [← hAe] at hD hZ
  have hA : ∀ q : Nat, s.heap.size ≤ q → A q := fun q h => by rw [hAe]; exact Or.inr h
  have hS : va_S A s.heap s.heap [] := va_S.rf
  have hP : va_P (dC, dI) vwCl (mdW b cB w h cd wn mn kn ik so ks rs lf K) s.heap := hP
  have hl := lv_entry ([.ref (b 0), .int (iI k), .int (iI u)]) (n := 3) (Nat.le_of_ble_eq_true rfl)
  rw [lg_entry_eq]
  generalize (lg_sl ([.ref (b 0), .int (iI k), .int (iI u)]) ++ List.replicate (3 - (lg_sl ([.ref (b 0), .int (iI k), .int (iI u)])).length) Slot.unset).toArray = ls at hl ⊢
  have hl : lv_has ls 3 [(0, .ref (b 0)), (1, .int (iI k)), (2, .int (iI u))] := hl
  have hk9 := hK0.1
  refine lv_aload_n hx hb dX3_move_0 rfl (lv_at hl 0 rfl) ?_
  refine lv_iload_n hx hb dX3_move_1 rfl (lv_at hl 1 rfl) ?_
  refine z_joinH (D := (dC, dI)) (cl := vwCl) (A := A) (ws := mdW b cB w h cd wn mn kn ik so ks rs lf K) (g0 := F0 m 38 ls [.int (iI (cod2 (if 0 ≤ k ∧ k < K.2.2.1 ∧ k < 2000 then 1 else 0) (isW u 0 2))), .ref (b 0)]) (fun H locs hP hD hS => ?_) (fun J38 => ?_)
  · refine va_put (D := (dC, dI)) (ci := 3) (v := .int (iI (cod2 (if 0 ≤ k ∧ k < K.2.2.1 ∧ k < 2000 then 1 else 0) (isW u 0 2)))) (ty := .int) (C := RX3) (T := TX3) (N := 18) hx hb hts inX3 tyX3 tyX3_ok nmX3 hown hK hP hD hS 0 rfl rfl 0 (by decide) (hts _ wm_403) (fun _ h9 => h9) rfl (by decide +kernel) rfl rfl (Nat.le_of_ble_eq_true rfl) dX3_move_38 (fun H locs hP hD hS => ?_)
    have hP : va_P (dC, dI) vwCl (mdW b cB w h (cod2 (if 0 ≤ k ∧ k < K.2.2.1 ∧ k < 2000 then 1 else 0) (isW u 0 2)) wn mn kn ik so ks rs lf K) H := hP
    have hD : va_D A (mdW b cB w h (cod2 (if 0 ≤ k ∧ k < K.2.2.1 ∧ k < 2000 then 1 else 0) (isW u 0 2)) wn mn kn ik so ks rs lf K) := hD
    refine lv_aload_n hx hb dX3_move_41 rfl (lv_at hl 0 rfl) ?_
    refine va_get (D := (dC, dI)) (ci := 3) (v := .int (iI (cod2 (if 0 ≤ k ∧ k < K.2.2.1 ∧ k < 2000 then 1 else 0) (isW u 0 2)))) (C := RX3) (T := TX3) (N := 18) hx hb hts inX3 hown hK hP 0 rfl rfl 0 (by decide) (hts _ wm_403) (fun _ h9 => h9) rfl dX3_move_42 ?_
    have hcr := cod2_rg (if 0 ≤ k ∧ k < K.2.2.1 ∧ k < 2000 then 1 else 0) (isW u 0 2)
    refine z_if_le (tgt := 52) hx hb dX3_move_45 (by decide) (by omega) (fun c45 => ?_) (fun c45 => ?_)
    · have hok := cod2_ok c45
      have hu2 := isW_t.mp hok.2
      have hkk : 0 ≤ k ∧ k < K.2.2.1 ∧ k < 2000 := by
        have h9 := hok.1
        split at h9 <;> first | assumption | (exfalso; omega)
      refine lv_aload_n hx hb dX3_move_52 rfl (lv_at hl 0 rfl) ?_
      refine va_get (D := (dC, dI)) (ci := 3) (v := .ref (b 8)) (C := RX3) (T := TX3) (N := 18) hx hb hts inX3 hown hK hP 0 rfl rfl 13 (by decide) (hts _ wm_416) (fun _ h9 => h9) rfl dX3_move_53 ?_
      refine lv_iconst (v := iI 3) hx hb dX3_move_56 rfl ?_
      refine lv_iload_n hx hb dX3_move_57 rfl (lv_at hl 1 rfl) ?_
      refine z_mul hx hb dX3_move_58 ?_
      refine lv_iload_n hx hb dX3_move_59 rfl (lv_at hl 2 rfl) ?_
      refine z_add hx hb dX3_move_60 ?_
      refine z_iald (f := K.2.1) (i := (3 * k) + u) hx hb hK hP 8 7 rfl rfl (by omega) (by decide) dX3_move_61 ?_
      subst hAe
      refine z_top (b := if cod2 (if 0 ≤ k ∧ k < K.2.2.1 ∧ k < 2000 then 1 else 0) (isW u 0 2) ≤ 0 then K.2.1 (3 * k + u).toNat else 0) (by first | rw [if_pos (by omega)] | rw [if_neg (by omega)]) ?_
      exact z_iret hx hb hr hlocks hP hK hD hS (trivial) dX3_move_62
    · refine lv_iconst (v := iI 0) hx hb dX3_move_48 rfl ?_
      refine lv_goto (tgt := 62) hx hb dX3_move_49 (by decide) ?_
      subst hAe
      refine z_top (b := if cod2 (if 0 ≤ k ∧ k < K.2.2.1 ∧ k < 2000 then 1 else 0) (isW u 0 2) ≤ 0 then K.2.1 (3 * k + u).toNat else 0) (by first | rw [if_pos (by omega)] | rw [if_neg (by omega)]) ?_
      exact z_iret hx hb hr hlocks hP hK hD hS (trivial) dX3_move_62
  · refine z_if_lt (tgt := 20) hx hb dX3_move_2 (by decide) (by omega) (fun c2 => ?_) (fun c2 => ?_)
    · refine lv_iconst (v := iI 1) hx hb dX3_move_20 rfl ?_
      refine lv_goto (tgt := 38) hx hb dX3_move_21 (by decide) ?_
      exact z_top (b := cod2 (if 0 ≤ k ∧ k < K.2.2.1 ∧ k < 2000 then 1 else 0) (isW u 0 2)) (by unfold cod2; (repeat' split) <;> omega) (J38 _ _ hP hD hS)
    · refine lv_iload_n hx hb dX3_move_5 rfl (lv_at hl 1 rfl) ?_
      refine lv_aload_n hx hb dX3_move_6 rfl (lv_at hl 0 rfl) ?_
      refine va_get (D := (dC, dI)) (ci := 3) (v := .int (iI K.2.2.1)) (C := RX3) (T := TX3) (N := 18) hx hb hts inX3 hown hK hP 0 rfl rfl 12 (by decide) (hts _ wm_415) (fun _ h9 => h9) rfl dX3_move_7 ?_
      refine z_icmp_ge (tgt := 20) hx hb dX3_move_10 (by decide) (by omega) (by omega) (fun c10 => ?_) (fun c10 => ?_)
      · refine lv_iconst (v := iI 1) hx hb dX3_move_20 rfl ?_
        refine lv_goto (tgt := 38) hx hb dX3_move_21 (by decide) ?_
        exact z_top (b := cod2 (if 0 ≤ k ∧ k < K.2.2.1 ∧ k < 2000 then 1 else 0) (isW u 0 2)) (by unfold cod2; (repeat' split) <;> omega) (J38 _ _ hP hD hS)
      · refine lv_iload_n hx hb dX3_move_13 rfl (lv_at hl 1 rfl) ?_
        refine lv_sipush (v := iI 2000) hx hb dX3_move_14 (by decide) ?_
        refine z_icmp_lt (tgt := 24) hx hb dX3_move_17 (by decide) (by omega) (by omega) (fun c17 => ?_) (fun c17 => ?_)
        · refine lv_iload_n hx hb dX3_move_24 rfl (lv_at hl 2 rfl) ?_
          refine lv_iconst (v := iI 0) hx hb dX3_move_25 rfl ?_
          refine lv_iconst (v := iI 2) hx hb dX3_move_26 rfl ?_
          refine z_rcalli (va_runS (As := [.int (iI u), .int (iI 0), .int (iI 2)]) (rest := [.ref (b 0)]) ⟨hx, hb, hml, hown, hts⟩ (c_X3_isIn l dC dI (s.heap).size u 0 2 (by omega) (by omega) (by omega)) (va_cwS 3 hts g_X3_55 rfl rfl rfl (by decide +kernel) ⟨Nat.le_of_ble_eq_true rfl, Nat.le_of_ble_eq_true rfl⟩) (zP_S z_P0 (hK.sub [] rfl) z_D0 hS (z_free0 hS hA) hZ) rfl rfl hl.1 rfl (lv_room (Nat.le_of_ble_eq_true rfl)) dX3_move_27 ⟨Nat.le_of_ble_eq_true rfl, Nat.le_of_ble_eq_true rfl⟩) hP hD hS (z_free0 hS hA) (fun _ h => by cases h) (fun H locs _ hP hD hS _ => ?_)
          refine z_if_eq (tgt := 37) hx hb dX3_move_30 (by decide) (isW_rg _ _ _) (fun c30 => ?_) (fun c30 => ?_)
          · refine lv_iconst (v := iI 2) hx hb dX3_move_37 rfl ?_
            exact z_top (b := cod2 (if 0 ≤ k ∧ k < K.2.2.1 ∧ k < 2000 then 1 else 0) (isW u 0 2)) (by unfold cod2; (repeat' split) <;> omega) (J38 _ _ hP hD hS)
          · refine lv_iconst (v := iI 0) hx hb dX3_move_33 rfl ?_
            refine lv_goto (tgt := 38) hx hb dX3_move_34 (by decide) ?_
            exact z_top (b := cod2 (if 0 ≤ k ∧ k < K.2.2.1 ∧ k < 2000 then 1 else 0) (isW u 0 2)) (by unfold cod2; (repeat' split) <;> omega) (J38 _ _ hP hD hS)
        · refine lv_iconst (v := iI 1) hx hb dX3_move_20 rfl ?_
          refine lv_goto (tgt := 38) hx hb dX3_move_21 (by decide) ?_
          exact z_top (b := cod2 (if 0 ≤ k ∧ k < K.2.2.1 ∧ k < 2000 then 1 else 0) (isW u 0 2)) (by unfold cod2; (repeat' split) <;> omega) (J38 _ _ hP hD hS)
