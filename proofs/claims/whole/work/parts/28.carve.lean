abbrev r_X2_carve : Room := { frames := 2, cells := 0, slots := 0, locals := 44 }
set_option maxHeartbeats 4000000 in
set_option maxRecDepth 100000 in
theorem lp_X2_carve_65 {p : Program} {l : Launch} {e : Env} {s : State} {m : MethodId} {args : Array Value} {below : List Frame} {meth : Method} {c : Code} {Q : State → Prop} {A : Nat → Prop} {dC : Nat → ClassId} {dI : Nat → Nat → Nat} (a : Nat → Nat) (cA : Nat → ClassId) (w h : Nat) (wa ma ka li : Nat → Int) (hk sh : Int) (T : TK) (kd rd : Nat → Int) (dp : Nat → Nat → Int) (j : Nat) (x y z u v : Int) (hx : p.tables.exec = Jvm.exec) (hb : c.code = cX2_carve) (hml : c.maxLocals = 11) (hown : s.vm.findClass RX2 = some m.cls) (hts : ∀ w ∈ wsAll, w.before args s = true) (hA : ∀ q : Nat, s.heap.size ≤ q → A q) (hZ : zZ A s s.heap) (hK : va_K (dC, dI) vwCl (rpT cA) s) (hw : 1 ≤ w ∧ w ≤ 20) (hh : 1 ≤ h ∧ h ≤ 20) (hj : j < 4) (hrd : 0 ≤ rd j ∧ rd j ≤ 5) (hx0 : 0 ≤ x ∧ x < (w : Int)) (hy0 : 0 ≤ y ∧ y < (h : Int)) (hdp : bd (dp j) (-1) 5) (hz : 0 ≤ z ∧ z ≤ 1000) (hma : bd ma 0 1000) (hu : 0 ≤ u ∧ u < (h : Int)) (kk : ∀ (H : Heap) (locs : List Loc) (ls : Array Slot), va_P (dC, dI) vwCl (rpW a cA w h wa (cvR w (dp j) (rd j) x y z u (nB w (rd j) x) ma) ka li hk sh T kd rd dp) H → va_D A (rpW a cA w h wa (cvR w (dp j) (rd j) x y z u (nB w (rd j) x) ma) ka li hk sh T kd rd dp) → va_S A s.heap H locs → lv_has ls 11 [(0, .ref (a 0)), (1, .ref (a (8 + j))), (2, .int (iI x)), (3, .int (iI y)), (4, .int (iI z)), (5, .int (iI (hiB w (rd j) x))), (6, .int (iI v)), (7, .int (iI u)), (8, .int (iI (loB (rd j) x + ((nB w (rd j) x : Nat) : Int))))] → W p l e r_X2_carve s m args below meth c H locs 0 0 Q (F0 m 135 ls [])) : ∀ (n i : Nat), i + n = nB w (rd j) x → ∀ (H : Heap) (locs : List Loc) (ls : Array Slot), va_P (dC, dI) vwCl (rpW a cA w h wa (cvR w (dp j) (rd j) x y z u i ma) ka li hk sh T kd rd dp) H → va_D A (rpW a cA w h wa (cvR w (dp j) (rd j) x y z u i ma) ka li hk sh T kd rd dp) → va_S A s.heap H locs → lv_has ls 11 [(0, .ref (a 0)), (1, .ref (a (8 + j))), (2, .int (iI x)), (3, .int (iI y)), (4, .int (iI z)), (5, .int (iI (hiB w (rd j) x))), (6, .int (iI v)), (7, .int (iI u)), (8, .int (iI (loB (rd j) x + ((i : Nat) : Int))))] → W p l e r_X2_carve s m args below meth c H locs 0 0 Q (F0 m 65 ls []) := by
  intro n
  induction n with
  | zero =>
    intro i hi H locs ls hP hD hS hl
    have hi9 : nB w (rd j) x = i := by omega
    subst hi9
    have hB := B_out (n := w) (r := rd j) (x := x) hx0.1 hx0.2 hrd.1
    refine lv_iload hx hb dX2_carve_65 (lv_at hl 8 rfl) ?_
    refine lv_iload hx hb dX2_carve_67 (lv_at hl 5 rfl) ?_
    refine z_icmp_gt (tgt := 135) hx hb dX2_carve_69 (by decide) (by omega) (by omega) (fun c69 => ?_) (fun c69 => by exfalso; omega)
    exact kk _ _ _ hP hD hS (lv_sub hl [0, 1, 2, 3, 4, 5, 6, 7, 8] rfl)
  | succ n ih =>
    intro i hi H locs ls hP hD hS hl
    have hB := B_in (n := w) (i := i) (r := rd j) (x := x) (by omega) hx0.1 hx0.2 hrd.1
    refine lv_iload hx hb dX2_carve_65 (lv_at hl 8 rfl) ?_
    refine lv_iload hx hb dX2_carve_67 (lv_at hl 5 rfl) ?_
    refine z_icmp_gt (tgt := 135) hx hb dX2_carve_69 (by decide) (by omega) (by omega) (fun c69 => by exfalso; omega) (fun c69 => ?_)
    refine lv_aload_n hx hb dX2_carve_72 rfl (lv_at hl 1 rfl) ?_
    refine lv_iload hx hb dX2_carve_73 (lv_at hl 8 rfl) ?_
    refine lv_iload_n hx hb dX2_carve_75 rfl (lv_at hl 2 rfl) ?_
    refine z_sub hx hb dX2_carve_76 ?_
    refine lv_iload hx hb dX2_carve_77 (lv_at hl 7 rfl) ?_
    refine lv_iload_n hx hb dX2_carve_79 rfl (lv_at hl 3 rfl) ?_
    refine z_sub hx hb dX2_carve_80 ?_
    have hdv := dOv_rg (dp := dp j) (r := rd j) (dx := loB (rd j) x + ((i : Nat) : Int) - x) (dy := u - y) hdp
    have hmb := cvR_rg (w := w) (r := rd j) (x := x) (y := y) (py := u) (n := i) hz.1 hdp hma (u * (w : Int) + (loB (rd j) x + ((i : Nat) : Int))).toNat
    have hix := z_ix (w := w) (h := h) hB.1 (by omega) hu.1 hu.2
    have hwh := z_wh hw.2 hh.2
    have hsub := rpW_sub (a := a) (cA := cA) (w := w) (h := h) (wa := wa) (ma := cvR w (dp j) (rd j) x y z u i ma) (ka := ka) (li := li) (hk := hk) (sh := sh) (T := T) (kd := kd) (rd := rd) (dp := dp) hj
    have hFc := z_freeR hsub hD hS hA
    refine z_rcalli (va_runV (As := [.int (iI ((loB (rd j) x + ((i : Nat) : Int)) - x)), .int (iI (u - y))]) (rest := []) ⟨hx, hb, hml, hown, hts⟩ (c_X0_depthOver l dC dI (H).size (a (8 + j)) (a (12 + j)) (cA (6 + j)) (kd j) (rd j) (dp j) ((loB (rd j) x + ((i : Nat) : Int)) - x) (u - y) (by omega) (by omega) hrd) (cwV 2 hts g_X2_98 rfl rfl rfl (by decide +kernel) ⟨Nat.le_of_ble_eq_true rfl, Nat.le_of_ble_eq_true rfl⟩) (zP_V (ci := 0) (q0 := 0) rfl rfl (z_subP hsub hP) (rpT_K hj hK) (rpW_DT hj hD) hS hFc hZ) rfl rfl hl.1 rfl (lv_room (Nat.le_of_ble_eq_true rfl)) dX2_carve_81 ⟨Nat.le_of_ble_eq_true rfl, Nat.le_of_ble_eq_true rfl⟩) hP hD hS hFc (hsub) (fun H locs _ hP hD hS _ => ?_)
    refine lv_istore (lv' := [(9, .int (iI (dOv (dp j) (rd j) ((loB (rd j) x + ((i : Nat) : Int)) - x) (u - y)))), (0, .ref (a 0)), (1, .ref (a (8 + j))), (2, .int (iI x)), (3, .int (iI y)), (4, .int (iI z)), (5, .int (iI (hiB w (rd j) x))), (6, .int (iI v)), (7, .int (iI u)), (8, .int (iI (loB (rd j) x + ((i : Nat) : Int))))]) hx hb dX2_carve_84 hl (by decide) rfl (fun ls hl => ?_)
    refine lv_aload_n hx hb dX2_carve_86 rfl (lv_at hl 1 rfl) ?_
    refine lv_iload hx hb dX2_carve_87 (lv_at hl 9 rfl) ?_
    refine lv_iload hx hb dX2_carve_89 (lv_at hl 8 rfl) ?_
    have hFc := z_freeR (wc := rpW a cA w h wa (cvR w (dp j) (rd j) x y z u i ma) ka li hk sh T kd rd dp) (fun _ h => h) hD hS hA
    refine z_wcalli (va_runV (As := [.int (iI (loB (rd j) x + ((i : Nat) : Int))), .int (iI u)]) (rest := []) ⟨hx, hb, hml, hown, hts⟩ (c_X2_placeAt l dC dI (H).size a cA w h wa (cvR w (dp j) (rd j) x y z u i ma) ka li hk sh T kd rd dp (loB (rd j) x + ((i : Nat) : Int)) u) (cwV 2 hts g_X2_68 rfl rfl rfl (by decide +kernel) ⟨Nat.le_of_ble_eq_true rfl, Nat.le_of_ble_eq_true rfl⟩) (zP_V (ci := 2) (q0 := 0) rfl rfl hP hK hD hS hFc hZ) rfl rfl hl.1 rfl (lv_room (Nat.le_of_ble_eq_true rfl)) dX2_carve_91 ⟨Nat.le_of_ble_eq_true rfl, Nat.le_of_ble_eq_true rfl⟩) hS hFc (fun H locs _ hP hD hS _ => ?_)
    have hP : va_P (dC, dI) vwCl (rpW a cA w h wa (cvR w (dp j) (rd j) x y z u i ma) ka li hk sh T kd rd dp) H := hP
    have hD : va_D A (rpW a cA w h wa (cvR w (dp j) (rd j) x y z u i ma) ka li hk sh T kd rd dp) := hD
    refine lv_istore (lv' := [(10, .int (iI (u * (w : Int) + (loB (rd j) x + ((i : Nat) : Int))))), (9, .int (iI (dOv (dp j) (rd j) ((loB (rd j) x + ((i : Nat) : Int)) - x) (u - y)))), (0, .ref (a 0)), (1, .ref (a (8 + j))), (2, .int (iI x)), (3, .int (iI y)), (4, .int (iI z)), (5, .int (iI (hiB w (rd j) x))), (6, .int (iI v)), (7, .int (iI u)), (8, .int (iI (loB (rd j) x + ((i : Nat) : Int))))]) hx hb dX2_carve_94 hl (by decide) rfl (fun ls hl => ?_)
    refine lv_iload hx hb dX2_carve_96 (lv_at hl 1 rfl) ?_
    refine lv_iconst (v := iI (-1)) hx hb dX2_carve_98 rfl ?_
    refine z_icmp_eq (tgt := 129) hx hb dX2_carve_99 (by decide) (by omega) (by omega) (fun c99 => ?_) (fun c99 => ?_)
    · refine lv_iinc (v := iI (loB (rd j) x + (((i + 1) : Nat) : Int))) (lv' := [(8, .int (iI (loB (rd j) x + (((i + 1) : Nat) : Int)))), (10, .int (iI (u * (w : Int) + (loB (rd j) x + ((i : Nat) : Int))))), (9, .int (iI (dOv (dp j) (rd j) ((loB (rd j) x + ((i : Nat) : Int)) - x) (u - y)))), (0, .ref (a 0)), (1, .ref (a (8 + j))), (2, .int (iI x)), (3, .int (iI y)), (4, .int (iI z)), (5, .int (iI (hiB w (rd j) x))), (6, .int (iI v)), (7, .int (iI u))]) hx hb dX2_carve_129 hl (k := 10) rfl ((iI_add _ _).trans (congrArg iI (by omega))) (by decide) rfl (fun ls hl => ?_)
      refine lv_goto (tgt := 65) hx hb dX2_carve_132 (by decide) ?_
      have eg : cvR w (dp j) (rd j) x y z u (i + 1) ma = cvR w (dp j) (rd j) x y z u i ma := by
        show cvS w (dp j) (rd j) x y z (loB (rd j) x + ((i : Nat) : Int)) u (cvR w (dp j) (rd j) x y z u i ma) = _
        unfold cvS
        (repeat' split) <;> first | rfl | (exfalso; omega)
      exact ih (i + 1) (by omega) _ _ _ (by rw [eg]; exact hP) (by rw [eg]; exact hD) hS (lv_sub hl [3, 4, 5, 6, 7, 8, 9, 10, 0] rfl)
    · refine lv_iload hx hb dX2_carve_102 (lv_at hl 6 rfl) ?_
      refine lv_iload hx hb dX2_carve_104 (lv_at hl 1 rfl) ?_
      refine z_add hx hb dX2_carve_106 ?_
      refine lv_aload_n hx hb dX2_carve_107 rfl (lv_at hl 2 rfl) ?_
      refine va_get (D := (dC, dI)) (ci := 2) (v := .ref (a 2)) (C := RX2) (T := TX2) (N := 10) hx hb hts inX2 hown hK hP 0 rfl rfl 3 (by decide) (hts _ wm_174) (fun _ h9 => h9) rfl dX2_carve_108 ?_
      refine lv_iload hx hb dX2_carve_111 (lv_at hl 0 rfl) ?_
      refine z_iald (f := cvR w (dp j) (rd j) x y z u i ma) (i := u * (w : Int) + (loB (rd j) x + ((i : Nat) : Int))) hx hb hK hP 2 1 rfl rfl (hix) (by omega) dX2_carve_113 ?_
      refine z_icmp_ge (tgt := 129) hx hb dX2_carve_114 (by decide) (by omega) (by omega) (fun c114 => ?_) (fun c114 => ?_)
      · refine lv_iinc (v := iI (loB (rd j) x + (((i + 1) : Nat) : Int))) (lv' := [(8, .int (iI (loB (rd j) x + (((i + 1) : Nat) : Int)))), (10, .int (iI (u * (w : Int) + (loB (rd j) x + ((i : Nat) : Int))))), (9, .int (iI (dOv (dp j) (rd j) ((loB (rd j) x + ((i : Nat) : Int)) - x) (u - y)))), (0, .ref (a 0)), (1, .ref (a (8 + j))), (2, .int (iI x)), (3, .int (iI y)), (4, .int (iI z)), (5, .int (iI (hiB w (rd j) x))), (6, .int (iI v)), (7, .int (iI u))]) hx hb dX2_carve_129 hl (k := 10) rfl ((iI_add _ _).trans (congrArg iI (by omega))) (by decide) rfl (fun ls hl => ?_)
        refine lv_goto (tgt := 65) hx hb dX2_carve_132 (by decide) ?_
        have eg : cvR w (dp j) (rd j) x y z u (i + 1) ma = cvR w (dp j) (rd j) x y z u i ma := by
          show cvS w (dp j) (rd j) x y z (loB (rd j) x + ((i : Nat) : Int)) u (cvR w (dp j) (rd j) x y z u i ma) = _
          unfold cvS
          (repeat' split) <;> first | rfl | (exfalso; omega)
        exact ih (i + 1) (by omega) _ _ _ (by rw [eg]; exact hP) (by rw [eg]; exact hD) hS (lv_sub hl [3, 4, 5, 6, 7, 8, 9, 10, 0] rfl)
      · refine lv_aload_n hx hb dX2_carve_117 rfl (lv_at hl 2 rfl) ?_
        refine va_get (D := (dC, dI)) (ci := 2) (v := .ref (a 2)) (C := RX2) (T := TX2) (N := 10) hx hb hts inX2 hown hK hP 0 rfl rfl 3 (by decide) (hts _ wm_174) (fun _ h9 => h9) rfl dX2_carve_118 ?_
        refine lv_iload hx hb dX2_carve_121 (lv_at hl 0 rfl) ?_
        refine lv_iload hx hb dX2_carve_123 (lv_at hl 6 rfl) ?_
        refine lv_iload hx hb dX2_carve_125 (lv_at hl 1 rfl) ?_
        refine z_add hx hb dX2_carve_127 ?_
        refine z_iast (f := cvR w (dp j) (rd j) x y z u i ma) (i := u * (w : Int) + (loB (rd j) x + ((i : Nat) : Int))) (x := z + (dOv (dp j) (rd j) ((loB (rd j) x + ((i : Nat) : Int)) - x) (u - y))) hx hb hK hP hD hS 2 1 rfl rfl (hix) (by omega) dX2_carve_128 (fun H locs hP hD hS => ?_)
        have hP : va_P (dC, dI) vwCl (rpW a cA w h wa (uI (cvR w (dp j) (rd j) x y z u i ma) (u * (w : Int) + (loB (rd j) x + ((i : Nat) : Int))).toNat (z + (dOv (dp j) (rd j) ((loB (rd j) x + ((i : Nat) : Int)) - x) (u - y)))) ka li hk sh T kd rd dp) H := hP
        have hD : va_D A (rpW a cA w h wa (uI (cvR w (dp j) (rd j) x y z u i ma) (u * (w : Int) + (loB (rd j) x + ((i : Nat) : Int))).toNat (z + (dOv (dp j) (rd j) ((loB (rd j) x + ((i : Nat) : Int)) - x) (u - y)))) ka li hk sh T kd rd dp) := hD
        refine lv_iinc (v := iI (loB (rd j) x + (((i + 1) : Nat) : Int))) (lv' := [(8, .int (iI (loB (rd j) x + (((i + 1) : Nat) : Int)))), (10, .int (iI (u * (w : Int) + (loB (rd j) x + ((i : Nat) : Int))))), (9, .int (iI (dOv (dp j) (rd j) ((loB (rd j) x + ((i : Nat) : Int)) - x) (u - y)))), (0, .ref (a 0)), (1, .ref (a (8 + j))), (2, .int (iI x)), (3, .int (iI y)), (4, .int (iI z)), (5, .int (iI (hiB w (rd j) x))), (6, .int (iI v)), (7, .int (iI u))]) hx hb dX2_carve_129 hl (k := 10) rfl ((iI_add _ _).trans (congrArg iI (by omega))) (by decide) rfl (fun ls hl => ?_)
        refine lv_goto (tgt := 65) hx hb dX2_carve_132 (by decide) ?_
        have eg : cvR w (dp j) (rd j) x y z u (i + 1) ma = uI (cvR w (dp j) (rd j) x y z u i ma) (u * (w : Int) + (loB (rd j) x + ((i : Nat) : Int))).toNat (z + (dOv (dp j) (rd j) ((loB (rd j) x + ((i : Nat) : Int)) - x) (u - y))) := by
          show cvS w (dp j) (rd j) x y z (loB (rd j) x + ((i : Nat) : Int)) u (cvR w (dp j) (rd j) x y z u i ma) = _
          unfold cvS
          (repeat' split) <;> first | rfl | (exfalso; omega)
        exact ih (i + 1) (by omega) _ _ _ (by rw [eg]; exact hP) (by rw [eg]; exact hD) hS (lv_sub hl [3, 4, 5, 6, 7, 8, 9, 10, 0] rfl)
set_option maxHeartbeats 4000000 in
set_option maxRecDepth 100000 in
theorem lp_X2_carve_46 {p : Program} {l : Launch} {e : Env} {s : State} {m : MethodId} {args : Array Value} {below : List Frame} {meth : Method} {c : Code} {Q : State → Prop} {A : Nat → Prop} {dC : Nat → ClassId} {dI : Nat → Nat → Nat} (a : Nat → Nat) (cA : Nat → ClassId) (w h : Nat) (wa ma ka li : Nat → Int) (hk sh : Int) (T : TK) (kd rd : Nat → Int) (dp : Nat → Nat → Int) (j : Nat) (x y z : Int) (hx : p.tables.exec = Jvm.exec) (hb : c.code = cX2_carve) (hml : c.maxLocals = 11) (hown : s.vm.findClass RX2 = some m.cls) (hts : ∀ w ∈ wsAll, w.before args s = true) (hA : ∀ q : Nat, s.heap.size ≤ q → A q) (hZ : zZ A s s.heap) (hK : va_K (dC, dI) vwCl (rpT cA) s) (hw : 1 ≤ w ∧ w ≤ 20) (hh : 1 ≤ h ∧ h ≤ 20) (hj : j < 4) (hrd : 0 ≤ rd j ∧ rd j ≤ 5) (hx0 : 0 ≤ x ∧ x < (w : Int)) (hy0 : 0 ≤ y ∧ y < (h : Int)) (hdp : bd (dp j) (-1) 5) (hz : 0 ≤ z ∧ z ≤ 1000) (hma : bd ma 0 1000) (kk : ∀ (H : Heap) (locs : List Loc) (ls : Array Slot), va_P (dC, dI) vwCl (rpW a cA w h wa (cvF w h (dp j) (rd j) x y z (nB h (rd j) y) ma) ka li hk sh T kd rd dp) H → va_D A (rpW a cA w h wa (cvF w h (dp j) (rd j) x y z (nB h (rd j) y) ma) ka li hk sh T kd rd dp) → va_S A s.heap H locs → lv_has ls 11 [(0, .ref (a 0)), (1, .ref (a (8 + j))), (2, .int (iI x)), (3, .int (iI y)), (4, .int (iI z)), (5, .int (iI (hiB w (rd j) x))), (6, .int (iI (hiB h (rd j) y))), (7, .int (iI (loB (rd j) y + ((nB h (rd j) y : Nat) : Int))))] → W p l e r_X2_carve s m args below meth c H locs 0 0 Q (F0 m 141 ls [])) : ∀ (n i : Nat), i + n = nB h (rd j) y → ∀ (H : Heap) (locs : List Loc) (ls : Array Slot), va_P (dC, dI) vwCl (rpW a cA w h wa (cvF w h (dp j) (rd j) x y z i ma) ka li hk sh T kd rd dp) H → va_D A (rpW a cA w h wa (cvF w h (dp j) (rd j) x y z i ma) ka li hk sh T kd rd dp) → va_S A s.heap H locs → lv_has ls 11 [(0, .ref (a 0)), (1, .ref (a (8 + j))), (2, .int (iI x)), (3, .int (iI y)), (4, .int (iI z)), (5, .int (iI (hiB w (rd j) x))), (6, .int (iI (hiB h (rd j) y))), (7, .int (iI (loB (rd j) y + ((i : Nat) : Int))))] → W p l e r_X2_carve s m args below meth c H locs 0 0 Q (F0 m 46 ls []) := by
  intro n
  induction n with
  | zero =>
    intro i hi H locs ls hP hD hS hl
    have hi9 : nB h (rd j) y = i := by omega
    subst hi9
    have hB := B_out (n := h) (r := rd j) (x := y) hy0.1 hy0.2 hrd.1
    refine lv_iload hx hb dX2_carve_46 (lv_at hl 7 rfl) ?_
    refine lv_iload hx hb dX2_carve_48 (lv_at hl 6 rfl) ?_
    refine z_icmp_gt (tgt := 141) hx hb dX2_carve_50 (by decide) (by omega) (by omega) (fun c50 => ?_) (fun c50 => by exfalso; omega)
    exact kk _ _ _ hP hD hS (lv_sub hl [0, 1, 2, 3, 4, 5, 6, 7] rfl)
  | succ n ih =>
    intro i hi H locs ls hP hD hS hl
    have hB := B_in (n := h) (i := i) (r := rd j) (x := y) (by omega) hy0.1 hy0.2 hrd.1
    refine lv_iload hx hb dX2_carve_46 (lv_at hl 7 rfl) ?_
    refine lv_iload hx hb dX2_carve_48 (lv_at hl 6 rfl) ?_
    refine z_icmp_gt (tgt := 141) hx hb dX2_carve_50 (by decide) (by omega) (by omega) (fun c50 => by exfalso; omega) (fun c50 => ?_)
    refine lv_iconst (v := iI 0) hx hb dX2_carve_53 rfl ?_
    refine lv_iload_n hx hb dX2_carve_54 rfl (lv_at hl 2 rfl) ?_
    refine lv_aload_n hx hb dX2_carve_55 rfl (lv_at hl 1 rfl) ?_
    refine va_getN (D := (dC, dI)) (ci := 0) (v := .int (iI (rd j))) (C := RX0) (T := TX0) (N := 3) hx hb hts inX0 hown hK hP (8 + j) (rpW_tool hj) rfl 1 (by decide) (va_Nw.use rfl (hZ.1 (.fieldLinkNest RX2 181 RX0 "radius" "I" RX2) (by decide +kernel))) (fun _ h9 => h9) rfl dX2_carve_56 ?_
    refine z_sub hx hb dX2_carve_59 ?_
    refine z_max hx hb (hml.trans hl.1.symm) hown (hts _ wm_127) (hts _ wm_128) (hts _ wm_110) (hts _ wm_129) (Nat.le_of_ble_eq_true rfl) (Nat.le_of_ble_eq_true rfl) (Nat.le_of_ble_eq_true rfl) (Nat.le_of_ble_eq_true rfl) dX2_carve_60 (by omega) (by omega) ?_
    refine z_top (b := loB (rd j) x + ((0 : Nat) : Int)) (by unfold loB; omega) ?_
    refine lv_istore (lv' := [(8, .int (iI (loB (rd j) x + ((0 : Nat) : Int)))), (0, .ref (a 0)), (1, .ref (a (8 + j))), (2, .int (iI x)), (3, .int (iI y)), (4, .int (iI z)), (5, .int (iI (hiB w (rd j) x))), (6, .int (iI (hiB h (rd j) y))), (7, .int (iI (loB (rd j) y + ((i : Nat) : Int))))]) hx hb dX2_carve_63 hl (by decide) rfl (fun ls hl => ?_)
    refine lp_X2_carve_65 a cA w h wa (cvF w h (dp j) (rd j) x y z i ma) ka li hk sh T kd rd dp j x y z (loB (rd j) y + ((i : Nat) : Int)) (hiB h (rd j) y) hx hb hml hown hts hA hZ hK (hw) (hh) (hj) (hrd) (hx0) (hy0) (hdp) (hz) (cvF_rg (h := h) hz.1 hdp hma) (⟨hB.1, by omega⟩) (fun H locs ls hP hD hS hl => ?_)  (nB w (rd j) x) 0 (by omega) _ _ _ hP hD hS (lv_sub hl [1, 2, 3, 4, 5, 6, 7, 8, 0] rfl)
    have hP : va_P (dC, dI) vwCl (rpW a cA w h wa (cvR w (dp j) (rd j) x y z (loB (rd j) y + ((i : Nat) : Int)) (nB w (rd j) x) (cvF w h (dp j) (rd j) x y z i ma)) ka li hk sh T kd rd dp) H := hP
    have hD : va_D A (rpW a cA w h wa (cvR w (dp j) (rd j) x y z (loB (rd j) y + ((i : Nat) : Int)) (nB w (rd j) x) (cvF w h (dp j) (rd j) x y z i ma)) ka li hk sh T kd rd dp) := hD
    have hl : lv_has ls 11 [(0, .ref (a 0)), (1, .ref (a (8 + j))), (2, .int (iI x)), (3, .int (iI y)), (4, .int (iI z)), (5, .int (iI (hiB w (rd j) x))), (6, .int (iI (hiB h (rd j) y))), (7, .int (iI (loB (rd j) y + ((i : Nat) : Int)))), (8, .int (iI (loB (rd j) x + ((nB w (rd j) x : Nat) : Int))))] := hl
    refine lv_iinc (v := iI (loB (rd j) y + (((i + 1) : Nat) : Int))) (lv' := [(7, .int (iI (loB (rd j) y + (((i + 1) : Nat) : Int)))), (0, .ref (a 0)), (1, .ref (a (8 + j))), (2, .int (iI x)), (3, .int (iI y)), (4, .int (iI z)), (5, .int (iI (hiB w (rd j) x))), (6, .int (iI (hiB h (rd j) y))), (8, .int (iI (loB (rd j) x + ((nB w (rd j) x : Nat) : Int))))]) hx hb dX2_carve_135 hl (k := 7) rfl ((iI_add _ _).trans (congrArg iI (by omega))) (by decide) rfl (fun ls hl => ?_)
    refine lv_goto (tgt := 46) hx hb dX2_carve_138 (by decide) ?_
    exact ih (i + 1) (by omega) _ _ _ hP hD hS (lv_sub hl [1, 2, 3, 4, 5, 6, 7, 0] rfl)
set_option maxHeartbeats 4000000 in
set_option maxRecDepth 100000 in
theorem c_X2_carve (l : Launch) (dC : Nat → ClassId) (dI : Nat → Nat → Nat) (sz : Nat) (a : Nat → Nat) (cA : Nat → ClassId) (w h : Nat) (wa ma ka li : Nat → Int) (hk sh : Int) (T : TK) (kd rd : Nat → Int) (dp : Nat → Nat → Int) (j : Nat) (x y z : Int) (hw : 1 ≤ w ∧ w ≤ 20) (hh : 1 ≤ h ∧ h ≤ 20) (hj : j < 4) (hrd : 0 ≤ rd j ∧ rd j ≤ 5) (hx0 : 0 ≤ x ∧ x < (w : Int)) (hy0 : 0 ≤ y ∧ y < (h : Int)) (hdp : bd (dp j) (-1) 5) (hz : 0 ≤ z ∧ z ≤ 1000) (hma : bd ma 0 1000) : Met l yX2_carve wsX2_carve r_X2_carve (zP (dC, dI) vwCl (rpT cA) (rpW a cA w h wa ma ka li hk sh T kd rd dp) sz [.ref (a 0), .ref (a (8 + j)), .int (iI x), .int (iI y), .int (iI z)]) (zQv (dC, dI) vwCl (rpT cA) (rpW a cA w h wa ma ka li hk sh T kd rd dp) sz (True) (rpW a cA w h wa (cvF w h (dp j) (rd j) x y z (nB h (rd j) y) ma) ka li hk sh T kd rd dp)) 0 0 (va_A (rpW a cA w h wa ma ka li hk sh T kd rd dp) sz) := by
  refine Met.ofW (cc := cX2_carve) (maxL := 11) (ret := none) (by decide) rfl ?_
  intro p e s m args below meth c s₁ B hml hv
  obtain ⟨rfl, hsz, hP, hK, hD0, hZ⟩ := hv
  have hx := B.exec
  have hb := B.bytes
  have hr := B.returns
  have hts0 := atoms_spec (ws := wsX2_carve) B.pre
  have hts : ∀ w ∈ wsAll, w.before _ s = true := fun w h => hts0 w (List.mem_cons_of_mem _ h)
  have hown : s.vm.findClass RX2 = some m.cls := findClass_of_methodNamed B.named
  have hlocks := B.notSynchronized
  subst hsz
  have hD := hD0.self (sz := s.heap.size)
  obtain ⟨A, hAe⟩ : ∃ A, A = va_A (rpW a cA w h wa ma ka li hk sh T kd rd dp) s.heap.size := ⟨_, rfl⟩
  rw [← hAe] at hD hZ
  have hA : ∀ q : Nat, s.heap.size ≤ q → A q := fun q h => by rw [hAe]; exact Or.inr h
  have hS : va_S A s.heap s.heap [] := va_S.rf
  have hP : va_P (dC, dI) vwCl (rpW a cA w h wa ma ka li hk sh T kd rd dp) s.heap := hP
  have hl := lv_entry ([.ref (a 0), .ref (a (8 + j)), .int (iI x), .int (iI y), .int (iI z)]) (n := 11) (Nat.le_of_ble_eq_true rfl)
  rw [lg_entry_eq]
  generalize (lg_sl ([.ref (a 0), .ref (a (8 + j)), .int (iI x), .int (iI y), .int (iI z)]) ++ List.replicate (11 - (lg_sl ([.ref (a 0), .ref (a (8 + j)), .int (iI x), .int (iI y), .int (iI z)])).length) Slot.unset).toArray = ls at hl ⊢
  have hl : lv_has ls 11 [(0, .ref (a 0)), (1, .ref (a (8 + j))), (2, .int (iI x)), (3, .int (iI y)), (4, .int (iI z))] := hl
  refine lv_aload_n hx hb dX2_carve_0 rfl (lv_at hl 0 rfl) ?_
  refine va_get (D := (dC, dI)) (ci := 2) (v := .int (iI (w : Int))) (C := RX2) (T := TX2) (N := 10) hx hb hts inX2 hown hK hP 0 rfl rfl 0 (by decide) (hts _ wm_171) (fun _ h9 => h9) rfl dX2_carve_1 ?_
  refine lv_iconst (v := iI 1) hx hb dX2_carve_4 rfl ?_
  refine z_sub hx hb dX2_carve_5 ?_
  refine lv_iload_n hx hb dX2_carve_6 rfl (lv_at hl 2 rfl) ?_
  refine lv_aload_n hx hb dX2_carve_7 rfl (lv_at hl 1 rfl) ?_
  refine va_getN (D := (dC, dI)) (ci := 0) (v := .int (iI (rd j))) (C := RX0) (T := TX0) (N := 3) hx hb hts inX0 hown hK hP (8 + j) (rpW_tool hj) rfl 1 (by decide) (va_Nw.use rfl (hZ.1 (.fieldLinkNest RX2 181 RX0 "radius" "I" RX2) (by decide +kernel))) (fun _ h9 => h9) rfl dX2_carve_8 ?_
  refine z_add hx hb dX2_carve_11 ?_
  refine z_min hx hb (hml.trans hl.1.symm) hown (hts _ wm_124) (hts _ wm_125) (hts _ wm_110) (hts _ wm_126) (Nat.le_of_ble_eq_true rfl) (Nat.le_of_ble_eq_true rfl) (Nat.le_of_ble_eq_true rfl) (Nat.le_of_ble_eq_true rfl) dX2_carve_12 (by omega) (by omega) ?_
  refine z_top (b := hiB w (rd j) x) (rfl) ?_
  refine lv_istore (lv' := [(5, .int (iI (hiB w (rd j) x))), (0, .ref (a 0)), (1, .ref (a (8 + j))), (2, .int (iI x)), (3, .int (iI y)), (4, .int (iI z))]) hx hb dX2_carve_15 hl (by decide) rfl (fun ls hl => ?_)
  refine lv_aload_n hx hb dX2_carve_17 rfl (lv_at hl 1 rfl) ?_
  refine va_get (D := (dC, dI)) (ci := 2) (v := .int (iI (h : Int))) (C := RX2) (T := TX2) (N := 10) hx hb hts inX2 hown hK hP 0 rfl rfl 1 (by decide) (hts _ wm_172) (fun _ h9 => h9) rfl dX2_carve_18 ?_
  refine lv_iconst (v := iI 1) hx hb dX2_carve_21 rfl ?_
  refine z_sub hx hb dX2_carve_22 ?_
  refine lv_iload_n hx hb dX2_carve_23 rfl (lv_at hl 4 rfl) ?_
  refine lv_aload_n hx hb dX2_carve_24 rfl (lv_at hl 2 rfl) ?_
  refine va_getN (D := (dC, dI)) (ci := 0) (v := .int (iI (rd j))) (C := RX0) (T := TX0) (N := 3) hx hb hts inX0 hown hK hP (8 + j) (rpW_tool hj) rfl 1 (by decide) (va_Nw.use rfl (hZ.1 (.fieldLinkNest RX2 181 RX0 "radius" "I" RX2) (by decide +kernel))) (fun _ h9 => h9) rfl dX2_carve_25 ?_
  refine z_add hx hb dX2_carve_28 ?_
  refine z_min hx hb (hml.trans hl.1.symm) hown (hts _ wm_124) (hts _ wm_125) (hts _ wm_110) (hts _ wm_126) (Nat.le_of_ble_eq_true rfl) (Nat.le_of_ble_eq_true rfl) (Nat.le_of_ble_eq_true rfl) (Nat.le_of_ble_eq_true rfl) dX2_carve_29 (by omega) (by omega) ?_
  refine z_top (b := hiB h (rd j) y) (rfl) ?_
  refine lv_istore (lv' := [(6, .int (iI (hiB h (rd j) y))), (5, .int (iI (hiB w (rd j) x))), (0, .ref (a 0)), (1, .ref (a (8 + j))), (2, .int (iI x)), (3, .int (iI y)), (4, .int (iI z))]) hx hb dX2_carve_32 hl (by decide) rfl (fun ls hl => ?_)
  refine lv_iconst (v := iI 0) hx hb dX2_carve_34 rfl ?_
  refine lv_iload_n hx hb dX2_carve_35 rfl (lv_at hl 5 rfl) ?_
  refine lv_aload_n hx hb dX2_carve_36 rfl (lv_at hl 3 rfl) ?_
  refine va_getN (D := (dC, dI)) (ci := 0) (v := .int (iI (rd j))) (C := RX0) (T := TX0) (N := 3) hx hb hts inX0 hown hK hP (8 + j) (rpW_tool hj) rfl 1 (by decide) (va_Nw.use rfl (hZ.1 (.fieldLinkNest RX2 181 RX0 "radius" "I" RX2) (by decide +kernel))) (fun _ h9 => h9) rfl dX2_carve_37 ?_
  refine z_sub hx hb dX2_carve_40 ?_
  refine z_max hx hb (hml.trans hl.1.symm) hown (hts _ wm_127) (hts _ wm_128) (hts _ wm_110) (hts _ wm_129) (Nat.le_of_ble_eq_true rfl) (Nat.le_of_ble_eq_true rfl) (Nat.le_of_ble_eq_true rfl) (Nat.le_of_ble_eq_true rfl) dX2_carve_41 (by omega) (by omega) ?_
  refine z_top (b := loB (rd j) y + ((0 : Nat) : Int)) (by unfold loB; omega) ?_
  refine lv_istore (lv' := [(7, .int (iI (loB (rd j) y + ((0 : Nat) : Int)))), (6, .int (iI (hiB h (rd j) y))), (5, .int (iI (hiB w (rd j) x))), (0, .ref (a 0)), (1, .ref (a (8 + j))), (2, .int (iI x)), (3, .int (iI y)), (4, .int (iI z))]) hx hb dX2_carve_44 hl (by decide) rfl (fun ls hl => ?_)
  refine lp_X2_carve_46 a cA w h wa ma ka li hk sh T kd rd dp j x y z hx hb hml hown hts hA hZ hK (hw) (hh) (hj) (hrd) (hx0) (hy0) (hdp) (hz) (hma) (fun H locs ls hP hD hS hl => ?_)  (nB h (rd j) y) 0 (by omega) _ _ _ hP hD hS (lv_sub hl [3, 4, 5, 6, 7, 2, 1, 0] rfl)
  have hP : va_P (dC, dI) vwCl (rpW a cA w h wa (cvF w h (dp j) (rd j) x y z (nB h (rd j) y) ma) ka li hk sh T kd rd dp) H := hP
  have hD : va_D A (rpW a cA w h wa (cvF w h (dp j) (rd j) x y z (nB h (rd j) y) ma) ka li hk sh T kd rd dp) := hD
  have hl : lv_has ls 11 [(0, .ref (a 0)), (1, .ref (a (8 + j))), (2, .int (iI x)), (3, .int (iI y)), (4, .int (iI z)), (5, .int (iI (hiB w (rd j) x))), (6, .int (iI (hiB h (rd j) y))), (7, .int (iI (loB (rd j) y + ((nB h (rd j) y : Nat) : Int))))] := hl
  subst hAe
  exact z_vret hx hb hr hlocks hP hK hD hS (trivial) dX2_carve_141
abbrev r_X2_greatestWanted : Room := { frames := 1, cells := 0, slots := 0, locals := 24 }
set_option maxHeartbeats 4000000 in
set_option maxRecDepth 100000 in
theorem lp_X2_greatestWanted_13 {p : Program} {l : Launch} {e : Env} {s : State} {m : MethodId} {args : Array Value} {below : List Frame} {meth : Method} {c : Code} {Q : State → Prop} {A : Nat → Prop} {dC : Nat → ClassId} {dI : Nat → Nat → Nat} (a : Nat → Nat) (cA : Nat → ClassId) (w h : Nat) (wa ma ka li : Nat → Int) (hk sh : Int) (T : TK) (kd rd : Nat → Int) (dp : Nat → Nat → Int) (hx : p.tables.exec = Jvm.exec) (hb : c.code = cX2_greatestWanted) (hml : c.maxLocals = 6) (hown : s.vm.findClass RX2 = some m.cls) (hts : ∀ w ∈ wsAll, w.before args s = true) (hA : ∀ q : Nat, s.heap.size ≤ q → A q) (hZ : zZ A s s.heap) (hK : va_K (dC, dI) vwCl (rpT cA) s) (hw : 1 ≤ w ∧ w ≤ 20) (hh : 1 ≤ h ∧ h ≤ 20) (hwa : bd wa 0 1000) (kk : ∀ (H : Heap) (locs : List Loc) (ls : Array Slot), va_P (dC, dI) vwCl (rpW a cA w h wa ma ka li hk sh T kd rd dp) H → va_D A (rpW a cA w h wa ma ka li hk sh T kd rd dp) → va_S A s.heap H locs → lv_has ls 6 [(0, .ref (a 0)), (1, .int (iI (gwF wa (w * h)))), (2, .ref (a 1)), (3, .int (iI ((w * h : Nat) : Int))), (4, .int (iI ((w * h : Nat) : Int)))] → W p l e r_X2_greatestWanted s m args below meth c H locs 0 0 Q (F0 m 38 ls [])) : ∀ (n i : Nat), i + n = w * h → ∀ (H : Heap) (locs : List Loc) (ls : Array Slot), va_P (dC, dI) vwCl (rpW a cA w h wa ma ka li hk sh T kd rd dp) H → va_D A (rpW a cA w h wa ma ka li hk sh T kd rd dp) → va_S A s.heap H locs → lv_has ls 6 [(0, .ref (a 0)), (1, .int (iI (gwF wa i))), (2, .ref (a 1)), (3, .int (iI ((w * h : Nat) : Int))), (4, .int (iI ((i : Nat) : Int)))] → W p l e r_X2_greatestWanted s m args below meth c H locs 0 0 Q (F0 m 13 ls []) := by
  intro n
  induction n with
  | zero =>
    intro i hi H locs ls hP hD hS hl
    have hi9 : w * h = i := by omega
    subst hi9
    have hwh := z_wh hw.2 hh.2
    refine lv_iload hx hb dX2_greatestWanted_13 (lv_at hl 4 rfl) ?_
    refine lv_iload_n hx hb dX2_greatestWanted_15 rfl (lv_at hl 3 rfl) ?_
    refine z_icmp_ge (tgt := 38) hx hb dX2_greatestWanted_16 (by decide) (by omega) (by omega) (fun c16 => ?_) (fun c16 => by exfalso; omega)
    exact kk _ _ _ hP hD hS (lv_sub hl [0, 1, 2, 3, 4] rfl)
  | succ n ih =>
    intro i hi H locs ls hP hD hS hl
    have hwh := z_wh hw.2 hh.2
    refine lv_iload hx hb dX2_greatestWanted_13 (lv_at hl 4 rfl) ?_
    refine lv_iload_n hx hb dX2_greatestWanted_15 rfl (lv_at hl 3 rfl) ?_
    refine z_icmp_ge (tgt := 38) hx hb dX2_greatestWanted_16 (by decide) (by omega) (by omega) (fun c16 => by exfalso; omega) (fun c16 => ?_)
    refine lv_aload_n hx hb dX2_greatestWanted_19 rfl (lv_at hl 2 rfl) ?_
    refine lv_iload hx hb dX2_greatestWanted_20 (lv_at hl 4 rfl) ?_
    refine z_iald (f := wa) (i := ((i : Nat) : Int)) hx hb hK hP 1 0 rfl rfl (by omega) (by omega) dX2_greatestWanted_22 ?_
    refine z_top (b := wa i) (rfl) ?_
    refine lv_istore (lv' := [(5, .int (iI (wa i))), (0, .ref (a 0)), (1, .int (iI (gwF wa i))), (2, .ref (a 1)), (3, .int (iI ((w * h : Nat) : Int))), (4, .int (iI ((i : Nat) : Int)))]) hx hb dX2_greatestWanted_23 hl (by decide) rfl (fun ls hl => ?_)
    refine lv_iload_n hx hb dX2_greatestWanted_25 rfl (lv_at hl 2 rfl) ?_
    refine lv_iload hx hb dX2_greatestWanted_26 (lv_at hl 0 rfl) ?_
    have hg1 := gwF_rg (n := i) hwa
    have hg2 := hwa i
    refine z_max hx hb (hml.trans hl.1.symm) hown (hts _ wm_127) (hts _ wm_128) (hts _ wm_110) (hts _ wm_129) (Nat.le_of_ble_eq_true rfl) (Nat.le_of_ble_eq_true rfl) (Nat.le_of_ble_eq_true rfl) (Nat.le_of_ble_eq_true rfl) dX2_greatestWanted_28 (by omega) (by omega) ?_
    refine lv_istore_n (lv' := [(1, .int (iI (max (gwF wa i) (wa i)))), (5, .int (iI (wa i))), (0, .ref (a 0)), (2, .ref (a 1)), (3, .int (iI ((w * h : Nat) : Int))), (4, .int (iI ((i : Nat) : Int)))]) hx hb dX2_greatestWanted_31 rfl hl (by decide) rfl (fun ls hl => ?_)
    refine lv_iinc (v := iI (((i + 1) : Nat) : Int)) (lv' := [(4, .int (iI (((i + 1) : Nat) : Int))), (1, .int (iI (max (gwF wa i) (wa i)))), (5, .int (iI (wa i))), (0, .ref (a 0)), (2, .ref (a 1)), (3, .int (iI ((w * h : Nat) : Int)))]) hx hb dX2_greatestWanted_32 hl (k := 5) rfl ((iI_add _ _).trans (congrArg iI (by omega))) (by decide) rfl (fun ls hl => ?_)
    refine lv_goto (tgt := 13) hx hb dX2_greatestWanted_35 (by decide) ?_
    exact ih (i + 1) (by omega) _ _ _ hP hD hS (lv_sub hl [3, 1, 4, 5, 0] rfl)
set_option maxHeartbeats 4000000 in
set_option maxRecDepth 100000 in
theorem c_X2_greatestWanted (l : Launch) (dC : Nat → ClassId) (dI : Nat → Nat → Nat) (sz : Nat) (a : Nat → Nat) (cA : Nat → ClassId) (w h : Nat) (wa ma ka li : Nat → Int) (hk sh : Int) (T : TK) (kd rd : Nat → Int) (dp : Nat → Nat → Int) (hw : 1 ≤ w ∧ w ≤ 20) (hh : 1 ≤ h ∧ h ≤ 20) (hwa : bd wa 0 1000) : Met l yX2_greatestWanted wsX2_greatestWanted r_X2_greatestWanted (zP (dC, dI) vwCl (rpT cA) (rpW a cA w h wa ma ka li hk sh T kd rd dp) sz [.ref (a 0)]) (zQi (dC, dI) vwCl (rpT cA) (rpW a cA w h wa ma ka li hk sh T kd rd dp) sz (True) (gwF wa (w * h)) (rpW a cA w h wa ma ka li hk sh T kd rd dp)) 0 0 (va_A (rpW a cA w h wa ma ka li hk sh T kd rd dp) sz) := by
  refine Met.ofW (cc := cX2_greatestWanted) (maxL := 6) (ret := (some .int)) (by decide) rfl ?_
  intro p e s m args below meth c s₁ B hml hv
  obtain ⟨rfl, hsz, hP, hK, hD0, hZ⟩ := hv
  have hx := B.exec
  have hb := B.bytes
  have hr := B.returns
  have hts0 := atoms_spec (ws := wsX2_greatestWanted) B.pre
  have hts : ∀ w ∈ wsAll, w.before _ s = true := fun w h => hts0 w (List.mem_cons_of_mem _ h)
  have hown : s.vm.findClass RX2 = some m.cls := findClass_of_methodNamed B.named
  have hlocks := B.notSynchronized
  subst hsz
  have hD := hD0.self (sz := s.heap.size)
  obtain ⟨A, hAe⟩ : ∃ A, A = va_A (rpW a cA w h wa ma ka li hk sh T kd rd dp) s.heap.size := ⟨_, rfl⟩
  rw [← hAe] at hD hZ
  have hA : ∀ q : Nat, s.heap.size ≤ q → A q := fun q h => by rw [hAe]; exact Or.inr h
  have hS : va_S A s.heap s.heap [] := va_S.rf
  have hP : va_P (dC, dI) vwCl (rpW a cA w h wa ma ka li hk sh T kd rd dp) s.heap := hP
  have hl := lv_entry ([.ref (a 0)]) (n := 6) (Nat.le_of_ble_eq_true rfl)
  rw [lg_entry_eq]
  generalize (lg_sl ([.ref (a 0)]) ++ List.replicate (6 - (lg_sl ([.ref (a 0)])).length) Slot.unset).toArray = ls at hl ⊢
  have hl : lv_has ls 6 [(0, .ref (a 0))] := hl
  refine lv_iconst (v := iI 0) hx hb dX2_greatestWanted_0 rfl ?_
  refine lv_istore_n (lv' := [(1, .int (iI 0)), (0, .ref (a 0))]) hx hb dX2_greatestWanted_1 rfl hl (by decide) rfl (fun ls hl => ?_)
  refine lv_aload_n hx hb dX2_greatestWanted_2 rfl (lv_at hl 1 rfl) ?_
  refine va_get (D := (dC, dI)) (ci := 2) (v := .ref (a 1)) (C := RX2) (T := TX2) (N := 10) hx hb hts inX2 hown hK hP 0 rfl rfl 2 (by decide) (hts _ wm_173) (fun _ h9 => h9) rfl dX2_greatestWanted_3 ?_
  refine lv_astore_n (lv' := [(2, .ref (a 1)), (1, .int (iI 0)), (0, .ref (a 0))]) hx hb dX2_greatestWanted_6 rfl hl (by decide) rfl (fun ls hl => ?_)
  refine lv_aload_n hx hb dX2_greatestWanted_7 rfl (lv_at hl 0 rfl) ?_
  refine z_alen hx hb hK hP 1 0 rfl rfl dX2_greatestWanted_8 ?_
  refine z_top (b := ((w * h : Nat) : Int)) rfl ?_
  refine lv_istore_n (lv' := [(3, .int (iI ((w * h : Nat) : Int))), (2, .ref (a 1)), (1, .int (iI 0)), (0, .ref (a 0))]) hx hb dX2_greatestWanted_9 rfl hl (by decide) rfl (fun ls hl => ?_)
  refine lv_iconst (v := iI 0) hx hb dX2_greatestWanted_10 rfl ?_
  refine lv_istore (lv' := [(4, .int (iI 0)), (3, .int (iI ((w * h : Nat) : Int))), (2, .ref (a 1)), (1, .int (iI 0)), (0, .ref (a 0))]) hx hb dX2_greatestWanted_11 hl (by decide) rfl (fun ls hl => ?_)
  refine lp_X2_greatestWanted_13 a cA w h wa ma ka li hk sh T kd rd dp hx hb hml hown hts hA hZ hK (hw) (hh) (hwa) (fun H locs ls hP hD hS hl => ?_)  (w * h) 0 (by omega) _ _ _ hP hD hS (lv_sub hl [4, 3, 2, 1, 0] rfl)
  have hP : va_P (dC, dI) vwCl (rpW a cA w h wa ma ka li hk sh T kd rd dp) H := hP
  have hD : va_D A (rpW a cA w h wa ma ka li hk sh T kd rd dp) := hD
  have hl : lv_has ls 6 [(0, .ref (a 0)), (1, .int (iI (gwF wa (w * h)))), (2, .ref (a 1)), (3, .int (iI ((w * h : Nat) : Int))), (4, .int (iI ((w * h : Nat) : Int)))] := hl
  refine lv_iload_n hx hb dX2_greatestWanted_38 rfl (lv_at hl 1 rfl) ?_
  subst hAe
  exact z_iret hx hb hr hlocks hP hK hD hS (trivial) dX2_greatestWanted_39
theorem g_X2_94 : GoodIn wsAll (wsV RX2 94 RX2 yX2_liftOver wsX2_liftOver) := z_good (show ∀ w ∈ (Cond.methodLink RX2 94 yX2_liftOver :: Cond.instanceMethod yX2_liftOver :: Cond.selects RX2 yX2_liftOver yX2_liftOver :: Cond.initialized RX2 :: Cond.code yX2_liftOver prog_1_method_28_code 10 (some .int) :: wsAll), w ∈ wsAll from List.forall_mem_cons.mpr ⟨wm_289, List.forall_mem_cons.mpr ⟨wm_290, List.forall_mem_cons.mpr ⟨wm_565, List.forall_mem_cons.mpr ⟨wm_109, List.forall_mem_cons.mpr ⟨wm_291, fun _ h => h⟩⟩⟩⟩⟩)
abbrev r_X2_findLifts : Room := { frames := 3, cells := 0, slots := 0, locals := 73 }
set_option maxHeartbeats 4000000 in
set_option maxRecDepth 100000 in
theorem lp_X2_findLifts_12 {p : Program} {l : Launch} {e : Env} {s : State} {m : MethodId} {args : Array Value} {below : List Frame} {meth : Method} {c : Code} {Q : State → Prop} {A : Nat → Prop} {dC : Nat → ClassId} {dI : Nat → Nat → Nat} (a : Nat → Nat) (cA : Nat → ClassId) (w h : Nat) (wa ma ka li : Nat → Int) (hk sh : Int) (T : TK) (kd rd : Nat → Int) (dp : Nat → Nat → Int) (j : Nat) (u : Int) (hx : p.tables.exec = Jvm.exec) (hb : c.code = cX2_findLifts) (hml : c.maxLocals = 4) (hown : s.vm.findClass RX2 = some m.cls) (hts : ∀ w ∈ wsAll, w.before args s = true) (hA : ∀ q : Nat, s.heap.size ≤ q → A q) (hZ : zZ A s s.heap) (hK : va_K (dC, dI) vwCl (rpT cA) s) (hw : 1 ≤ w ∧ w ≤ 20) (hh : 1 ≤ h ∧ h ≤ 20) (hj : j < 4) (hrd : 0 ≤ rd j ∧ rd j ≤ 5) (hdp : bd (dp j) (-1) 5) (hwa : bd wa 0 1000) (hu : 0 ≤ u ∧ u < (h : Int)) (kk : ∀ (H : Heap) (locs : List Loc) (ls : Array Slot), va_P (dC, dI) vwCl (rpW a cA w h wa ma ka (ltR w h wa (dp j) (rd j) u w li) hk sh T kd rd dp) H → va_D A (rpW a cA w h wa ma ka (ltR w h wa (dp j) (rd j) u w li) hk sh T kd rd dp) → va_S A s.heap H locs → lv_has ls 4 [(0, .ref (a 0)), (1, .ref (a (8 + j))), (2, .int (iI u)), (3, .int (iI ((w : Nat) : Int)))] → W p l e r_X2_findLifts s m args below meth c H locs 0 0 Q (F0 m 44 ls [])) : ∀ (n i : Nat), i + n = w → ∀ (H : Heap) (locs : List Loc) (ls : Array Slot), va_P (dC, dI) vwCl (rpW a cA w h wa ma ka (ltR w h wa (dp j) (rd j) u i li) hk sh T kd rd dp) H → va_D A (rpW a cA w h wa ma ka (ltR w h wa (dp j) (rd j) u i li) hk sh T kd rd dp) → va_S A s.heap H locs → lv_has ls 4 [(0, .ref (a 0)), (1, .ref (a (8 + j))), (2, .int (iI u)), (3, .int (iI ((i : Nat) : Int)))] → W p l e r_X2_findLifts s m args below meth c H locs 0 0 Q (F0 m 12 ls []) := by
  intro n
  induction n with
  | zero =>
    intro i hi H locs ls hP hD hS hl
    have hi9 : w = i := by omega
    subst hi9
    refine lv_iload_n hx hb dX2_findLifts_12 rfl (lv_at hl 3 rfl) ?_
    refine lv_aload_n hx hb dX2_findLifts_13 rfl (lv_at hl 0 rfl) ?_
    refine va_get (D := (dC, dI)) (ci := 2) (v := .int (iI (w : Int))) (C := RX2) (T := TX2) (N := 10) hx hb hts inX2 hown hK hP 0 rfl rfl 0 (by decide) (hts _ wm_171) (fun _ h9 => h9) rfl dX2_findLifts_14 ?_
    refine z_icmp_ge (tgt := 44) hx hb dX2_findLifts_17 (by decide) (by omega) (by omega) (fun c17 => ?_) (fun c17 => by exfalso; omega)
    exact kk _ _ _ hP hD hS (lv_sub hl [0, 1, 2, 3] rfl)
  | succ n ih =>
    intro i hi H locs ls hP hD hS hl
    have hwh := z_wh hw.2 hh.2
    refine lv_iload_n hx hb dX2_findLifts_12 rfl (lv_at hl 3 rfl) ?_
    refine lv_aload_n hx hb dX2_findLifts_13 rfl (lv_at hl 0 rfl) ?_
    refine va_get (D := (dC, dI)) (ci := 2) (v := .int (iI (w : Int))) (C := RX2) (T := TX2) (N := 10) hx hb hts inX2 hown hK hP 0 rfl rfl 0 (by decide) (hts _ wm_171) (fun _ h9 => h9) rfl dX2_findLifts_14 ?_
    refine z_icmp_ge (tgt := 44) hx hb dX2_findLifts_17 (by decide) (by omega) (by omega) (fun c17 => by exfalso; omega) (fun c17 => ?_)
    refine lv_aload_n hx hb dX2_findLifts_20 rfl (lv_at hl 0 rfl) ?_
    refine va_get (D := (dC, dI)) (ci := 2) (v := .ref (a 4)) (C := RX2) (T := TX2) (N := 10) hx hb hts inX2 hown hK hP 0 rfl rfl 5 (by decide) (hts _ wm_176) (fun _ h9 => h9) rfl dX2_findLifts_21 ?_
    refine lv_aload_n hx hb dX2_findLifts_24 rfl (lv_at hl 0 rfl) ?_
    refine lv_iload_n hx hb dX2_findLifts_25 rfl (lv_at hl 3 rfl) ?_
    refine lv_iload_n hx hb dX2_findLifts_26 rfl (lv_at hl 2 rfl) ?_
    have hFc := z_freeR (wc := rpW a cA w h wa ma ka (ltR w h wa (dp j) (rd j) u i li) hk sh T kd rd dp) (fun _ h => h) hD hS hA
    refine z_wcalli (va_runV (As := [.int (iI ((i : Nat) : Int)), .int (iI u)]) (rest := [.ref (a 4)]) ⟨hx, hb, hml, hown, hts⟩ (c_X2_placeAt l dC dI (H).size a cA w h wa ma ka (ltR w h wa (dp j) (rd j) u i li) hk sh T kd rd dp ((i : Nat) : Int) u) (cwV 2 hts g_X2_68 rfl rfl rfl (by decide +kernel) ⟨Nat.le_of_ble_eq_true rfl, Nat.le_of_ble_eq_true rfl⟩) (zP_V (ci := 2) (q0 := 0) rfl rfl hP hK hD hS hFc hZ) rfl rfl hl.1 rfl (lv_room (Nat.le_of_ble_eq_true rfl)) dX2_findLifts_27 ⟨Nat.le_of_ble_eq_true rfl, Nat.le_of_ble_eq_true rfl⟩) hS hFc (fun H locs _ hP hD hS _ => ?_)
    have hP : va_P (dC, dI) vwCl (rpW a cA w h wa ma ka (ltR w h wa (dp j) (rd j) u i li) hk sh T kd rd dp) H := hP
    have hD : va_D A (rpW a cA w h wa ma ka (ltR w h wa (dp j) (rd j) u i li) hk sh T kd rd dp) := hD
    refine lv_aload_n hx hb dX2_findLifts_30 rfl (lv_at hl 0 rfl) ?_
    refine lv_aload_n hx hb dX2_findLifts_31 rfl (lv_at hl 1 rfl) ?_
    refine lv_iload_n hx hb dX2_findLifts_32 rfl (lv_at hl 3 rfl) ?_
    refine lv_iload_n hx hb dX2_findLifts_33 rfl (lv_at hl 2 rfl) ?_
    have hFc := z_freeR (wc := rpW a cA w h wa ma ka (ltR w h wa (dp j) (rd j) u i li) hk sh T kd rd dp) (fun _ h => h) hD hS hA
    refine z_wcalli (va_runV (As := [.ref (a (8 + j)), .int (iI ((i : Nat) : Int)), .int (iI u)]) (rest := [.int (iI (u * (w : Int) + ((i : Nat) : Int))), .ref (a 4)]) ⟨hx, hb, hml, hown, hts⟩ (c_X2_liftOver l dC dI (H).size a cA w h wa ma ka (ltR w h wa (dp j) (rd j) u i li) hk sh T kd rd dp j ((i : Nat) : Int) u hw hh hj hrd (by omega) (by omega) hdp hwa) (cwV 3 hts g_X2_94 rfl rfl rfl (by decide +kernel) ⟨Nat.le_of_ble_eq_true rfl, Nat.le_of_ble_eq_true rfl⟩) (zP_V (ci := 2) (q0 := 0) rfl rfl hP hK hD hS hFc hZ) rfl rfl hl.1 rfl (lv_room (Nat.le_of_ble_eq_true rfl)) dX2_findLifts_34 ⟨Nat.le_of_ble_eq_true rfl, Nat.le_of_ble_eq_true rfl⟩) hS hFc (fun H locs _ hP hD hS _ => ?_)
    have hP : va_P (dC, dI) vwCl (rpW a cA w h wa ma ka (ltR w h wa (dp j) (rd j) u i li) hk sh T kd rd dp) H := hP
    have hD : va_D A (rpW a cA w h wa ma ka (ltR w h wa (dp j) (rd j) u i li) hk sh T kd rd dp) := hD
    refine z_iast (f := ltR w h wa (dp j) (rd j) u i li) (i := u * (w : Int) + ((i : Nat) : Int)) (x := lfF w h wa (dp j) (rd j) ((i : Nat) : Int) u (nB h (rd j) u)) hx hb hK hP hD hS 4 3 rfl rfl (z_ix (w := w) (h := h) (by omega) (by omega) hu.1 hu.2) (by omega) dX2_findLifts_37 (fun H locs hP hD hS => ?_)
    have hP : va_P (dC, dI) vwCl (rpW a cA w h wa ma ka (uI (ltR w h wa (dp j) (rd j) u i li) (u * (w : Int) + ((i : Nat) : Int)).toNat (lfF w h wa (dp j) (rd j) ((i : Nat) : Int) u (nB h (rd j) u))) hk sh T kd rd dp) H := hP
    have hD : va_D A (rpW a cA w h wa ma ka (uI (ltR w h wa (dp j) (rd j) u i li) (u * (w : Int) + ((i : Nat) : Int)).toNat (lfF w h wa (dp j) (rd j) ((i : Nat) : Int) u (nB h (rd j) u))) hk sh T kd rd dp) := hD
    refine lv_iinc (v := iI (((i + 1) : Nat) : Int)) (lv' := [(3, .int (iI (((i + 1) : Nat) : Int))), (0, .ref (a 0)), (1, .ref (a (8 + j))), (2, .int (iI u))]) hx hb dX2_findLifts_38 hl (k := 3) rfl ((iI_add _ _).trans (congrArg iI (by omega))) (by decide) rfl (fun ls hl => ?_)
    refine lv_goto (tgt := 12) hx hb dX2_findLifts_41 (by decide) ?_
    exact ih (i + 1) (by omega) _ _ _ hP hD hS (lv_sub hl [1, 2, 3, 0] rfl)
set_option maxHeartbeats 4000000 in
set_option maxRecDepth 100000 in
theorem lp_X2_findLifts_2 {p : Program} {l : Launch} {e : Env} {s : State} {m : MethodId} {args : Array Value} {below : List Frame} {meth : Method} {c : Code} {Q : State → Prop} {A : Nat → Prop} {dC : Nat → ClassId} {dI : Nat → Nat → Nat} (a : Nat → Nat) (cA : Nat → ClassId) (w h : Nat) (wa ma ka li : Nat → Int) (hk sh : Int) (T : TK) (kd rd : Nat → Int) (dp : Nat → Nat → Int) (j : Nat) (hx : p.tables.exec = Jvm.exec) (hb : c.code = cX2_findLifts) (hml : c.maxLocals = 4) (hown : s.vm.findClass RX2 = some m.cls) (hts : ∀ w ∈ wsAll, w.before args s = true) (hA : ∀ q : Nat, s.heap.size ≤ q → A q) (hZ : zZ A s s.heap) (hK : va_K (dC, dI) vwCl (rpT cA) s) (hw : 1 ≤ w ∧ w ≤ 20) (hh : 1 ≤ h ∧ h ≤ 20) (hj : j < 4) (hrd : 0 ≤ rd j ∧ rd j ≤ 5) (hdp : bd (dp j) (-1) 5) (hwa : bd wa 0 1000) (kk : ∀ (H : Heap) (locs : List Loc) (ls : Array Slot), va_P (dC, dI) vwCl (rpW a cA w h wa ma ka (ltF w h wa (dp j) (rd j) h li) hk sh T kd rd dp) H → va_D A (rpW a cA w h wa ma ka (ltF w h wa (dp j) (rd j) h li) hk sh T kd rd dp) → va_S A s.heap H locs → lv_has ls 4 [(0, .ref (a 0)), (1, .ref (a (8 + j))), (2, .int (iI ((h : Nat) : Int)))] → W p l e r_X2_findLifts s m args below meth c H locs 0 0 Q (F0 m 50 ls [])) : ∀ (n i : Nat), i + n = h → ∀ (H : Heap) (locs : List Loc) (ls : Array Slot), va_P (dC, dI) vwCl (rpW a cA w h wa ma ka (ltF w h wa (dp j) (rd j) i li) hk sh T kd rd dp) H → va_D A (rpW a cA w h wa ma ka (ltF w h wa (dp j) (rd j) i li) hk sh T kd rd dp) → va_S A s.heap H locs → lv_has ls 4 [(0, .ref (a 0)), (1, .ref (a (8 + j))), (2, .int (iI ((i : Nat) : Int)))] → W p l e r_X2_findLifts s m args below meth c H locs 0 0 Q (F0 m 2 ls []) := by
  intro n
  induction n with
  | zero =>
    intro i hi H locs ls hP hD hS hl
    have hi9 : h = i := by omega
    subst hi9
    refine lv_iload_n hx hb dX2_findLifts_2 rfl (lv_at hl 2 rfl) ?_
    refine lv_aload_n hx hb dX2_findLifts_3 rfl (lv_at hl 0 rfl) ?_
    refine va_get (D := (dC, dI)) (ci := 2) (v := .int (iI (h : Int))) (C := RX2) (T := TX2) (N := 10) hx hb hts inX2 hown hK hP 0 rfl rfl 1 (by decide) (hts _ wm_172) (fun _ h9 => h9) rfl dX2_findLifts_4 ?_
    refine z_icmp_ge (tgt := 50) hx hb dX2_findLifts_7 (by decide) (by omega) (by omega) (fun c7 => ?_) (fun c7 => by exfalso; omega)
    exact kk _ _ _ hP hD hS (lv_sub hl [0, 1, 2] rfl)
  | succ n ih =>
    intro i hi H locs ls hP hD hS hl
    refine lv_iload_n hx hb dX2_findLifts_2 rfl (lv_at hl 2 rfl) ?_
    refine lv_aload_n hx hb dX2_findLifts_3 rfl (lv_at hl 0 rfl) ?_
    refine va_get (D := (dC, dI)) (ci := 2) (v := .int (iI (h : Int))) (C := RX2) (T := TX2) (N := 10) hx hb hts inX2 hown hK hP 0 rfl rfl 1 (by decide) (hts _ wm_172) (fun _ h9 => h9) rfl dX2_findLifts_4 ?_
    refine z_icmp_ge (tgt := 50) hx hb dX2_findLifts_7 (by decide) (by omega) (by omega) (fun c7 => by exfalso; omega) (fun c7 => ?_)
    refine lv_iconst (v := iI 0) hx hb dX2_findLifts_10 rfl ?_
    refine lv_istore_n (lv' := [(3, .int (iI 0)), (0, .ref (a 0)), (1, .ref (a (8 + j))), (2, .int (iI ((i : Nat) : Int)))]) hx hb dX2_findLifts_11 rfl hl (by decide) rfl (fun ls hl => ?_)
    refine lp_X2_findLifts_12 a cA w h wa ma ka (ltF w h wa (dp j) (rd j) i li) hk sh T kd rd dp j ((i : Nat) : Int) hx hb hml hown hts hA hZ hK (hw) (hh) (hj) (hrd) (hdp) (hwa) (by omega) (fun H locs ls hP hD hS hl => ?_)  w 0 (by omega) _ _ _ hP hD hS (lv_sub hl [1, 2, 3, 0] rfl)
    have hP : va_P (dC, dI) vwCl (rpW a cA w h wa ma ka (ltR w h wa (dp j) (rd j) ((i : Nat) : Int) w (ltF w h wa (dp j) (rd j) i li)) hk sh T kd rd dp) H := hP
    have hD : va_D A (rpW a cA w h wa ma ka (ltR w h wa (dp j) (rd j) ((i : Nat) : Int) w (ltF w h wa (dp j) (rd j) i li)) hk sh T kd rd dp) := hD
    have hl : lv_has ls 4 [(0, .ref (a 0)), (1, .ref (a (8 + j))), (2, .int (iI ((i : Nat) : Int))), (3, .int (iI ((w : Nat) : Int)))] := hl
    refine lv_iinc (v := iI (((i + 1) : Nat) : Int)) (lv' := [(2, .int (iI (((i + 1) : Nat) : Int))), (0, .ref (a 0)), (1, .ref (a (8 + j))), (3, .int (iI ((w : Nat) : Int)))]) hx hb dX2_findLifts_44 hl (k := 2) rfl ((iI_add _ _).trans (congrArg iI (by omega))) (by decide) rfl (fun ls hl => ?_)
    refine lv_goto (tgt := 2) hx hb dX2_findLifts_47 (by decide) ?_
    exact ih (i + 1) (by omega) _ _ _ hP hD hS (lv_sub hl [1, 2, 0] rfl)
set_option maxHeartbeats 4000000 in
set_option maxRecDepth 100000 in
theorem c_X2_findLifts (l : Launch) (dC : Nat → ClassId) (dI : Nat → Nat → Nat) (sz : Nat) (a : Nat → Nat) (cA : Nat → ClassId) (w h : Nat) (wa ma ka li : Nat → Int) (hk sh : Int) (T : TK) (kd rd : Nat → Int) (dp : Nat → Nat → Int) (j : Nat) (hw : 1 ≤ w ∧ w ≤ 20) (hh : 1 ≤ h ∧ h ≤ 20) (hj : j < 4) (hrd : 0 ≤ rd j ∧ rd j ≤ 5) (hdp : bd (dp j) (-1) 5) (hwa : bd wa 0 1000) : Met l yX2_findLifts wsX2_findLifts r_X2_findLifts (zP (dC, dI) vwCl (rpT cA) (rpW a cA w h wa ma ka li hk sh T kd rd dp) sz [.ref (a 0), .ref (a (8 + j))]) (zQv (dC, dI) vwCl (rpT cA) (rpW a cA w h wa ma ka li hk sh T kd rd dp) sz (True) (rpW a cA w h wa ma ka (ltF w h wa (dp j) (rd j) h li) hk sh T kd rd dp)) 0 0 (va_A (rpW a cA w h wa ma ka li hk sh T kd rd dp) sz) := by
  refine Met.ofW (cc := cX2_findLifts) (maxL := 4) (ret := none) (by decide) rfl ?_
  intro p e s m args below meth c s₁ B hml hv
  obtain ⟨rfl, hsz, hP, hK, hD0, hZ⟩ := hv
  have hx := B.exec
  have hb := B.bytes
  have hr := B.returns
  have hts0 := atoms_spec (ws := wsX2_findLifts) B.pre
  have hts : ∀ w ∈ wsAll, w.before _ s = true := fun w h => hts0 w (List.mem_cons_of_mem _ h)
  have hown : s.vm.findClass RX2 = some m.cls := findClass_of_methodNamed B.named
  have hlocks := B.notSynchronized
  subst hsz
  have hD := hD0.self (sz := s.heap.size)
  obtain ⟨A, hAe⟩ : ∃ A, A = va_A (rpW a cA w h wa ma ka li hk sh T kd rd dp) s.heap.size := ⟨_, rfl⟩
  rw [← hAe] at hD hZ
  have hA : ∀ q : Nat, s.heap.size ≤ q → A q := fun q h => by rw [hAe]; exact Or.inr h
  have hS : va_S A s.heap s.heap [] := va_S.rf
  have hP : va_P (dC, dI) vwCl (rpW a cA w h wa ma ka li hk sh T kd rd dp) s.heap := hP
  have hl := lv_entry ([.ref (a 0), .ref (a (8 + j))]) (n := 4) (Nat.le_of_ble_eq_true rfl)
  rw [lg_entry_eq]
  generalize (lg_sl ([.ref (a 0), .ref (a (8 + j))]) ++ List.replicate (4 - (lg_sl ([.ref (a 0), .ref (a (8 + j))])).length) Slot.unset).toArray = ls at hl ⊢
  have hl : lv_has ls 4 [(0, .ref (a 0)), (1, .ref (a (8 + j)))] := hl
  refine lv_iconst (v := iI 0) hx hb dX2_findLifts_0 rfl ?_
  refine lv_istore_n (lv' := [(2, .int (iI 0)), (0, .ref (a 0)), (1, .ref (a (8 + j)))]) hx hb dX2_findLifts_1 rfl hl (by decide) rfl (fun ls hl => ?_)
  refine lp_X2_findLifts_2 a cA w h wa ma ka li hk sh T kd rd dp j hx hb hml hown hts hA hZ hK (hw) (hh) (hj) (hrd) (hdp) (hwa) (fun H locs ls hP hD hS hl => ?_)  h 0 (by omega) _ _ _ hP hD hS (lv_sub hl [1, 2, 0] rfl)
  have hP : va_P (dC, dI) vwCl (rpW a cA w h wa ma ka (ltF w h wa (dp j) (rd j) h li) hk sh T kd rd dp) H := hP
  have hD : va_D A (rpW a cA w h wa ma ka (ltF w h wa (dp j) (rd j) h li) hk sh T kd rd dp) := hD
  have hl : lv_has ls 4 [(0, .ref (a 0)), (1, .ref (a (8 + j))), (2, .int (iI ((h : Nat) : Int)))] := hl
  subst hAe
  exact z_vret hx hb hr hlocks hP hK hD hS (trivial) dX2_findLifts_50
