theorem g_X2_98 : GoodIn wsAll (wsV RX2 98 RX0 yX0_depthOver wsX0_depthOver) := z_good (show ∀ w ∈ (Cond.methodLink RX2 98 yX0_depthOver :: Cond.instanceMethod yX0_depthOver :: Cond.selects RX0 yX0_depthOver yX0_depthOver :: Cond.initialized RX0 :: Cond.code yX0_depthOver prog_2_method_3_code 3 (some .int) :: wsAll), w ∈ wsAll from List.forall_mem_cons.mpr ⟨wm_292, List.forall_mem_cons.mpr ⟨wm_293, List.forall_mem_cons.mpr ⟨wm_294, List.forall_mem_cons.mpr ⟨wm_111, List.forall_mem_cons.mpr ⟨wm_295, fun _ h => h⟩⟩⟩⟩⟩)
theorem g_X2_68 : GoodIn wsAll (wsV RX2 68 RX2 yX2_placeAt wsX2_placeAt) := z_good (show ∀ w ∈ (Cond.methodLink RX2 68 yX2_placeAt :: Cond.instanceMethod yX2_placeAt :: Cond.selects RX2 yX2_placeAt yX2_placeAt :: Cond.initialized RX2 :: Cond.code yX2_placeAt prog_1_method_23_code 3 (some .int) :: wsAll), w ∈ wsAll from List.forall_mem_cons.mpr ⟨wm_240, List.forall_mem_cons.mpr ⟨wm_241, List.forall_mem_cons.mpr ⟨wm_561, List.forall_mem_cons.mpr ⟨wm_109, List.forall_mem_cons.mpr ⟨wm_242, fun _ h => h⟩⟩⟩⟩⟩)
abbrev r_X2_liftOver : Room := { frames := 2, cells := 0, slots := 0, locals := 44 }
set_option maxHeartbeats 4000000 in
set_option maxRecDepth 100000 in
theorem lp_X2_liftOver_68 {p : Program} {l : Launch} {e : Env} {s : State} {m : MethodId} {args : Array Value} {below : List Frame} {meth : Method} {c : Code} {Q : State → Prop} {A : Nat → Prop} {dC : Nat → ClassId} {dI : Nat → Nat → Nat} (a : Nat → Nat) (cA : Nat → ClassId) (w h : Nat) (wa ma ka li : Nat → Int) (hk sh : Int) (T : TK) (kd rd : Nat → Int) (dp : Nat → Nat → Int) (j : Nat) (x y u v g : Int) (hx : p.tables.exec = Jvm.exec) (hb : c.code = cX2_liftOver) (hml : c.maxLocals = 10) (hown : s.vm.findClass RX2 = some m.cls) (hts : ∀ w ∈ wsAll, w.before args s = true) (hA : ∀ q : Nat, s.heap.size ≤ q → A q) (hZ : zZ A s s.heap) (hK : va_K (dC, dI) vwCl (rpT cA) s) (hw : 1 ≤ w ∧ w ≤ 20) (hh : 1 ≤ h ∧ h ≤ 20) (hj : j < 4) (hrd : 0 ≤ rd j ∧ rd j ≤ 5) (hx0 : 0 ≤ x ∧ x < (w : Int)) (hy0 : 0 ≤ y ∧ y < (h : Int)) (hdp : bd (dp j) (-1) 5) (hwa : bd wa 0 1000) (hu : 0 ≤ u ∧ u < (h : Int)) (hg : 0 ≤ g ∧ g ≤ 1000) (kk : ∀ (H : Heap) (locs : List Loc) (ls : Array Slot), va_P (dC, dI) vwCl (rpW a cA w h wa ma ka li hk sh T kd rd dp) H → va_D A (rpW a cA w h wa ma ka li hk sh T kd rd dp) → va_S A s.heap H locs → lv_has ls 10 [(0, .ref (a 0)), (1, .ref (a (8 + j))), (2, .int (iI x)), (3, .int (iI y)), (4, .int (iI (lfR w wa (dp j) (rd j) x y u (nB w (rd j) x) g))), (5, .int (iI (hiB w (rd j) x))), (6, .int (iI v)), (7, .int (iI u)), (8, .int (iI (loB (rd j) x + ((nB w (rd j) x : Nat) : Int))))] → W p l e r_X2_liftOver s m args below meth c H locs 0 0 Q (F0 m 124 ls [])) : ∀ (n i : Nat), i + n = nB w (rd j) x → ∀ (H : Heap) (locs : List Loc) (ls : Array Slot), va_P (dC, dI) vwCl (rpW a cA w h wa ma ka li hk sh T kd rd dp) H → va_D A (rpW a cA w h wa ma ka li hk sh T kd rd dp) → va_S A s.heap H locs → lv_has ls 10 [(0, .ref (a 0)), (1, .ref (a (8 + j))), (2, .int (iI x)), (3, .int (iI y)), (4, .int (iI (lfR w wa (dp j) (rd j) x y u i g))), (5, .int (iI (hiB w (rd j) x))), (6, .int (iI v)), (7, .int (iI u)), (8, .int (iI (loB (rd j) x + ((i : Nat) : Int))))] → W p l e r_X2_liftOver s m args below meth c H locs 0 0 Q (F0 m 68 ls []) := by
  intro n
  induction n with
  | zero =>
    intro i hi H locs ls hP hD hS hl
    have hi9 : nB w (rd j) x = i := by omega
    subst hi9
    have hB := B_out (n := w) (r := rd j) (x := x) hx0.1 hx0.2 hrd.1
    refine lv_iload hx hb dX2_liftOver_68 (lv_at hl 8 rfl) ?_
    refine lv_iload hx hb dX2_liftOver_70 (lv_at hl 5 rfl) ?_
    refine z_icmp_gt (tgt := 124) hx hb dX2_liftOver_72 (by decide) (by omega) (by omega) (fun c72 => ?_) (fun c72 => by exfalso; omega)
    exact kk _ _ _ hP hD hS (lv_sub hl [0, 1, 2, 3, 4, 5, 6, 7, 8] rfl)
  | succ n ih =>
    intro i hi H locs ls hP hD hS hl
    have hB := B_in (n := w) (i := i) (r := rd j) (x := x) (by omega) hx0.1 hx0.2 hrd.1
    refine lv_iload hx hb dX2_liftOver_68 (lv_at hl 8 rfl) ?_
    refine lv_iload hx hb dX2_liftOver_70 (lv_at hl 5 rfl) ?_
    refine z_icmp_gt (tgt := 124) hx hb dX2_liftOver_72 (by decide) (by omega) (by omega) (fun c72 => by exfalso; omega) (fun c72 => ?_)
    refine lv_aload_n hx hb dX2_liftOver_75 rfl (lv_at hl 1 rfl) ?_
    refine lv_iload hx hb dX2_liftOver_76 (lv_at hl 8 rfl) ?_
    refine lv_iload_n hx hb dX2_liftOver_78 rfl (lv_at hl 2 rfl) ?_
    refine z_sub hx hb dX2_liftOver_79 ?_
    refine lv_iload hx hb dX2_liftOver_80 (lv_at hl 7 rfl) ?_
    refine lv_iload_n hx hb dX2_liftOver_82 rfl (lv_at hl 3 rfl) ?_
    refine z_sub hx hb dX2_liftOver_83 ?_
    have hdv := dOv_rg (dp := dp j) (r := rd j) (dx := loB (rd j) x + ((i : Nat) : Int) - x) (dy := u - y) hdp
    have hgr := lfR_rg (w := w) (r := rd j) (x := x) (y := y) (py := u) (n := i) hwa hdp hg
    have hwb := hwa (u * (w : Int) + (loB (rd j) x + ((i : Nat) : Int))).toNat
    have hix := z_ix (w := w) (h := h) hB.1 (by omega) hu.1 hu.2
    have hwh := z_wh hw.2 hh.2
    have hsub := rpW_sub (a := a) (cA := cA) (w := w) (h := h) (wa := wa) (ma := ma) (ka := ka) (li := li) (hk := hk) (sh := sh) (T := T) (kd := kd) (rd := rd) (dp := dp) hj
    have hFc := z_freeR hsub hD hS hA
    refine z_rcalli (va_runV (As := [.int (iI ((loB (rd j) x + ((i : Nat) : Int)) - x)), .int (iI (u - y))]) (rest := []) ⟨hx, hb, hml, hown, hts⟩ (c_X0_depthOver l dC dI (H).size (a (8 + j)) (a (12 + j)) (cA (6 + j)) (kd j) (rd j) (dp j) ((loB (rd j) x + ((i : Nat) : Int)) - x) (u - y) (by omega) (by omega) hrd) (cwV 2 hts g_X2_98 rfl rfl rfl (by decide +kernel) ⟨Nat.le_of_ble_eq_true rfl, Nat.le_of_ble_eq_true rfl⟩) (zP_V (ci := 0) (q0 := 0) rfl rfl (z_subP hsub hP) (rpT_K hj hK) (rpW_DT hj hD) hS hFc hZ) rfl rfl hl.1 rfl (lv_room (Nat.le_of_ble_eq_true rfl)) dX2_liftOver_84 ⟨Nat.le_of_ble_eq_true rfl, Nat.le_of_ble_eq_true rfl⟩) hP hD hS hFc (hsub) (fun H locs _ hP hD hS _ => ?_)
    refine lv_istore (lv' := [(9, .int (iI (dOv (dp j) (rd j) ((loB (rd j) x + ((i : Nat) : Int)) - x) (u - y)))), (0, .ref (a 0)), (1, .ref (a (8 + j))), (2, .int (iI x)), (3, .int (iI y)), (4, .int (iI (lfR w wa (dp j) (rd j) x y u i g))), (5, .int (iI (hiB w (rd j) x))), (6, .int (iI v)), (7, .int (iI u)), (8, .int (iI (loB (rd j) x + ((i : Nat) : Int))))]) hx hb dX2_liftOver_87 hl (by decide) rfl (fun ls hl => ?_)
    refine lv_iload hx hb dX2_liftOver_89 (lv_at hl 0 rfl) ?_
    refine lv_iconst (v := iI (-1)) hx hb dX2_liftOver_91 rfl ?_
    refine z_icmp_eq (tgt := 118) hx hb dX2_liftOver_92 (by decide) (by omega) (by omega) (fun c92 => ?_) (fun c92 => ?_)
    · refine lv_iinc (v := iI (loB (rd j) x + (((i + 1) : Nat) : Int))) (lv' := [(8, .int (iI (loB (rd j) x + (((i + 1) : Nat) : Int)))), (9, .int (iI (dOv (dp j) (rd j) ((loB (rd j) x + ((i : Nat) : Int)) - x) (u - y)))), (0, .ref (a 0)), (1, .ref (a (8 + j))), (2, .int (iI x)), (3, .int (iI y)), (4, .int (iI (lfR w wa (dp j) (rd j) x y u i g))), (5, .int (iI (hiB w (rd j) x))), (6, .int (iI v)), (7, .int (iI u))]) hx hb dX2_liftOver_118 hl (k := 9) rfl ((iI_add _ _).trans (congrArg iI (by omega))) (by decide) rfl (fun ls hl => ?_)
      refine lv_goto (tgt := 68) hx hb dX2_liftOver_121 (by decide) ?_
      have eg : lfR w wa (dp j) (rd j) x y u (i + 1) g = lfR w wa (dp j) (rd j) x y u i g := by
        show lfS w wa (dp j) (rd j) x y (loB (rd j) x + ((i : Nat) : Int)) u (lfR w wa (dp j) (rd j) x y u i g) = _
        unfold lfS
        split <;> first | rfl | (exfalso; omega)
      exact ih (i + 1) (by omega) _ _ _ hP hD hS (by rw [eg]; exact lv_sub hl [2, 3, 4, 5, 6, 7, 8, 9, 0] rfl)
    · refine lv_iload hx hb dX2_liftOver_95 (lv_at hl 5 rfl) ?_
      refine lv_aload_n hx hb dX2_liftOver_97 rfl (lv_at hl 1 rfl) ?_
      refine va_get (D := (dC, dI)) (ci := 2) (v := .ref (a 1)) (C := RX2) (T := TX2) (N := 10) hx hb hts inX2 hown hK hP 0 rfl rfl 2 (by decide) (hts _ wm_173) (fun _ h9 => h9) rfl dX2_liftOver_98 ?_
      refine lv_aload_n hx hb dX2_liftOver_101 rfl (lv_at hl 1 rfl) ?_
      refine lv_iload hx hb dX2_liftOver_102 (lv_at hl 9 rfl) ?_
      refine lv_iload hx hb dX2_liftOver_104 (lv_at hl 8 rfl) ?_
      have hFc := z_freeR (wc := rpW a cA w h wa ma ka li hk sh T kd rd dp) (fun _ h => h) hD hS hA
      refine z_wcalli (va_runV (As := [.int (iI (loB (rd j) x + ((i : Nat) : Int))), .int (iI u)]) (rest := [.ref (a 1), .int (iI (lfR w wa (dp j) (rd j) x y u i g))]) ⟨hx, hb, hml, hown, hts⟩ (c_X2_placeAt l dC dI (H).size a cA w h wa ma ka li hk sh T kd rd dp (loB (rd j) x + ((i : Nat) : Int)) u) (cwV 2 hts g_X2_68 rfl rfl rfl (by decide +kernel) ⟨Nat.le_of_ble_eq_true rfl, Nat.le_of_ble_eq_true rfl⟩) (zP_V (ci := 2) (q0 := 0) rfl rfl hP hK hD hS hFc hZ) rfl rfl hl.1 rfl (lv_room (Nat.le_of_ble_eq_true rfl)) dX2_liftOver_106 ⟨Nat.le_of_ble_eq_true rfl, Nat.le_of_ble_eq_true rfl⟩) hS hFc (fun H locs _ hP hD hS _ => ?_)
      have hP : va_P (dC, dI) vwCl (rpW a cA w h wa ma ka li hk sh T kd rd dp) H := hP
      have hD : va_D A (rpW a cA w h wa ma ka li hk sh T kd rd dp) := hD
      refine z_iald (f := wa) (i := u * (w : Int) + (loB (rd j) x + ((i : Nat) : Int))) hx hb hK hP 1 0 rfl rfl (hix) (by omega) dX2_liftOver_109 ?_
      refine lv_iload hx hb dX2_liftOver_110 (lv_at hl 0 rfl) ?_
      refine z_sub hx hb dX2_liftOver_112 ?_
      refine z_max hx hb (hml.trans hl.1.symm) hown (hts _ wm_127) (hts _ wm_128) (hts _ wm_110) (hts _ wm_129) (Nat.le_of_ble_eq_true rfl) (Nat.le_of_ble_eq_true rfl) (Nat.le_of_ble_eq_true rfl) (Nat.le_of_ble_eq_true rfl) dX2_liftOver_113 (by omega) (by omega) ?_
      refine lv_istore (lv' := [(4, .int (iI (max (lfR w wa (dp j) (rd j) x y u i g) ((wa (u * (w : Int) + (loB (rd j) x + ((i : Nat) : Int))).toNat) - (dOv (dp j) (rd j) ((loB (rd j) x + ((i : Nat) : Int)) - x) (u - y)))))), (9, .int (iI (dOv (dp j) (rd j) ((loB (rd j) x + ((i : Nat) : Int)) - x) (u - y)))), (0, .ref (a 0)), (1, .ref (a (8 + j))), (2, .int (iI x)), (3, .int (iI y)), (5, .int (iI (hiB w (rd j) x))), (6, .int (iI v)), (7, .int (iI u)), (8, .int (iI (loB (rd j) x + ((i : Nat) : Int))))]) hx hb dX2_liftOver_116 hl (by decide) rfl (fun ls hl => ?_)
      refine lv_iinc (v := iI (loB (rd j) x + (((i + 1) : Nat) : Int))) (lv' := [(8, .int (iI (loB (rd j) x + (((i + 1) : Nat) : Int)))), (4, .int (iI (max (lfR w wa (dp j) (rd j) x y u i g) ((wa (u * (w : Int) + (loB (rd j) x + ((i : Nat) : Int))).toNat) - (dOv (dp j) (rd j) ((loB (rd j) x + ((i : Nat) : Int)) - x) (u - y)))))), (9, .int (iI (dOv (dp j) (rd j) ((loB (rd j) x + ((i : Nat) : Int)) - x) (u - y)))), (0, .ref (a 0)), (1, .ref (a (8 + j))), (2, .int (iI x)), (3, .int (iI y)), (5, .int (iI (hiB w (rd j) x))), (6, .int (iI v)), (7, .int (iI u))]) hx hb dX2_liftOver_118 hl (k := 9) rfl ((iI_add _ _).trans (congrArg iI (by omega))) (by decide) rfl (fun ls hl => ?_)
      refine lv_goto (tgt := 68) hx hb dX2_liftOver_121 (by decide) ?_
      have eg : lfR w wa (dp j) (rd j) x y u (i + 1) g = max (lfR w wa (dp j) (rd j) x y u i g) ((wa (u * (w : Int) + (loB (rd j) x + ((i : Nat) : Int))).toNat) - (dOv (dp j) (rd j) ((loB (rd j) x + ((i : Nat) : Int)) - x) (u - y))) := by
        show lfS w wa (dp j) (rd j) x y (loB (rd j) x + ((i : Nat) : Int)) u (lfR w wa (dp j) (rd j) x y u i g) = _
        unfold lfS
        split <;> first | rfl | (exfalso; omega)
      exact ih (i + 1) (by omega) _ _ _ hP hD hS (by rw [eg]; exact lv_sub hl [3, 4, 5, 6, 1, 7, 8, 9, 0] rfl)
set_option maxHeartbeats 4000000 in
set_option maxRecDepth 100000 in
theorem lp_X2_liftOver_49 {p : Program} {l : Launch} {e : Env} {s : State} {m : MethodId} {args : Array Value} {below : List Frame} {meth : Method} {c : Code} {Q : State → Prop} {A : Nat → Prop} {dC : Nat → ClassId} {dI : Nat → Nat → Nat} (a : Nat → Nat) (cA : Nat → ClassId) (w h : Nat) (wa ma ka li : Nat → Int) (hk sh : Int) (T : TK) (kd rd : Nat → Int) (dp : Nat → Nat → Int) (j : Nat) (x y : Int) (hx : p.tables.exec = Jvm.exec) (hb : c.code = cX2_liftOver) (hml : c.maxLocals = 10) (hown : s.vm.findClass RX2 = some m.cls) (hts : ∀ w ∈ wsAll, w.before args s = true) (hA : ∀ q : Nat, s.heap.size ≤ q → A q) (hZ : zZ A s s.heap) (hK : va_K (dC, dI) vwCl (rpT cA) s) (hw : 1 ≤ w ∧ w ≤ 20) (hh : 1 ≤ h ∧ h ≤ 20) (hj : j < 4) (hrd : 0 ≤ rd j ∧ rd j ≤ 5) (hx0 : 0 ≤ x ∧ x < (w : Int)) (hy0 : 0 ≤ y ∧ y < (h : Int)) (hdp : bd (dp j) (-1) 5) (hwa : bd wa 0 1000) (kk : ∀ (H : Heap) (locs : List Loc) (ls : Array Slot), va_P (dC, dI) vwCl (rpW a cA w h wa ma ka li hk sh T kd rd dp) H → va_D A (rpW a cA w h wa ma ka li hk sh T kd rd dp) → va_S A s.heap H locs → lv_has ls 10 [(0, .ref (a 0)), (1, .ref (a (8 + j))), (2, .int (iI x)), (3, .int (iI y)), (4, .int (iI (lfF w h wa (dp j) (rd j) x y (nB h (rd j) y)))), (5, .int (iI (hiB w (rd j) x))), (6, .int (iI (hiB h (rd j) y))), (7, .int (iI (loB (rd j) y + ((nB h (rd j) y : Nat) : Int))))] → W p l e r_X2_liftOver s m args below meth c H locs 0 0 Q (F0 m 130 ls [])) : ∀ (n i : Nat), i + n = nB h (rd j) y → ∀ (H : Heap) (locs : List Loc) (ls : Array Slot), va_P (dC, dI) vwCl (rpW a cA w h wa ma ka li hk sh T kd rd dp) H → va_D A (rpW a cA w h wa ma ka li hk sh T kd rd dp) → va_S A s.heap H locs → lv_has ls 10 [(0, .ref (a 0)), (1, .ref (a (8 + j))), (2, .int (iI x)), (3, .int (iI y)), (4, .int (iI (lfF w h wa (dp j) (rd j) x y i))), (5, .int (iI (hiB w (rd j) x))), (6, .int (iI (hiB h (rd j) y))), (7, .int (iI (loB (rd j) y + ((i : Nat) : Int))))] → W p l e r_X2_liftOver s m args below meth c H locs 0 0 Q (F0 m 49 ls []) := by
  intro n
  induction n with
  | zero =>
    intro i hi H locs ls hP hD hS hl
    have hi9 : nB h (rd j) y = i := by omega
    subst hi9
    have hB := B_out (n := h) (r := rd j) (x := y) hy0.1 hy0.2 hrd.1
    refine lv_iload hx hb dX2_liftOver_49 (lv_at hl 7 rfl) ?_
    refine lv_iload hx hb dX2_liftOver_51 (lv_at hl 6 rfl) ?_
    refine z_icmp_gt (tgt := 130) hx hb dX2_liftOver_53 (by decide) (by omega) (by omega) (fun c53 => ?_) (fun c53 => by exfalso; omega)
    exact kk _ _ _ hP hD hS (lv_sub hl [0, 1, 2, 3, 4, 5, 6, 7] rfl)
  | succ n ih =>
    intro i hi H locs ls hP hD hS hl
    have hB := B_in (n := h) (i := i) (r := rd j) (x := y) (by omega) hy0.1 hy0.2 hrd.1
    refine lv_iload hx hb dX2_liftOver_49 (lv_at hl 7 rfl) ?_
    refine lv_iload hx hb dX2_liftOver_51 (lv_at hl 6 rfl) ?_
    refine z_icmp_gt (tgt := 130) hx hb dX2_liftOver_53 (by decide) (by omega) (by omega) (fun c53 => by exfalso; omega) (fun c53 => ?_)
    refine lv_iconst (v := iI 0) hx hb dX2_liftOver_56 rfl ?_
    refine lv_iload_n hx hb dX2_liftOver_57 rfl (lv_at hl 2 rfl) ?_
    refine lv_aload_n hx hb dX2_liftOver_58 rfl (lv_at hl 1 rfl) ?_
    refine va_getN (D := (dC, dI)) (ci := 0) (v := .int (iI (rd j))) (C := RX0) (T := TX0) (N := 3) hx hb hts inX0 hown hK hP (8 + j) (rpW_tool hj) rfl 1 (by decide) (va_Nw.use rfl (hZ.1 (.fieldLinkNest RX2 181 RX0 "radius" "I" RX2) (by decide +kernel))) (fun _ h9 => h9) rfl dX2_liftOver_59 ?_
    refine z_sub hx hb dX2_liftOver_62 ?_
    refine z_max hx hb (hml.trans hl.1.symm) hown (hts _ wm_127) (hts _ wm_128) (hts _ wm_110) (hts _ wm_129) (Nat.le_of_ble_eq_true rfl) (Nat.le_of_ble_eq_true rfl) (Nat.le_of_ble_eq_true rfl) (Nat.le_of_ble_eq_true rfl) dX2_liftOver_63 (by omega) (by omega) ?_
    refine z_top (b := loB (rd j) x + ((0 : Nat) : Int)) (by unfold loB; omega) ?_
    refine lv_istore (lv' := [(8, .int (iI (loB (rd j) x + ((0 : Nat) : Int)))), (0, .ref (a 0)), (1, .ref (a (8 + j))), (2, .int (iI x)), (3, .int (iI y)), (4, .int (iI (lfF w h wa (dp j) (rd j) x y i))), (5, .int (iI (hiB w (rd j) x))), (6, .int (iI (hiB h (rd j) y))), (7, .int (iI (loB (rd j) y + ((i : Nat) : Int))))]) hx hb dX2_liftOver_66 hl (by decide) rfl (fun ls hl => ?_)
    refine lp_X2_liftOver_68 a cA w h wa ma ka li hk sh T kd rd dp j x y (loB (rd j) y + ((i : Nat) : Int)) (hiB h (rd j) y) (lfF w h wa (dp j) (rd j) x y i) hx hb hml hown hts hA hZ hK (hw) (hh) (hj) (hrd) (hx0) (hy0) (hdp) (hwa) (⟨hB.1, by omega⟩) (lfF_rg hwa hdp) (fun H locs ls hP hD hS hl => ?_)  (nB w (rd j) x) 0 (by omega) _ _ _ hP hD hS (lv_sub hl [1, 2, 3, 4, 5, 6, 7, 8, 0] rfl)
    have hP : va_P (dC, dI) vwCl (rpW a cA w h wa ma ka li hk sh T kd rd dp) H := hP
    have hD : va_D A (rpW a cA w h wa ma ka li hk sh T kd rd dp) := hD
    have hl : lv_has ls 10 [(0, .ref (a 0)), (1, .ref (a (8 + j))), (2, .int (iI x)), (3, .int (iI y)), (4, .int (iI (lfR w wa (dp j) (rd j) x y (loB (rd j) y + ((i : Nat) : Int)) (nB w (rd j) x) (lfF w h wa (dp j) (rd j) x y i)))), (5, .int (iI (hiB w (rd j) x))), (6, .int (iI (hiB h (rd j) y))), (7, .int (iI (loB (rd j) y + ((i : Nat) : Int)))), (8, .int (iI (loB (rd j) x + ((nB w (rd j) x : Nat) : Int))))] := hl
    refine lv_iinc (v := iI (loB (rd j) y + (((i + 1) : Nat) : Int))) (lv' := [(7, .int (iI (loB (rd j) y + (((i + 1) : Nat) : Int)))), (0, .ref (a 0)), (1, .ref (a (8 + j))), (2, .int (iI x)), (3, .int (iI y)), (4, .int (iI (lfR w wa (dp j) (rd j) x y (loB (rd j) y + ((i : Nat) : Int)) (nB w (rd j) x) (lfF w h wa (dp j) (rd j) x y i)))), (5, .int (iI (hiB w (rd j) x))), (6, .int (iI (hiB h (rd j) y))), (8, .int (iI (loB (rd j) x + ((nB w (rd j) x : Nat) : Int))))]) hx hb dX2_liftOver_124 hl (k := 7) rfl ((iI_add _ _).trans (congrArg iI (by omega))) (by decide) rfl (fun ls hl => ?_)
    refine lv_goto (tgt := 49) hx hb dX2_liftOver_127 (by decide) ?_
    exact ih (i + 1) (by omega) _ _ _ hP hD hS (lv_sub hl [1, 2, 3, 4, 5, 6, 7, 0] rfl)
set_option maxHeartbeats 4000000 in
set_option maxRecDepth 100000 in
theorem c_X2_liftOver (l : Launch) (dC : Nat → ClassId) (dI : Nat → Nat → Nat) (sz : Nat) (a : Nat → Nat) (cA : Nat → ClassId) (w h : Nat) (wa ma ka li : Nat → Int) (hk sh : Int) (T : TK) (kd rd : Nat → Int) (dp : Nat → Nat → Int) (j : Nat) (x y : Int) (hw : 1 ≤ w ∧ w ≤ 20) (hh : 1 ≤ h ∧ h ≤ 20) (hj : j < 4) (hrd : 0 ≤ rd j ∧ rd j ≤ 5) (hx0 : 0 ≤ x ∧ x < (w : Int)) (hy0 : 0 ≤ y ∧ y < (h : Int)) (hdp : bd (dp j) (-1) 5) (hwa : bd wa 0 1000) : Met l yX2_liftOver wsX2_liftOver r_X2_liftOver (zP (dC, dI) vwCl (rpT cA) (rpW a cA w h wa ma ka li hk sh T kd rd dp) sz [.ref (a 0), .ref (a (8 + j)), .int (iI x), .int (iI y)]) (zQi (dC, dI) vwCl (rpT cA) (rpW a cA w h wa ma ka li hk sh T kd rd dp) sz (True) (lfF w h wa (dp j) (rd j) x y (nB h (rd j) y)) (rpW a cA w h wa ma ka li hk sh T kd rd dp)) 0 0 (va_A (rpW a cA w h wa ma ka li hk sh T kd rd dp) sz) := by
  refine Met.ofW (cc := cX2_liftOver) (maxL := 10) (ret := (some .int)) (by decide) rfl ?_
  intro p e s m args below meth c s₁ B hml hv
  obtain ⟨rfl, hsz, hP, hK, hD0, hZ⟩ := hv
  have hx := B.exec
  have hb := B.bytes
  have hr := B.returns
  have hts0 := atoms_spec (ws := wsX2_liftOver) B.pre
  have hts : ∀ w ∈ wsAll, w.before _ s = true := fun w h => hts0 w (List.mem_cons_of_mem _ h)
  have hown : s.vm.findClass RX2 = some m.cls := findClass_of_methodNamed B.named
  have hlocks := B.notSynchronized
  subst hsz
  have hD := hD0.self (sz := s.heap.size)
  obtain ⟨A, hAe⟩ : ∃ A, A = va_A (rpW a cA w h wa ma ka li hk sh T kd rd dp) s.heap.size := ⟨_, rfl⟩
  rw [← hAe] at hD hZ
  have hA : ∀ q : Nat, s.heap.size ≤ q → A q := fun q h => by rw [hAe]; exact Or.inr h
  have hS : va_S A s.heap s.heap [] := va_S.rf
  have hP : va_P (dC, dI) vwCl (rpW a cA w h wa ma ka li hk sh T kd rd dp) s.heap := hP
  have hl := lv_entry ([.ref (a 0), .ref (a (8 + j)), .int (iI x), .int (iI y)]) (n := 10) (Nat.le_of_ble_eq_true rfl)
  rw [lg_entry_eq]
  generalize (lg_sl ([.ref (a 0), .ref (a (8 + j)), .int (iI x), .int (iI y)]) ++ List.replicate (10 - (lg_sl ([.ref (a 0), .ref (a (8 + j)), .int (iI x), .int (iI y)])).length) Slot.unset).toArray = ls at hl ⊢
  have hl : lv_has ls 10 [(0, .ref (a 0)), (1, .ref (a (8 + j))), (2, .int (iI x)), (3, .int (iI y))] := hl
  refine lv_iconst (v := iI 0) hx hb dX2_liftOver_0 rfl ?_
  refine lv_istore (lv' := [(4, .int (iI 0)), (0, .ref (a 0)), (1, .ref (a (8 + j))), (2, .int (iI x)), (3, .int (iI y))]) hx hb dX2_liftOver_1 hl (by decide) rfl (fun ls hl => ?_)
  refine lv_aload_n hx hb dX2_liftOver_3 rfl (lv_at hl 1 rfl) ?_
  refine va_get (D := (dC, dI)) (ci := 2) (v := .int (iI (w : Int))) (C := RX2) (T := TX2) (N := 10) hx hb hts inX2 hown hK hP 0 rfl rfl 0 (by decide) (hts _ wm_171) (fun _ h9 => h9) rfl dX2_liftOver_4 ?_
  refine lv_iconst (v := iI 1) hx hb dX2_liftOver_7 rfl ?_
  refine z_sub hx hb dX2_liftOver_8 ?_
  refine lv_iload_n hx hb dX2_liftOver_9 rfl (lv_at hl 3 rfl) ?_
  refine lv_aload_n hx hb dX2_liftOver_10 rfl (lv_at hl 2 rfl) ?_
  refine va_getN (D := (dC, dI)) (ci := 0) (v := .int (iI (rd j))) (C := RX0) (T := TX0) (N := 3) hx hb hts inX0 hown hK hP (8 + j) (rpW_tool hj) rfl 1 (by decide) (va_Nw.use rfl (hZ.1 (.fieldLinkNest RX2 181 RX0 "radius" "I" RX2) (by decide +kernel))) (fun _ h9 => h9) rfl dX2_liftOver_11 ?_
  refine z_add hx hb dX2_liftOver_14 ?_
  refine z_min hx hb (hml.trans hl.1.symm) hown (hts _ wm_124) (hts _ wm_125) (hts _ wm_110) (hts _ wm_126) (Nat.le_of_ble_eq_true rfl) (Nat.le_of_ble_eq_true rfl) (Nat.le_of_ble_eq_true rfl) (Nat.le_of_ble_eq_true rfl) dX2_liftOver_15 (by omega) (by omega) ?_
  refine z_top (b := hiB w (rd j) x) (rfl) ?_
  refine lv_istore (lv' := [(5, .int (iI (hiB w (rd j) x))), (4, .int (iI 0)), (0, .ref (a 0)), (1, .ref (a (8 + j))), (2, .int (iI x)), (3, .int (iI y))]) hx hb dX2_liftOver_18 hl (by decide) rfl (fun ls hl => ?_)
  refine lv_aload_n hx hb dX2_liftOver_20 rfl (lv_at hl 2 rfl) ?_
  refine va_get (D := (dC, dI)) (ci := 2) (v := .int (iI (h : Int))) (C := RX2) (T := TX2) (N := 10) hx hb hts inX2 hown hK hP 0 rfl rfl 1 (by decide) (hts _ wm_172) (fun _ h9 => h9) rfl dX2_liftOver_21 ?_
  refine lv_iconst (v := iI 1) hx hb dX2_liftOver_24 rfl ?_
  refine z_sub hx hb dX2_liftOver_25 ?_
  refine lv_iload_n hx hb dX2_liftOver_26 rfl (lv_at hl 5 rfl) ?_
  refine lv_aload_n hx hb dX2_liftOver_27 rfl (lv_at hl 3 rfl) ?_
  refine va_getN (D := (dC, dI)) (ci := 0) (v := .int (iI (rd j))) (C := RX0) (T := TX0) (N := 3) hx hb hts inX0 hown hK hP (8 + j) (rpW_tool hj) rfl 1 (by decide) (va_Nw.use rfl (hZ.1 (.fieldLinkNest RX2 181 RX0 "radius" "I" RX2) (by decide +kernel))) (fun _ h9 => h9) rfl dX2_liftOver_28 ?_
  refine z_add hx hb dX2_liftOver_31 ?_
  refine z_min hx hb (hml.trans hl.1.symm) hown (hts _ wm_124) (hts _ wm_125) (hts _ wm_110) (hts _ wm_126) (Nat.le_of_ble_eq_true rfl) (Nat.le_of_ble_eq_true rfl) (Nat.le_of_ble_eq_true rfl) (Nat.le_of_ble_eq_true rfl) dX2_liftOver_32 (by omega) (by omega) ?_
  refine z_top (b := hiB h (rd j) y) (rfl) ?_
  refine lv_istore (lv' := [(6, .int (iI (hiB h (rd j) y))), (5, .int (iI (hiB w (rd j) x))), (4, .int (iI 0)), (0, .ref (a 0)), (1, .ref (a (8 + j))), (2, .int (iI x)), (3, .int (iI y))]) hx hb dX2_liftOver_35 hl (by decide) rfl (fun ls hl => ?_)
  refine lv_iconst (v := iI 0) hx hb dX2_liftOver_37 rfl ?_
  refine lv_iload_n hx hb dX2_liftOver_38 rfl (lv_at hl 6 rfl) ?_
  refine lv_aload_n hx hb dX2_liftOver_39 rfl (lv_at hl 4 rfl) ?_
  refine va_getN (D := (dC, dI)) (ci := 0) (v := .int (iI (rd j))) (C := RX0) (T := TX0) (N := 3) hx hb hts inX0 hown hK hP (8 + j) (rpW_tool hj) rfl 1 (by decide) (va_Nw.use rfl (hZ.1 (.fieldLinkNest RX2 181 RX0 "radius" "I" RX2) (by decide +kernel))) (fun _ h9 => h9) rfl dX2_liftOver_40 ?_
  refine z_sub hx hb dX2_liftOver_43 ?_
  refine z_max hx hb (hml.trans hl.1.symm) hown (hts _ wm_127) (hts _ wm_128) (hts _ wm_110) (hts _ wm_129) (Nat.le_of_ble_eq_true rfl) (Nat.le_of_ble_eq_true rfl) (Nat.le_of_ble_eq_true rfl) (Nat.le_of_ble_eq_true rfl) dX2_liftOver_44 (by omega) (by omega) ?_
  refine z_top (b := loB (rd j) y + ((0 : Nat) : Int)) (by unfold loB; omega) ?_
  refine lv_istore (lv' := [(7, .int (iI (loB (rd j) y + ((0 : Nat) : Int)))), (6, .int (iI (hiB h (rd j) y))), (5, .int (iI (hiB w (rd j) x))), (4, .int (iI 0)), (0, .ref (a 0)), (1, .ref (a (8 + j))), (2, .int (iI x)), (3, .int (iI y))]) hx hb dX2_liftOver_47 hl (by decide) rfl (fun ls hl => ?_)
  refine lp_X2_liftOver_49 a cA w h wa ma ka li hk sh T kd rd dp j x y hx hb hml hown hts hA hZ hK (hw) (hh) (hj) (hrd) (hx0) (hy0) (hdp) (hwa) (fun H locs ls hP hD hS hl => ?_)  (nB h (rd j) y) 0 (by omega) _ _ _ hP hD hS (lv_sub hl [4, 5, 6, 7, 3, 2, 1, 0] rfl)
  have hP : va_P (dC, dI) vwCl (rpW a cA w h wa ma ka li hk sh T kd rd dp) H := hP
  have hD : va_D A (rpW a cA w h wa ma ka li hk sh T kd rd dp) := hD
  have hl : lv_has ls 10 [(0, .ref (a 0)), (1, .ref (a (8 + j))), (2, .int (iI x)), (3, .int (iI y)), (4, .int (iI (lfF w h wa (dp j) (rd j) x y (nB h (rd j) y)))), (5, .int (iI (hiB w (rd j) x))), (6, .int (iI (hiB h (rd j) y))), (7, .int (iI (loB (rd j) y + ((nB h (rd j) y : Nat) : Int))))] := hl
  refine lv_iload hx hb dX2_liftOver_130 (lv_at hl 4 rfl) ?_
  subst hAe
  exact z_iret hx hb hr hlocks hP hK hD hS (trivial) dX2_liftOver_132
