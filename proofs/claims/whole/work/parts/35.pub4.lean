abbrev r_X2_rest : Room := { frames := 7, cells := 2, slots := 12, locals := 113 }
set_option maxHeartbeats 4000000 in
set_option maxRecDepth 100000 in
theorem lp_X2_rest_32 {p : Program} {l : Launch} {e : Env} {s : State} {m : MethodId} {args : Array Value} {below : List Frame} {meth : Method} {c : Code} {Q : State → Prop} {A : Nat → Prop} {dC : Nat → ClassId} {dI : Nat → Nat → Nat} (a : Nat → Nat) (cA : Nat → ClassId) (w h : Nat) (wa ma ka li : Nat → Int) (hk sh : Int) (T : TK) (kd rd : Nat → Int) (dp : Nat → Nat → Int) (v k u : Int) (q0 : Int × Int) (hx : p.tables.exec = Jvm.exec) (hb : c.code = cX2_rest) (hml : c.maxLocals = 6) (hown : s.vm.findClass RX2 = some m.cls) (hts : ∀ w ∈ wsAll, w.before args s = true) (hA : ∀ q : Nat, s.heap.size ≤ q → A q) (hZ : zZ A s s.heap) (hK : va_K (dC, dI) vwCl (rpT cA) s) (hw : 1 ≤ w ∧ w ≤ 20) (hh : 1 ≤ h ∧ h ≤ 20) (hwa : bd wa 0 1000) (hma : bd ma 0 1000) (hv : 0 ≤ v ∧ v ≤ 1000) (hk1 : rg k) (hu : 0 ≤ u ∧ u < (h : Int)) (hs : 0 ≤ q0.1 ∧ q0.1 ≤ 100000) (kk : (rsR w ma wa v k u w q0).2 = -2 → ∀ (H : Heap) (locs : List Loc) (ls : Array Slot), va_P (dC, dI) vwCl (rpW a cA w h wa ma ka li hk sh T kd rd dp) H → va_D A (rpW a cA w h wa ma ka li hk sh T kd rd dp) → va_S A s.heap H locs → lv_has ls 6 [(0, .ref (a 0)), (1, .int (iI v)), (2, .int (iI k)), (3, .int (iI ((rsR w ma wa v k u w q0).1))), (4, .int (iI u)), (5, .int (iI ((w : Nat) : Int)))] → W p l e r_X2_rest s m args below meth c H locs 2 12 Q (F0 m 80 ls [])) (kr : ∀ (i : Nat), i < w → (rsR w ma wa v k u i q0).2 = -2 → ¬ (rsR w ma wa v k u (i + 1) q0).2 = -2 → ∀ (H : Heap) (locs : List Loc) (ls : Array Slot), va_P (dC, dI) vwCl (rpW a cA w h wa ma ka li hk sh T kd rd dp) H → va_D A (rpW a cA w h wa ma ka li hk sh T kd rd dp) → va_S A s.heap H locs → lv_has ls 6 [(0, .ref (a 0)), (1, .int (iI v)), (2, .int (iI k))] → W p l e r_X2_rest s m args below meth c H locs 2 12 Q (F0 m 70 ls [.int (iI ((rsR w ma wa v k u (i + 1) q0).2))])) : ∀ (n i : Nat), i + n = w → (rsR w ma wa v k u i q0).2 = -2 → ∀ (H : Heap) (locs : List Loc) (ls : Array Slot), va_P (dC, dI) vwCl (rpW a cA w h wa ma ka li hk sh T kd rd dp) H → va_D A (rpW a cA w h wa ma ka li hk sh T kd rd dp) → va_S A s.heap H locs → lv_has ls 6 [(0, .ref (a 0)), (1, .int (iI v)), (2, .int (iI k)), (3, .int (iI ((rsR w ma wa v k u i q0).1))), (4, .int (iI u)), (5, .int (iI ((i : Nat) : Int)))] → W p l e r_X2_rest s m args below meth c H locs 2 12 Q (F0 m 32 ls []) := by
  intro n
  induction n with
  | zero =>
    intro i hi hinv H locs ls hP hD hS hl
    have hi9 : w = i := by omega
    subst hi9
    refine lv_iload hx hb dX2_rest_32 (lv_at hl 5 rfl) ?_
    refine lv_aload_n hx hb dX2_rest_34 rfl (lv_at hl 0 rfl) ?_
    refine va_get (D := (dC, dI)) (ci := 2) (v := .int (iI (w : Int))) (C := RX2) (T := TX2) (N := 10) hx hb hts inX2 hown hK hP 0 rfl rfl 0 (by decide) (hts _ wm_171) (fun _ h9 => h9) rfl dX2_rest_35 ?_
    refine z_icmp_ge (tgt := 80) hx hb dX2_rest_38 (by decide) (by omega) (by omega) (fun c38 => ?_) (fun c38 => by exfalso; omega)
    exact kk hinv _ _ _ hP hD hS (lv_sub hl [0, 1, 2, 3, 4, 5] rfl)
  | succ n ih =>
    intro i hi hinv H locs ls hP hD hS hl
    have hwh := z_wh hw.2 hh.2
    have hix := z_ix (w := w) (h := h) (x := ((i : Nat) : Int)) (y := u) (by omega) (by omega) hu.1 hu.2
    have hb1 := hma (u * (w : Int) + ((i : Nat) : Int)).toNat
    have hb2 := hwa (u * (w : Int) + ((i : Nat) : Int)).toNat
    have hn1 := rsR_n (w := w) (ma := ma) (wa := wa) (v := v) (k := k) (y := u) (n := i) (s := q0) hs.1
    refine lv_iload hx hb dX2_rest_32 (lv_at hl 5 rfl) ?_
    refine lv_aload_n hx hb dX2_rest_34 rfl (lv_at hl 0 rfl) ?_
    refine va_get (D := (dC, dI)) (ci := 2) (v := .int (iI (w : Int))) (C := RX2) (T := TX2) (N := 10) hx hb hts inX2 hown hK hP 0 rfl rfl 0 (by decide) (hts _ wm_171) (fun _ h9 => h9) rfl dX2_rest_35 ?_
    refine z_icmp_ge (tgt := 80) hx hb dX2_rest_38 (by decide) (by omega) (by omega) (fun c38 => by exfalso; omega) (fun c38 => ?_)
    refine lv_aload_n hx hb dX2_rest_41 rfl (lv_at hl 0 rfl) ?_
    refine lv_aload_n hx hb dX2_rest_42 rfl (lv_at hl 0 rfl) ?_
    refine lv_iload hx hb dX2_rest_43 (lv_at hl 5 rfl) ?_
    refine lv_iload hx hb dX2_rest_45 (lv_at hl 4 rfl) ?_
    have hFc := z_freeR (wc := rpW a cA w h wa ma ka li hk sh T kd rd dp) (fun _ h => h) hD hS hA
    refine z_wcalli (va_runV (As := [.int (iI ((i : Nat) : Int)), .int (iI u)]) (rest := [.ref (a 0)]) ⟨hx, hb, hml, hown, hts⟩ (c_X2_placeAt l dC dI (H).size a cA w h wa ma ka li hk sh T kd rd dp ((i : Nat) : Int) u) (cwV 2 hts g_X2_68 rfl rfl rfl (by decide +kernel) ⟨Nat.le_of_ble_eq_true rfl, Nat.le_of_ble_eq_true rfl⟩) (zP_V (ci := 2) (q0 := 0) rfl rfl hP hK hD hS hFc hZ) rfl rfl hl.1 rfl (lv_room (Nat.le_of_ble_eq_true rfl)) dX2_rest_47 ⟨Nat.le_of_ble_eq_true rfl, Nat.le_of_ble_eq_true rfl⟩) hS hFc (fun H locs _ hP hD hS _ => ?_)
    have hP : va_P (dC, dI) vwCl (rpW a cA w h wa ma ka li hk sh T kd rd dp) H := hP
    have hD : va_D A (rpW a cA w h wa ma ka li hk sh T kd rd dp) := hD
    have hFc := z_freeR (wc := rpW a cA w h wa ma ka li hk sh T kd rd dp) (fun _ h => h) hD hS hA
    refine z_wcalli (va_runV (As := [.int (iI (u * (w : Int) + ((i : Nat) : Int)))]) (rest := []) ⟨hx, hb, hml, hown, hts⟩ (c_X2_leftAt l dC dI (H).size a cA w h wa ma ka li hk sh T kd rd dp (u * (w : Int) + ((i : Nat) : Int)) hw hh (hix)) (cwV 1 hts g_X2_116 rfl rfl rfl (by decide +kernel) ⟨Nat.le_of_ble_eq_true rfl, Nat.le_of_ble_eq_true rfl⟩) (zP_V (ci := 2) (q0 := 0) rfl rfl hP hK hD hS hFc hZ) rfl rfl hl.1 rfl (lv_room (Nat.le_of_ble_eq_true rfl)) dX2_rest_50 ⟨Nat.le_of_ble_eq_true rfl, Nat.le_of_ble_eq_true rfl⟩) hS hFc (fun H locs _ hP hD hS _ => ?_)
    have hP : va_P (dC, dI) vwCl (rpW a cA w h wa ma ka li hk sh T kd rd dp) H := hP
    have hD : va_D A (rpW a cA w h wa ma ka li hk sh T kd rd dp) := hD
    refine lv_iload_n hx hb dX2_rest_53 rfl (lv_at hl 1 rfl) ?_
    refine z_icmp_le (tgt := 74) hx hb dX2_rest_54 (by decide) (by omega) (by omega) (fun c54 => ?_) (fun c54 => ?_)
    · refine lv_iinc (v := iI (((i + 1) : Nat) : Int)) (lv' := [(5, .int (iI (((i + 1) : Nat) : Int))), (0, .ref (a 0)), (1, .int (iI v)), (2, .int (iI k)), (3, .int (iI ((rsR w ma wa v k u i q0).1))), (4, .int (iI u))]) hx hb dX2_rest_74 hl (k := 5) rfl ((iI_add _ _).trans (congrArg iI (by omega))) (by decide) rfl (fun ls hl => ?_)
      refine lv_goto (tgt := 32) hx hb dX2_rest_77 (by decide) ?_
      have e1 : (rsR w ma wa v k u (i + 1) q0).1 = (rsR w ma wa v k u i q0).1 := by
        show (rsS ma wa v k (u * (w : Int) + ((i : Nat) : Int)).toNat (20 * u + ((i : Nat) : Int)) (rsR w ma wa v k u i q0)).1 = _
        unfold rsS
        rw [if_pos hinv]
        (repeat' split) <;> first | rfl | (exfalso; omega)
      have e2 : (rsR w ma wa v k u (i + 1) q0).2 = -2 := by
        show (rsS ma wa v k (u * (w : Int) + ((i : Nat) : Int)).toNat (20 * u + ((i : Nat) : Int)) (rsR w ma wa v k u i q0)).2 = _
        unfold rsS
        rw [if_pos hinv]
        (repeat' split) <;> first | rfl | exact hinv | (exfalso; omega)
      exact ih (i + 1) (by omega) e2 _ _ _ hP hD hS (by rw [e1]; exact lv_sub hl [1, 2, 3, 4, 5, 0] rfl)
    · refine lv_iload_n hx hb dX2_rest_57 rfl (lv_at hl 3 rfl) ?_
      refine lv_iload_n hx hb dX2_rest_58 rfl (lv_at hl 2 rfl) ?_
      refine z_icmp_ne (tgt := 71) hx hb dX2_rest_59 (by decide) (by omega) (by omega) (fun c59 => ?_) (fun c59 => ?_)
      · refine lv_iinc (v := iI ((rsR w ma wa v k u i q0).1 + 1)) (lv' := [(3, .int (iI ((rsR w ma wa v k u i q0).1 + 1))), (0, .ref (a 0)), (1, .int (iI v)), (2, .int (iI k)), (4, .int (iI u)), (5, .int (iI ((i : Nat) : Int)))]) hx hb dX2_rest_71 hl (k := 3) rfl (iI_add _ _) (by decide) rfl (fun ls hl => ?_)
        refine lv_iinc (v := iI (((i + 1) : Nat) : Int)) (lv' := [(5, .int (iI (((i + 1) : Nat) : Int))), (3, .int (iI ((rsR w ma wa v k u i q0).1 + 1))), (0, .ref (a 0)), (1, .int (iI v)), (2, .int (iI k)), (4, .int (iI u))]) hx hb dX2_rest_74 hl (k := 5) rfl ((iI_add _ _).trans (congrArg iI (by omega))) (by decide) rfl (fun ls hl => ?_)
        refine lv_goto (tgt := 32) hx hb dX2_rest_77 (by decide) ?_
        have e1 : (rsR w ma wa v k u (i + 1) q0).1 = (rsR w ma wa v k u i q0).1 + 1 := by
          show (rsS ma wa v k (u * (w : Int) + ((i : Nat) : Int)).toNat (20 * u + ((i : Nat) : Int)) (rsR w ma wa v k u i q0)).1 = _
          unfold rsS
          rw [if_pos hinv]
          (repeat' split) <;> first | rfl | (exfalso; omega)
        have e2 : (rsR w ma wa v k u (i + 1) q0).2 = -2 := by
          show (rsS ma wa v k (u * (w : Int) + ((i : Nat) : Int)).toNat (20 * u + ((i : Nat) : Int)) (rsR w ma wa v k u i q0)).2 = _
          unfold rsS
          rw [if_pos hinv]
          (repeat' split) <;> first | rfl | exact hinv | (exfalso; omega)
        exact ih (i + 1) (by omega) e2 _ _ _ hP hD hS (by rw [e1]; exact lv_sub hl [2, 3, 4, 1, 5, 0] rfl)
      · refine lv_bipush (v := iI 20) hx hb dX2_rest_62 (by decide) ?_
        refine lv_iload hx hb dX2_rest_64 (lv_at hl 4 rfl) ?_
        refine z_mul hx hb dX2_rest_66 ?_
        refine lv_iload hx hb dX2_rest_67 (lv_at hl 5 rfl) ?_
        refine z_add hx hb dX2_rest_69 ?_
        refine z_top (b := (rsR w ma wa v k u (i + 1) q0).2) (by
          show _ = (rsS ma wa v k (u * (w : Int) + ((i : Nat) : Int)).toNat (20 * u + ((i : Nat) : Int)) (rsR w ma wa v k u i q0)).2
          unfold rsS
          rw [if_pos hinv, if_pos (by omega), if_pos c59]) ?_
        exact kr i (by omega) hinv (by
          show ¬ (rsS ma wa v k (u * (w : Int) + ((i : Nat) : Int)).toNat (20 * u + ((i : Nat) : Int)) (rsR w ma wa v k u i q0)).2 = -2
          unfold rsS
          rw [if_pos hinv, if_pos (by omega), if_pos c59]
          show ¬ 20 * u + ((i : Nat) : Int) = -2
          omega) _ _ _ hP hD hS (lv_sub hl [0, 1, 2] rfl)
set_option maxHeartbeats 4000000 in
set_option maxRecDepth 100000 in
theorem lp_X2_rest_20 {p : Program} {l : Launch} {e : Env} {s : State} {m : MethodId} {args : Array Value} {below : List Frame} {meth : Method} {c : Code} {Q : State → Prop} {A : Nat → Prop} {dC : Nat → ClassId} {dI : Nat → Nat → Nat} (a : Nat → Nat) (cA : Nat → ClassId) (w h : Nat) (wa ma ka li : Nat → Int) (hk sh : Int) (T : TK) (kd rd : Nat → Int) (dp : Nat → Nat → Int) (v k : Int) (q0 : Int × Int) (hx : p.tables.exec = Jvm.exec) (hb : c.code = cX2_rest) (hml : c.maxLocals = 6) (hown : s.vm.findClass RX2 = some m.cls) (hts : ∀ w ∈ wsAll, w.before args s = true) (hA : ∀ q : Nat, s.heap.size ≤ q → A q) (hZ : zZ A s s.heap) (hK : va_K (dC, dI) vwCl (rpT cA) s) (hw : 1 ≤ w ∧ w ≤ 20) (hh : 1 ≤ h ∧ h ≤ 20) (hwa : bd wa 0 1000) (hma : bd ma 0 1000) (hv : 0 ≤ v ∧ v ≤ 1000) (hk1 : rg k) (hs : 0 ≤ q0.1 ∧ q0.1 ≤ 0) (kk : (rsF w ma wa v k h q0).2 = -2 → ∀ (H : Heap) (locs : List Loc) (ls : Array Slot), va_P (dC, dI) vwCl (rpW a cA w h wa ma ka li hk sh T kd rd dp) H → va_D A (rpW a cA w h wa ma ka li hk sh T kd rd dp) → va_S A s.heap H locs → lv_has ls 6 [(0, .ref (a 0)), (1, .int (iI v)), (2, .int (iI k)), (3, .int (iI ((rsF w ma wa v k h q0).1))), (4, .int (iI ((h : Nat) : Int)))] → W p l e r_X2_rest s m args below meth c H locs 2 12 Q (F0 m 86 ls [])) (kr : ∀ (i : Nat), i < h → (rsF w ma wa v k i q0).2 = -2 → ¬ (rsF w ma wa v k (i + 1) q0).2 = -2 → ∀ (H : Heap) (locs : List Loc) (ls : Array Slot), va_P (dC, dI) vwCl (rpW a cA w h wa ma ka li hk sh T kd rd dp) H → va_D A (rpW a cA w h wa ma ka li hk sh T kd rd dp) → va_S A s.heap H locs → lv_has ls 6 [(0, .ref (a 0)), (1, .int (iI v)), (2, .int (iI k))] → W p l e r_X2_rest s m args below meth c H locs 2 12 Q (F0 m 70 ls [.int (iI ((rsF w ma wa v k (i + 1) q0).2))])) : ∀ (n i : Nat), i + n = h → (rsF w ma wa v k i q0).2 = -2 → ∀ (H : Heap) (locs : List Loc) (ls : Array Slot), va_P (dC, dI) vwCl (rpW a cA w h wa ma ka li hk sh T kd rd dp) H → va_D A (rpW a cA w h wa ma ka li hk sh T kd rd dp) → va_S A s.heap H locs → lv_has ls 6 [(0, .ref (a 0)), (1, .int (iI v)), (2, .int (iI k)), (3, .int (iI ((rsF w ma wa v k i q0).1))), (4, .int (iI ((i : Nat) : Int)))] → W p l e r_X2_rest s m args below meth c H locs 2 12 Q (F0 m 20 ls []) := by
  intro n
  induction n with
  | zero =>
    intro i hi hinv H locs ls hP hD hS hl
    have hi9 : h = i := by omega
    subst hi9
    refine lv_iload hx hb dX2_rest_20 (lv_at hl 4 rfl) ?_
    refine lv_aload_n hx hb dX2_rest_22 rfl (lv_at hl 0 rfl) ?_
    refine va_get (D := (dC, dI)) (ci := 2) (v := .int (iI (h : Int))) (C := RX2) (T := TX2) (N := 10) hx hb hts inX2 hown hK hP 0 rfl rfl 1 (by decide) (hts _ wm_172) (fun _ h9 => h9) rfl dX2_rest_23 ?_
    refine z_icmp_ge (tgt := 86) hx hb dX2_rest_26 (by decide) (by omega) (by omega) (fun c26 => ?_) (fun c26 => by exfalso; omega)
    exact kk hinv _ _ _ hP hD hS (lv_sub hl [0, 1, 2, 3, 4] rfl)
  | succ n ih =>
    intro i hi hinv H locs ls hP hD hS hl
    have hn1 := rsF_n (ma := ma) (wa := wa) (v := v) (k := k) (n := i) (s := q0) hw.2 hs.1
    refine lv_iload hx hb dX2_rest_20 (lv_at hl 4 rfl) ?_
    refine lv_aload_n hx hb dX2_rest_22 rfl (lv_at hl 0 rfl) ?_
    refine va_get (D := (dC, dI)) (ci := 2) (v := .int (iI (h : Int))) (C := RX2) (T := TX2) (N := 10) hx hb hts inX2 hown hK hP 0 rfl rfl 1 (by decide) (hts _ wm_172) (fun _ h9 => h9) rfl dX2_rest_23 ?_
    refine z_icmp_ge (tgt := 86) hx hb dX2_rest_26 (by decide) (by omega) (by omega) (fun c26 => by exfalso; omega) (fun c26 => ?_)
    refine lv_iconst (v := iI 0) hx hb dX2_rest_29 rfl ?_
    refine lv_istore (lv' := [(5, .int (iI 0)), (0, .ref (a 0)), (1, .int (iI v)), (2, .int (iI k)), (3, .int (iI ((rsF w ma wa v k i q0).1))), (4, .int (iI ((i : Nat) : Int)))]) hx hb dX2_rest_30 hl (by decide) rfl (fun ls hl => ?_)
    refine lp_X2_rest_32 a cA w h wa ma ka li hk sh T kd rd dp v k ((i : Nat) : Int) (rsF w ma wa v k i q0) hx hb hml hown hts hA hZ hK (hw) (hh) (hwa) (hma) (hv) (hk1) (by omega) (by omega) (fun hinv H locs ls hP hD hS hl => ?_) (fun i9 hi9 hinv9 hfact H locs ls hP hD hS hl => ?_) w 0 (by omega) (hinv) _ _ _ hP hD hS (lv_sub hl [1, 2, 3, 4, 5, 0] rfl)
    · have hP : va_P (dC, dI) vwCl (rpW a cA w h wa ma ka li hk sh T kd rd dp) H := hP
      have hD : va_D A (rpW a cA w h wa ma ka li hk sh T kd rd dp) := hD
      have hl : lv_has ls 6 [(0, .ref (a 0)), (1, .int (iI v)), (2, .int (iI k)), (3, .int (iI ((rsR w ma wa v k ((i : Nat) : Int) w (rsF w ma wa v k i q0)).1))), (4, .int (iI ((i : Nat) : Int))), (5, .int (iI ((w : Nat) : Int)))] := hl
      refine lv_iinc (v := iI (((i + 1) : Nat) : Int)) (lv' := [(4, .int (iI (((i + 1) : Nat) : Int))), (0, .ref (a 0)), (1, .int (iI v)), (2, .int (iI k)), (3, .int (iI ((rsR w ma wa v k ((i : Nat) : Int) w (rsF w ma wa v k i q0)).1))), (5, .int (iI ((w : Nat) : Int)))]) hx hb dX2_rest_80 hl (k := 4) rfl ((iI_add _ _).trans (congrArg iI (by omega))) (by decide) rfl (fun ls hl => ?_)
      refine lv_goto (tgt := 20) hx hb dX2_rest_83 (by decide) ?_
      exact ih (i + 1) (by omega) (hinv) _ _ _ hP hD hS (lv_sub hl [1, 2, 3, 4, 0] rfl)
    · have hP : va_P (dC, dI) vwCl (rpW a cA w h wa ma ka li hk sh T kd rd dp) H := hP
      have hD : va_D A (rpW a cA w h wa ma ka li hk sh T kd rd dp) := hD
      have hl : lv_has ls 6 [(0, .ref (a 0)), (1, .int (iI v)), (2, .int (iI k))] := hl
      have e9 := rsR_hit (n := w) hi9 hfact
      have e8 : rsF w ma wa v k (i + 1) q0 = rsR w ma wa v k ((i : Nat) : Int) (i9 + 1) (rsF w ma wa v k i q0) := e9
      refine z_top (b := (rsF w ma wa v k (i + 1) q0).2) (by rw [e8]) ?_
      exact kr i (by omega) hinv (by rw [e8]; exact hfact) _ _ _ hP hD hS (lv_sub hl [0, 1, 2] rfl)
set_option maxHeartbeats 4000000 in
set_option maxRecDepth 100000 in
theorem c_X2_rest (l : Launch) (hl9 : l.stackTraces = false) (dC : Nat → ClassId) (dI : Nat → Nat → Nat) (sz : Nat) (a : Nat → Nat) (cA : Nat → ClassId) (w h : Nat) (wa ma ka li : Nat → Int) (hk sh : Int) (T : TK) (kd rd : Nat → Int) (dp : Nat → Nat → Int) (v k : Int) (hw : 1 ≤ w ∧ w ≤ 20) (hh : 1 ≤ h ∧ h ≤ 20) (hwa : bd wa 0 1000) (hma : bd ma 0 1000) (h1 : rg v) (hk1 : rg k) : vx_Met l yX2_rest wsX2_rest r_X2_rest (zP (dC, dI) vwCl (rpT cA) (rpW a cA w h wa ma ka li hk sh T kd rd dp) sz [.ref (a 0), .int (iI v), .int (iI k)]) (zQi (dC, dI) vwCl (rpT cA) (rpW a cA w h wa ma ka li hk sh T kd rd dp) sz ((0 ≤ v ∧ v ≤ 1000) ∧ -1 ≤ k) (rsE k (rsF w ma wa v k h (0, -2))) (rpW a cA w h wa ma ka li hk sh T kd rd dp)) (zX (dC, dI) vwCl (rpT cA) (rpW a cA w h wa ma ka li hk sh T kd rd dp) sz (fun E => E = "java/lang/IllegalArgumentException" ∧ ¬ ((0 ≤ v ∧ v ≤ 1000) ∧ -1 ≤ k))) 2 12 (va_A (rpW a cA w h wa ma ka li hk sh T kd rd dp) sz) := by
  refine vx_ofW (cc := cX2_rest) (maxL := 6) (ret := (some .int)) (by decide) rfl ?_
  intro p e s m args below meth c s₁ B hml ht9 hv
  obtain ⟨rfl, hsz, hP, hK, hD0, hZ⟩ := hv
  have hx := B.exec
  have hb := B.bytes
  have hr := B.returns
  have hts0 := atoms_spec (ws := wsX2_rest) B.pre
  have hts : ∀ w ∈ wsAll, w.before _ s = true := fun w h => hts0 w (List.mem_cons_of_mem _ h)
  have hown : s.vm.findClass RX2 = some m.cls := findClass_of_methodNamed B.named
  have hlocks := B.notSynchronized
  subst hsz
  have hD := hD0.self (sz := s.heap.size)
  obtain ⟨A, hAe⟩ : ∃ A, A = va_A (rpW a cA w h wa ma ka li hk sh T kd rd dp) s.heap.size := ⟨_, rfl⟩
  rw [← hAe] at hD hZ
  have hA : ∀ q : Nat, s.heap.size ≤ q → A q := fun q h => by rw [hAe]; exact Or.inr h
  have hS : va_S A s.heap s.heap [] := va_S.rf
  have hP : va_P (dC, dI) vwCl (rpW a cA w h wa ma ka li hk sh T kd rd dp) s.heap := hP
  have hl := lv_entry ([.ref (a 0), .int (iI v), .int (iI k)]) (n := 6) (Nat.le_of_ble_eq_true rfl)
  rw [lg_entry_eq]
  generalize (lg_sl ([.ref (a 0), .int (iI v), .int (iI k)]) ++ List.replicate (6 - (lg_sl ([.ref (a 0), .int (iI v), .int (iI k)])).length) Slot.unset).toArray = ls at hl ⊢
  have hl : lv_has ls 6 [(0, .ref (a 0)), (1, .int (iI v)), (2, .int (iI k))] := hl
  refine lv_iload_n hx hb dX2_rest_0 rfl (lv_at hl 1 rfl) ?_
  refine lv_iconst (v := iI 0) hx hb dX2_rest_1 rfl ?_
  refine lv_sipush (v := iI 1000) hx hb dX2_rest_2 (by decide) ?_
  refine z_xrcallv (vx_runS (As := [.int (iI v), .int (iI 0), .int (iI 1000)]) (rest := []) ⟨hx, hb, hml, hown, hts⟩ (c_X2_needWithin l hl9 dC dI (s.heap).size v 0 1000 (by omega) (by omega) (by omega)) (va_cwS 3 hts g_X2_64 rfl rfl rfl (by decide +kernel) ⟨Nat.le_of_ble_eq_true rfl, Nat.le_of_ble_eq_true rfl⟩) (zP_S z_P0 (hK.sub [] rfl) z_D0 hS (z_free0 hS hA) hZ) rfl rfl hl.1 rfl (lv_room (Nat.le_of_ble_eq_true rfl)) dX2_rest_5 ⟨Nat.le_of_ble_eq_true rfl, Nat.le_of_ble_eq_true rfl⟩) hP hD hS (z_free0 hS hA) (fun _ h => by cases h) (fun E ce q9 H locs hE hP hS _ h7 h8 h9 => by subst hAe; exact z_xout ht9 hlocks h7 h8 h9 (⟨hE.1, fun z9 => hE.2 z9.1⟩) hP hK hD hS (Nat.le_of_ble_eq_true rfl) (Nat.le_of_ble_eq_true rfl)) (fun H locs hok5 hP hD hS _ => ?_)
  refine lv_iload_n hx hb dX2_rest_8 rfl (lv_at hl 2 rfl) ?_
  refine lv_iconst (v := iI (-1)) hx hb dX2_rest_9 rfl ?_
  refine z_ldc (x := 2147483647) hx hb hown (hts _ wm_354) (by decide) dX2_rest_10 ?_
  refine z_xrcallv (vx_runS (As := [.int (iI k), .int (iI (-1)), .int (iI 2147483647)]) (rest := []) ⟨hx, hb, hml, hown, hts⟩ (c_X2_needWithin l hl9 dC dI (H).size k (-1) 2147483647 (by omega) (by omega) (by omega)) (va_cwS 3 hts g_X2_64 rfl rfl rfl (by decide +kernel) ⟨Nat.le_of_ble_eq_true rfl, Nat.le_of_ble_eq_true rfl⟩) (zP_S z_P0 (hK.sub [] rfl) z_D0 hS (z_free0 hS hA) hZ) rfl rfl hl.1 rfl (lv_room (Nat.le_of_ble_eq_true rfl)) dX2_rest_12 ⟨Nat.le_of_ble_eq_true rfl, Nat.le_of_ble_eq_true rfl⟩) hP hD hS (z_free0 hS hA) (fun _ h => by cases h) (fun E ce q9 H locs hE hP hS _ h7 h8 h9 => by subst hAe; exact z_xout ht9 hlocks h7 h8 h9 (⟨hE.1, fun z9 => hE.2 ⟨z9.2, by omega⟩⟩) hP hK hD hS (Nat.le_of_ble_eq_true rfl) (Nat.le_of_ble_eq_true rfl)) (fun H locs hok12 hP hD hS _ => ?_)
  refine lv_iconst (v := iI 0) hx hb dX2_rest_15 rfl ?_
  refine lv_istore_n (lv' := [(3, .int (iI 0)), (0, .ref (a 0)), (1, .int (iI v)), (2, .int (iI k))]) hx hb dX2_rest_16 rfl hl (by decide) rfl (fun ls hl => ?_)
  refine lv_iconst (v := iI 0) hx hb dX2_rest_17 rfl ?_
  refine lv_istore (lv' := [(4, .int (iI 0)), (3, .int (iI 0)), (0, .ref (a 0)), (1, .int (iI v)), (2, .int (iI k))]) hx hb dX2_rest_18 hl (by decide) rfl (fun ls hl => ?_)
  refine lp_X2_rest_20 a cA w h wa ma ka li hk sh T kd rd dp v k (0, -2) hx hb hml hown hts hA hZ hK (hw) (hh) (hwa) (hma) (hok5) (hk1) (by decide) (fun hinv H locs ls hP hD hS hl => ?_) (fun i9 hi9 hinv9 hfact H locs ls hP hD hS hl => ?_) h 0 (by omega) (rfl) _ _ _ hP hD hS (lv_sub hl [2, 3, 4, 1, 0] rfl)
  · have hP : va_P (dC, dI) vwCl (rpW a cA w h wa ma ka li hk sh T kd rd dp) H := hP
    have hD : va_D A (rpW a cA w h wa ma ka li hk sh T kd rd dp) := hD
    have hl : lv_has ls 6 [(0, .ref (a 0)), (1, .int (iI v)), (2, .int (iI k)), (3, .int (iI ((rsF w ma wa v k h (0, -2)).1))), (4, .int (iI ((h : Nat) : Int)))] := hl
    refine lv_iload_n hx hb dX2_rest_86 rfl (lv_at hl 2 rfl) ?_
    refine lv_iconst (v := iI (-1)) hx hb dX2_rest_87 rfl ?_
    refine z_icmp_ne (tgt := 95) hx hb dX2_rest_88 (by decide) (by omega) (by omega) (fun c88 => ?_) (fun c88 => ?_)
    · refine lv_iconst (v := iI (-1)) hx hb dX2_rest_95 rfl ?_
      refine vx_ret ?_
      subst hAe
      refine z_top (b := rsE k (rsF w ma wa v k h (0, -2))) (by unfold rsE; rw [if_pos hinv]; split <;> first | rfl | (exfalso; omega)) ?_
      exact z_iret hx hb hr hlocks hP hK hD hS (⟨hok5, hok12.1⟩) dX2_rest_96
    · refine lv_iload_n hx hb dX2_rest_91 rfl (lv_at hl 3 rfl) ?_
      refine lv_goto (tgt := 96) hx hb dX2_rest_92 (by decide) ?_
      refine vx_ret ?_
      subst hAe
      refine z_top (b := rsE k (rsF w ma wa v k h (0, -2))) (by unfold rsE; rw [if_pos hinv]; split <;> first | rfl | (exfalso; omega)) ?_
      exact z_iret hx hb hr hlocks hP hK hD hS (⟨hok5, hok12.1⟩) dX2_rest_96
  · have hP : va_P (dC, dI) vwCl (rpW a cA w h wa ma ka li hk sh T kd rd dp) H := hP
    have hD : va_D A (rpW a cA w h wa ma ka li hk sh T kd rd dp) := hD
    have hl : lv_has ls 6 [(0, .ref (a 0)), (1, .int (iI v)), (2, .int (iI k))] := hl
    refine vx_ret ?_
    subst hAe
    refine z_top (b := rsE k (rsF w ma wa v k h (0, -2))) (by rw [rsF_hit hi9 hfact]; unfold rsE; rw [if_neg hfact]) ?_
    exact z_iret hx hb hr hlocks hP hK hD hS (⟨hok5, hok12.1⟩) dX2_rest_70
