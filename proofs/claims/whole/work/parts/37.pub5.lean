abbrev r_X2_repeat : Room := { frames := 7, cells := 2, slots := 12, locals := 113 }
set_option maxHeartbeats 4000000 in
set_option maxRecDepth 100000 in
theorem lp_X2_repeat_31 {p : Program} {l : Launch} {e : Env} {s : State} {m : MethodId} {args : Array Value} {below : List Frame} {meth : Method} {c : Code} {Q : State → Prop} {A : Nat → Prop} {dC : Nat → ClassId} {dI : Nat → Nat → Nat} (a : Nat → Nat) (cA : Nat → ClassId) (w h : Nat) (ma ka li : Nat → Int) (hk sh : Int) (T : TK) (kd rd : Nat → Int) (dp : Nat → Nat → Int) (q0 : (Nat → Int) × Int) (dx dy u : Int) (hx : p.tables.exec = Jvm.exec) (hb : c.code = cX2_repeat) (hml : c.maxLocals = 6) (hown : s.vm.findClass RX2 = some m.cls) (hts : ∀ w ∈ wsAll, w.before args s = true) (hA : ∀ q : Nat, s.heap.size ≤ q → A q) (hZ : zZ A s s.heap) (hK : va_K (dC, dI) vwCl (rpT cA) s) (hw : 1 ≤ w ∧ w ≤ 20) (hh : 1 ≤ h ∧ h ≤ 20) (hdx : 1 ≤ dx ∧ dx ≤ 20) (hdy : 1 ≤ dy ∧ dy ≤ 20) (hq1 : bd q0.1 0 1000) (hq2 : 0 ≤ q0.2 ∧ q0.2 ≤ 100000) (hu : 0 ≤ u ∧ u < (h : Int)) (kk : ∀ (H : Heap) (locs : List Loc) (ls : Array Slot), va_P (dC, dI) vwCl (rpW a cA w h ((rpR w dx dy u w q0).1) ma ka li hk sh T kd rd dp) H → va_D A (rpW a cA w h ((rpR w dx dy u w q0).1) ma ka li hk sh T kd rd dp) → va_S A s.heap H locs → lv_has ls 6 [(0, .ref (a 0)), (1, .int (iI dx)), (2, .int (iI dy)), (3, .int (iI ((rpR w dx dy u w q0).2))), (4, .int (iI u)), (5, .int (iI ((w : Nat) : Int)))] → W p l e r_X2_repeat s m args below meth c H locs 2 12 Q (F0 m 81 ls [])) : ∀ (n i : Nat), i + n = w → ∀ (H : Heap) (locs : List Loc) (ls : Array Slot), va_P (dC, dI) vwCl (rpW a cA w h ((rpR w dx dy u i q0).1) ma ka li hk sh T kd rd dp) H → va_D A (rpW a cA w h ((rpR w dx dy u i q0).1) ma ka li hk sh T kd rd dp) → va_S A s.heap H locs → lv_has ls 6 [(0, .ref (a 0)), (1, .int (iI dx)), (2, .int (iI dy)), (3, .int (iI ((rpR w dx dy u i q0).2))), (4, .int (iI u)), (5, .int (iI ((i : Nat) : Int)))] → W p l e r_X2_repeat s m args below meth c H locs 2 12 Q (F0 m 31 ls []) := by
  intro n
  induction n with
  | zero =>
    intro i hi H locs ls hP hD hS hl
    have hi9 : w = i := by omega
    subst hi9
    refine lv_iload hx hb dX2_repeat_31 (lv_at hl 5 rfl) ?_
    refine lv_aload_n hx hb dX2_repeat_33 rfl (lv_at hl 0 rfl) ?_
    refine va_get (D := (dC, dI)) (ci := 2) (v := .int (iI (w : Int))) (C := RX2) (T := TX2) (N := 10) hx hb hts inX2 hown hK hP 0 rfl rfl 0 (by decide) (hts _ wm_171) (fun _ h9 => h9) rfl dX2_repeat_34 ?_
    refine z_icmp_ge (tgt := 81) hx hb dX2_repeat_37 (by decide) (by omega) (by omega) (fun c37 => ?_) (fun c37 => by exfalso; omega)
    exact kk _ _ _ hP hD hS (lv_sub hl [0, 1, 2, 3, 4, 5] rfl)
  | succ n ih =>
    intro i hi H locs ls hP hD hS hl
    have hwh := z_wh hw.2 hh.2
    have hQ := rpR_ok (w := w) (dx := dx) (dy := dy) (y := u) (n := i) (M := 100000) hq1 hq2
    have hwa := hQ.1
    have hm1 := z_mod (a := ((i : Nat) : Int)) (b := dx) (by omega) (by omega)
    have hm2 := z_mod (a := u) (b := dy) (by omega) (by omega)
    have hix := z_ix (w := w) (h := h) (x := ((i : Nat) : Int)) (y := u) (by omega) (by omega) hu.1 hu.2
    have hiy := z_ix (w := w) (h := h) (x := ((i : Nat) : Int) % dx) (y := u % dy) hm1.1 (by omega) hm2.1 (by omega)
    have hv9 := hwa ((u % dy) * (w : Int) + ((i : Nat) : Int) % dx).toNat
    refine lv_iload hx hb dX2_repeat_31 (lv_at hl 5 rfl) ?_
    refine lv_aload_n hx hb dX2_repeat_33 rfl (lv_at hl 0 rfl) ?_
    refine va_get (D := (dC, dI)) (ci := 2) (v := .int (iI (w : Int))) (C := RX2) (T := TX2) (N := 10) hx hb hts inX2 hown hK hP 0 rfl rfl 0 (by decide) (hts _ wm_171) (fun _ h9 => h9) rfl dX2_repeat_34 ?_
    refine z_icmp_ge (tgt := 81) hx hb dX2_repeat_37 (by decide) (by omega) (by omega) (fun c37 => by exfalso; omega) (fun c37 => ?_)
    refine lv_aload_n hx hb dX2_repeat_40 rfl (lv_at hl 0 rfl) ?_
    refine lv_aload_n hx hb dX2_repeat_41 rfl (lv_at hl 0 rfl) ?_
    refine lv_iload hx hb dX2_repeat_42 (lv_at hl 5 rfl) ?_
    refine lv_iload hx hb dX2_repeat_44 (lv_at hl 4 rfl) ?_
    have hFc := z_freeR (wc := rpW a cA w h ((rpR w dx dy u i q0).1) ma ka li hk sh T kd rd dp) (fun _ h => h) hD hS hA
    refine z_wcalli (va_runV (As := [.int (iI ((i : Nat) : Int)), .int (iI u)]) (rest := [.ref (a 0)]) ⟨hx, hb, hml, hown, hts⟩ (c_X2_placeAt l dC dI (H).size a cA w h ((rpR w dx dy u i q0).1) ma ka li hk sh T kd rd dp ((i : Nat) : Int) u) (cwV 2 hts g_X2_68 rfl rfl rfl (by decide +kernel) ⟨Nat.le_of_ble_eq_true rfl, Nat.le_of_ble_eq_true rfl⟩) (zP_V (ci := 2) (q0 := 0) rfl rfl hP hK hD hS hFc hZ) rfl rfl hl.1 rfl (lv_room (Nat.le_of_ble_eq_true rfl)) dX2_repeat_46 ⟨Nat.le_of_ble_eq_true rfl, Nat.le_of_ble_eq_true rfl⟩) hS hFc (fun H locs _ hP hD hS _ => ?_)
    have hP : va_P (dC, dI) vwCl (rpW a cA w h ((rpR w dx dy u i q0).1) ma ka li hk sh T kd rd dp) H := hP
    have hD : va_D A (rpW a cA w h ((rpR w dx dy u i q0).1) ma ka li hk sh T kd rd dp) := hD
    refine lv_aload_n hx hb dX2_repeat_49 rfl (lv_at hl 0 rfl) ?_
    refine va_get (D := (dC, dI)) (ci := 2) (v := .ref (a 1)) (C := RX2) (T := TX2) (N := 10) hx hb hts inX2 hown hK hP 0 rfl rfl 2 (by decide) (hts _ wm_173) (fun _ h9 => h9) rfl dX2_repeat_50 ?_
    refine lv_aload_n hx hb dX2_repeat_53 rfl (lv_at hl 0 rfl) ?_
    refine lv_iload hx hb dX2_repeat_54 (lv_at hl 5 rfl) ?_
    refine lv_iload_n hx hb dX2_repeat_56 rfl (lv_at hl 1 rfl) ?_
    refine z_rem hx hb dX2_repeat_57 (by omega) (by omega) ?_
    refine lv_iload hx hb dX2_repeat_58 (lv_at hl 4 rfl) ?_
    refine lv_iload_n hx hb dX2_repeat_60 rfl (lv_at hl 2 rfl) ?_
    refine z_rem hx hb dX2_repeat_61 (by omega) (by omega) ?_
    have hFc := z_freeR (wc := rpW a cA w h ((rpR w dx dy u i q0).1) ma ka li hk sh T kd rd dp) (fun _ h => h) hD hS hA
    refine z_wcalli (va_runV (As := [.int (iI (((i : Nat) : Int) % dx)), .int (iI (u % dy))]) (rest := [.ref (a 1), .int (iI (u * (w : Int) + ((i : Nat) : Int))), .ref (a 0)]) ⟨hx, hb, hml, hown, hts⟩ (c_X2_placeAt l dC dI (H).size a cA w h ((rpR w dx dy u i q0).1) ma ka li hk sh T kd rd dp (((i : Nat) : Int) % dx) (u % dy)) (cwV 2 hts g_X2_68 rfl rfl rfl (by decide +kernel) ⟨Nat.le_of_ble_eq_true rfl, Nat.le_of_ble_eq_true rfl⟩) (zP_V (ci := 2) (q0 := 0) rfl rfl hP hK hD hS hFc hZ) rfl rfl hl.1 rfl (lv_room (Nat.le_of_ble_eq_true rfl)) dX2_repeat_62 ⟨Nat.le_of_ble_eq_true rfl, Nat.le_of_ble_eq_true rfl⟩) hS hFc (fun H locs _ hP hD hS _ => ?_)
    have hP : va_P (dC, dI) vwCl (rpW a cA w h ((rpR w dx dy u i q0).1) ma ka li hk sh T kd rd dp) H := hP
    have hD : va_D A (rpW a cA w h ((rpR w dx dy u i q0).1) ma ka li hk sh T kd rd dp) := hD
    refine z_iald (f := (rpR w dx dy u i q0).1) (i := (u % dy) * (w : Int) + (((i : Nat) : Int) % dx)) hx hb hK hP 1 0 rfl rfl (hiy) (by omega) dX2_repeat_65 ?_
    have hFc := z_freeR (wc := rpW a cA w h ((rpR w dx dy u i q0).1) ma ka li hk sh T kd rd dp) (fun _ h => h) hD hS hA
    refine z_wcalli (va_runV (As := [.int (iI (u * (w : Int) + ((i : Nat) : Int))), .int (iI (((rpR w dx dy u i q0).1) ((u % dy) * (w : Int) + (((i : Nat) : Int) % dx)).toNat))]) (rest := []) ⟨hx, hb, hml, hown, hts⟩ (c_X2_setWanted l dC dI (H).size a cA w h ((rpR w dx dy u i q0).1) ma ka li hk sh T kd rd dp (u * (w : Int) + ((i : Nat) : Int)) (((rpR w dx dy u i q0).1) ((u % dy) * (w : Int) + (((i : Nat) : Int) % dx)).toNat) hw hh (hix) (by omega) (by have := hwa (u * (w : Int) + ((i : Nat) : Int)).toNat; omega)) (cwV 2 hts g_X2_72 rfl rfl rfl (by decide +kernel) ⟨Nat.le_of_ble_eq_true rfl, Nat.le_of_ble_eq_true rfl⟩) (zP_V (ci := 2) (q0 := 0) rfl rfl hP hK hD hS hFc hZ) rfl rfl hl.1 rfl (lv_room (Nat.le_of_ble_eq_true rfl)) dX2_repeat_66 ⟨Nat.le_of_ble_eq_true rfl, Nat.le_of_ble_eq_true rfl⟩) hS hFc (fun H locs _ hP hD hS _ => ?_)
    have hP : va_P (dC, dI) vwCl (rpW a cA w h (uI ((rpR w dx dy u i q0).1) (u * (w : Int) + ((i : Nat) : Int)).toNat (((rpR w dx dy u i q0).1) ((u % dy) * (w : Int) + (((i : Nat) : Int) % dx)).toNat)) ma ka li hk sh T kd rd dp) H := hP
    have hD : va_D A (rpW a cA w h (uI ((rpR w dx dy u i q0).1) (u * (w : Int) + ((i : Nat) : Int)).toNat (((rpR w dx dy u i q0).1) ((u % dy) * (w : Int) + (((i : Nat) : Int) % dx)).toNat)) ma ka li hk sh T kd rd dp) := hD
    refine z_if_eq (tgt := 75) hx hb dX2_repeat_69 (by decide) (ne01_rg _ _) (fun c69 => ?_) (fun c69 => ?_)
    · have c69 : ne01 ((rpR w dx dy u i q0).1 (u * (w : Int) + ((i : Nat) : Int)).toNat) ((rpR w dx dy u i q0).1 ((u % dy) * (w : Int) + ((i : Nat) : Int) % dx).toNat) = 0 := c69
      refine lv_iinc (v := iI (((i + 1) : Nat) : Int)) (lv' := [(5, .int (iI (((i + 1) : Nat) : Int))), (0, .ref (a 0)), (1, .int (iI dx)), (2, .int (iI dy)), (3, .int (iI ((rpR w dx dy u i q0).2))), (4, .int (iI u))]) hx hb dX2_repeat_75 hl (k := 5) rfl ((iI_add _ _).trans (congrArg iI (by omega))) (by decide) rfl (fun ls hl => ?_)
      refine lv_goto (tgt := 31) hx hb dX2_repeat_78 (by decide) ?_
      have e2 : (rpR w dx dy u (i + 1) q0).2 = (rpR w dx dy u i q0).2 := by
        show (rpR w dx dy u i q0).2 + ne01 ((rpR w dx dy u i q0).1 (u * (w : Int) + ((i : Nat) : Int)).toNat) ((rpR w dx dy u i q0).1 ((u % dy) * (w : Int) + ((i : Nat) : Int) % dx).toNat) = _
        have := ne01_01 ((rpR w dx dy u i q0).1 (u * (w : Int) + ((i : Nat) : Int)).toNat) ((rpR w dx dy u i q0).1 ((u % dy) * (w : Int) + ((i : Nat) : Int) % dx).toNat)
        omega
      exact ih (i + 1) (by omega) _ _ _ hP hD hS (by rw [e2]; exact lv_sub hl [1, 2, 3, 4, 5, 0] rfl)
    · have c69 : ¬ ne01 ((rpR w dx dy u i q0).1 (u * (w : Int) + ((i : Nat) : Int)).toNat) ((rpR w dx dy u i q0).1 ((u % dy) * (w : Int) + ((i : Nat) : Int) % dx).toNat) = 0 := c69
      refine lv_iinc (v := iI ((rpR w dx dy u i q0).2 + 1)) (lv' := [(3, .int (iI ((rpR w dx dy u i q0).2 + 1))), (0, .ref (a 0)), (1, .int (iI dx)), (2, .int (iI dy)), (4, .int (iI u)), (5, .int (iI ((i : Nat) : Int)))]) hx hb dX2_repeat_72 hl (k := 3) rfl (iI_add _ _) (by decide) rfl (fun ls hl => ?_)
      refine lv_iinc (v := iI (((i + 1) : Nat) : Int)) (lv' := [(5, .int (iI (((i + 1) : Nat) : Int))), (3, .int (iI ((rpR w dx dy u i q0).2 + 1))), (0, .ref (a 0)), (1, .int (iI dx)), (2, .int (iI dy)), (4, .int (iI u))]) hx hb dX2_repeat_75 hl (k := 5) rfl ((iI_add _ _).trans (congrArg iI (by omega))) (by decide) rfl (fun ls hl => ?_)
      refine lv_goto (tgt := 31) hx hb dX2_repeat_78 (by decide) ?_
      have e2 : (rpR w dx dy u (i + 1) q0).2 = (rpR w dx dy u i q0).2 + 1 := by
        show (rpR w dx dy u i q0).2 + ne01 ((rpR w dx dy u i q0).1 (u * (w : Int) + ((i : Nat) : Int)).toNat) ((rpR w dx dy u i q0).1 ((u % dy) * (w : Int) + ((i : Nat) : Int) % dx).toNat) = _
        have := ne01_01 ((rpR w dx dy u i q0).1 (u * (w : Int) + ((i : Nat) : Int)).toNat) ((rpR w dx dy u i q0).1 ((u % dy) * (w : Int) + ((i : Nat) : Int) % dx).toNat)
        omega
      exact ih (i + 1) (by omega) _ _ _ hP hD hS (by rw [e2]; exact lv_sub hl [2, 3, 4, 1, 5, 0] rfl)
set_option maxHeartbeats 4000000 in
set_option maxRecDepth 100000 in
theorem lp_X2_repeat_19 {p : Program} {l : Launch} {e : Env} {s : State} {m : MethodId} {args : Array Value} {below : List Frame} {meth : Method} {c : Code} {Q : State → Prop} {A : Nat → Prop} {dC : Nat → ClassId} {dI : Nat → Nat → Nat} (a : Nat → Nat) (cA : Nat → ClassId) (w h : Nat) (ma ka li : Nat → Int) (hk sh : Int) (T : TK) (kd rd : Nat → Int) (dp : Nat → Nat → Int) (q0 : (Nat → Int) × Int) (dx dy : Int) (hx : p.tables.exec = Jvm.exec) (hb : c.code = cX2_repeat) (hml : c.maxLocals = 6) (hown : s.vm.findClass RX2 = some m.cls) (hts : ∀ w ∈ wsAll, w.before args s = true) (hA : ∀ q : Nat, s.heap.size ≤ q → A q) (hZ : zZ A s s.heap) (hK : va_K (dC, dI) vwCl (rpT cA) s) (hw : 1 ≤ w ∧ w ≤ 20) (hh : 1 ≤ h ∧ h ≤ 20) (hdx : 1 ≤ dx ∧ dx ≤ 20) (hdy : 1 ≤ dy ∧ dy ≤ 20) (hq1 : bd q0.1 0 1000) (hq2 : 0 ≤ q0.2 ∧ q0.2 ≤ 0) (kk : ∀ (H : Heap) (locs : List Loc) (ls : Array Slot), va_P (dC, dI) vwCl (rpW a cA w h ((rpF w dx dy h q0).1) ma ka li hk sh T kd rd dp) H → va_D A (rpW a cA w h ((rpF w dx dy h q0).1) ma ka li hk sh T kd rd dp) → va_S A s.heap H locs → lv_has ls 6 [(0, .ref (a 0)), (1, .int (iI dx)), (2, .int (iI dy)), (3, .int (iI ((rpF w dx dy h q0).2))), (4, .int (iI ((h : Nat) : Int)))] → W p l e r_X2_repeat s m args below meth c H locs 2 12 Q (F0 m 87 ls [])) : ∀ (n i : Nat), i + n = h → ∀ (H : Heap) (locs : List Loc) (ls : Array Slot), va_P (dC, dI) vwCl (rpW a cA w h ((rpF w dx dy i q0).1) ma ka li hk sh T kd rd dp) H → va_D A (rpW a cA w h ((rpF w dx dy i q0).1) ma ka li hk sh T kd rd dp) → va_S A s.heap H locs → lv_has ls 6 [(0, .ref (a 0)), (1, .int (iI dx)), (2, .int (iI dy)), (3, .int (iI ((rpF w dx dy i q0).2))), (4, .int (iI ((i : Nat) : Int)))] → W p l e r_X2_repeat s m args below meth c H locs 2 12 Q (F0 m 19 ls []) := by
  intro n
  induction n with
  | zero =>
    intro i hi H locs ls hP hD hS hl
    have hi9 : h = i := by omega
    subst hi9
    refine lv_iload hx hb dX2_repeat_19 (lv_at hl 4 rfl) ?_
    refine lv_aload_n hx hb dX2_repeat_21 rfl (lv_at hl 0 rfl) ?_
    refine va_get (D := (dC, dI)) (ci := 2) (v := .int (iI (h : Int))) (C := RX2) (T := TX2) (N := 10) hx hb hts inX2 hown hK hP 0 rfl rfl 1 (by decide) (hts _ wm_172) (fun _ h9 => h9) rfl dX2_repeat_22 ?_
    refine z_icmp_ge (tgt := 87) hx hb dX2_repeat_25 (by decide) (by omega) (by omega) (fun c25 => ?_) (fun c25 => by exfalso; omega)
    exact kk _ _ _ hP hD hS (lv_sub hl [0, 1, 2, 3, 4] rfl)
  | succ n ih =>
    intro i hi H locs ls hP hD hS hl
    have hQ := rpF_ok (w := w) (dx := dx) (dy := dy) (n := i) hw.2 hq1 hq2
    refine lv_iload hx hb dX2_repeat_19 (lv_at hl 4 rfl) ?_
    refine lv_aload_n hx hb dX2_repeat_21 rfl (lv_at hl 0 rfl) ?_
    refine va_get (D := (dC, dI)) (ci := 2) (v := .int (iI (h : Int))) (C := RX2) (T := TX2) (N := 10) hx hb hts inX2 hown hK hP 0 rfl rfl 1 (by decide) (hts _ wm_172) (fun _ h9 => h9) rfl dX2_repeat_22 ?_
    refine z_icmp_ge (tgt := 87) hx hb dX2_repeat_25 (by decide) (by omega) (by omega) (fun c25 => by exfalso; omega) (fun c25 => ?_)
    refine lv_iconst (v := iI 0) hx hb dX2_repeat_28 rfl ?_
    refine lv_istore (lv' := [(5, .int (iI 0)), (0, .ref (a 0)), (1, .int (iI dx)), (2, .int (iI dy)), (3, .int (iI ((rpF w dx dy i q0).2))), (4, .int (iI ((i : Nat) : Int)))]) hx hb dX2_repeat_29 hl (by decide) rfl (fun ls hl => ?_)
    refine lp_X2_repeat_31 a cA w h ma ka li hk sh T kd rd dp (rpF w dx dy i q0) dx dy ((i : Nat) : Int) hx hb hml hown hts hA hZ hK (hw) (hh) (hdx) (hdy) (hQ.1) (⟨hQ.2.1, by omega⟩) (by omega) (fun H locs ls hP hD hS hl => ?_)  w 0 (by omega) _ _ _ hP hD hS (lv_sub hl [1, 2, 3, 4, 5, 0] rfl)
    have hP : va_P (dC, dI) vwCl (rpW a cA w h ((rpR w dx dy ((i : Nat) : Int) w (rpF w dx dy i q0)).1) ma ka li hk sh T kd rd dp) H := hP
    have hD : va_D A (rpW a cA w h ((rpR w dx dy ((i : Nat) : Int) w (rpF w dx dy i q0)).1) ma ka li hk sh T kd rd dp) := hD
    have hl : lv_has ls 6 [(0, .ref (a 0)), (1, .int (iI dx)), (2, .int (iI dy)), (3, .int (iI ((rpR w dx dy ((i : Nat) : Int) w (rpF w dx dy i q0)).2))), (4, .int (iI ((i : Nat) : Int))), (5, .int (iI ((w : Nat) : Int)))] := hl
    refine lv_iinc (v := iI (((i + 1) : Nat) : Int)) (lv' := [(4, .int (iI (((i + 1) : Nat) : Int))), (0, .ref (a 0)), (1, .int (iI dx)), (2, .int (iI dy)), (3, .int (iI ((rpR w dx dy ((i : Nat) : Int) w (rpF w dx dy i q0)).2))), (5, .int (iI ((w : Nat) : Int)))]) hx hb dX2_repeat_81 hl (k := 4) rfl ((iI_add _ _).trans (congrArg iI (by omega))) (by decide) rfl (fun ls hl => ?_)
    refine lv_goto (tgt := 19) hx hb dX2_repeat_84 (by decide) ?_
    exact ih (i + 1) (by omega) _ _ _ hP hD hS (lv_sub hl [1, 2, 3, 4, 0] rfl)
set_option maxHeartbeats 4000000 in
set_option maxRecDepth 100000 in
theorem c_X2_repeat (l : Launch) (hl9 : l.stackTraces = false) (dC : Nat → ClassId) (dI : Nat → Nat → Nat) (sz : Nat) (a : Nat → Nat) (cA : Nat → ClassId) (w h : Nat) (wa ma ka li : Nat → Int) (hk sh : Int) (T : TK) (kd rd : Nat → Int) (dp : Nat → Nat → Int) (dx dy : Int) (hw : 1 ≤ w ∧ w ≤ 20) (hh : 1 ≤ h ∧ h ≤ 20) (hwa : bd wa 0 1000) (h1 : rg dx) (h2 : rg dy) : vx_Met l yX2_repeat wsX2_repeat r_X2_repeat (zP (dC, dI) vwCl (rpT cA) (rpW a cA w h wa ma ka li hk sh T kd rd dp) sz [.ref (a 0), .int (iI dx), .int (iI dy)]) (zQi (dC, dI) vwCl (rpT cA) (rpW a cA w h wa ma ka li hk sh T kd rd dp) sz ((1 ≤ dx ∧ dx ≤ 20) ∧ (1 ≤ dy ∧ dy ≤ 20)) ((rpF w dx dy h (wa, 0)).2) (rpW a cA w h ((rpF w dx dy h (wa, 0)).1) ma ka li hk sh T kd rd dp)) (zX (dC, dI) vwCl (rpT cA) (rpW a cA w h wa ma ka li hk sh T kd rd dp) sz (fun E => E = "java/lang/IllegalArgumentException" ∧ ¬ ((1 ≤ dx ∧ dx ≤ 20) ∧ (1 ≤ dy ∧ dy ≤ 20)))) 2 12 (va_A (rpW a cA w h wa ma ka li hk sh T kd rd dp) sz) := by
  refine vx_ofW (cc := cX2_repeat) (maxL := 6) (ret := (some .int)) (by decide) rfl ?_
  intro p e s m args below meth c s₁ B hml ht9 hv
  obtain ⟨rfl, hsz, hP, hK, hD0, hZ⟩ := hv
  have hx := B.exec
  have hb := B.bytes
  have hr := B.returns
  have hts0 := atoms_spec (ws := wsX2_repeat) B.pre
  have hts : ∀ w ∈ wsAll, w.before _ s = true := fun w h => hts0 w (List.mem_cons_of_mem _ h)
  have hown : s.vm.findClass RX2 = some m.cls := findClass_of_methodNamed B.named
  have hlocks := B.notSynchronized
  subst hsz
  have hD := hD0.self (sz := s.heap.size)
  obtain ⟨A, hAe⟩ : ∃ A, A = va_A (rpW a cA w h wa ma ka li hk sh T kd rd dp) s.heap.size := ⟨_, rfl⟩
  rw [← hAe] at hD hZ
  have hA : ∀ q : Nat, s.heap.size ≤ q → A q := fun q h => by rw [hAe]; exact Or.inr h
  have hS : va_S A s.heap s.heap [] := va_S.rf
  have hP : va_P (dC, dI) vwCl (rpW a cA w h wa ma ka li hk sh T kd rd dp) s.heap := hP
  have hl := lv_entry ([.ref (a 0), .int (iI dx), .int (iI dy)]) (n := 6) (Nat.le_of_ble_eq_true rfl)
  rw [lg_entry_eq]
  generalize (lg_sl ([.ref (a 0), .int (iI dx), .int (iI dy)]) ++ List.replicate (6 - (lg_sl ([.ref (a 0), .int (iI dx), .int (iI dy)])).length) Slot.unset).toArray = ls at hl ⊢
  have hl : lv_has ls 6 [(0, .ref (a 0)), (1, .int (iI dx)), (2, .int (iI dy))] := hl
  refine lv_iload_n hx hb dX2_repeat_0 rfl (lv_at hl 1 rfl) ?_
  refine lv_iconst (v := iI 1) hx hb dX2_repeat_1 rfl ?_
  refine lv_bipush (v := iI 20) hx hb dX2_repeat_2 (by decide) ?_
  refine z_xrcallv (vx_runS (As := [.int (iI dx), .int (iI 1), .int (iI 20)]) (rest := []) ⟨hx, hb, hml, hown, hts⟩ (c_X2_needWithin l hl9 dC dI (s.heap).size dx 1 20 (by omega) (by omega) (by omega)) (va_cwS 3 hts g_X2_64 rfl rfl rfl (by decide +kernel) ⟨Nat.le_of_ble_eq_true rfl, Nat.le_of_ble_eq_true rfl⟩) (zP_S z_P0 (hK.sub [] rfl) z_D0 hS (z_free0 hS hA) hZ) rfl rfl hl.1 rfl (lv_room (Nat.le_of_ble_eq_true rfl)) dX2_repeat_4 ⟨Nat.le_of_ble_eq_true rfl, Nat.le_of_ble_eq_true rfl⟩) hP hD hS (z_free0 hS hA) (fun _ h => by cases h) (fun E ce q9 H locs hE hP hS _ h7 h8 h9 => by subst hAe; exact z_xout ht9 hlocks h7 h8 h9 (⟨hE.1, fun z9 => hE.2 z9.1⟩) hP hK hD hS (Nat.le_of_ble_eq_true rfl) (Nat.le_of_ble_eq_true rfl)) (fun H locs hok4 hP hD hS _ => ?_)
  refine lv_iload_n hx hb dX2_repeat_7 rfl (lv_at hl 2 rfl) ?_
  refine lv_iconst (v := iI 1) hx hb dX2_repeat_8 rfl ?_
  refine lv_bipush (v := iI 20) hx hb dX2_repeat_9 (by decide) ?_
  refine z_xrcallv (vx_runS (As := [.int (iI dy), .int (iI 1), .int (iI 20)]) (rest := []) ⟨hx, hb, hml, hown, hts⟩ (c_X2_needWithin l hl9 dC dI (H).size dy 1 20 (by omega) (by omega) (by omega)) (va_cwS 3 hts g_X2_64 rfl rfl rfl (by decide +kernel) ⟨Nat.le_of_ble_eq_true rfl, Nat.le_of_ble_eq_true rfl⟩) (zP_S z_P0 (hK.sub [] rfl) z_D0 hS (z_free0 hS hA) hZ) rfl rfl hl.1 rfl (lv_room (Nat.le_of_ble_eq_true rfl)) dX2_repeat_11 ⟨Nat.le_of_ble_eq_true rfl, Nat.le_of_ble_eq_true rfl⟩) hP hD hS (z_free0 hS hA) (fun _ h => by cases h) (fun E ce q9 H locs hE hP hS _ h7 h8 h9 => by subst hAe; exact z_xout ht9 hlocks h7 h8 h9 (⟨hE.1, fun z9 => hE.2 z9.2⟩) hP hK hD hS (Nat.le_of_ble_eq_true rfl) (Nat.le_of_ble_eq_true rfl)) (fun H locs hok11 hP hD hS _ => ?_)
  refine lv_iconst (v := iI 0) hx hb dX2_repeat_14 rfl ?_
  refine lv_istore_n (lv' := [(3, .int (iI 0)), (0, .ref (a 0)), (1, .int (iI dx)), (2, .int (iI dy))]) hx hb dX2_repeat_15 rfl hl (by decide) rfl (fun ls hl => ?_)
  refine lv_iconst (v := iI 0) hx hb dX2_repeat_16 rfl ?_
  refine lv_istore (lv' := [(4, .int (iI 0)), (3, .int (iI 0)), (0, .ref (a 0)), (1, .int (iI dx)), (2, .int (iI dy))]) hx hb dX2_repeat_17 hl (by decide) rfl (fun ls hl => ?_)
  refine lp_X2_repeat_19 a cA w h ma ka li hk sh T kd rd dp (wa, 0) dx dy hx hb hml hown hts hA hZ hK (hw) (hh) (hok4) (hok11) (hwa) (⟨Int.le_refl 0, Int.le_refl 0⟩) (fun H locs ls hP hD hS hl => ?_)  h 0 (by omega) _ _ _ hP hD hS (lv_sub hl [2, 3, 4, 1, 0] rfl)
  have hP : va_P (dC, dI) vwCl (rpW a cA w h ((rpF w dx dy h (wa, 0)).1) ma ka li hk sh T kd rd dp) H := hP
  have hD : va_D A (rpW a cA w h ((rpF w dx dy h (wa, 0)).1) ma ka li hk sh T kd rd dp) := hD
  have hl : lv_has ls 6 [(0, .ref (a 0)), (1, .int (iI dx)), (2, .int (iI dy)), (3, .int (iI ((rpF w dx dy h (wa, 0)).2))), (4, .int (iI ((h : Nat) : Int)))] := hl
  refine lv_iload_n hx hb dX2_repeat_87 rfl (lv_at hl 3 rfl) ?_
  refine vx_ret ?_
  subst hAe
  exact z_iret hx hb hr hlocks hP hK hD hS (⟨hok4, hok11⟩) dX2_repeat_88
theorem g_X2_161 : GoodIn wsAll (va_wsS RX2 161 yX2_merged wsX2_merged) := z_good (show ∀ w ∈ (Cond.methodLink RX2 161 yX2_merged :: Cond.static yX2_merged :: Cond.initialized RX2 :: Cond.code yX2_merged prog_1_method_27_code 4 (some .int) :: wsAll), w ∈ wsAll from List.forall_mem_cons.mpr ⟨wm_392, List.forall_mem_cons.mpr ⟨wm_393, List.forall_mem_cons.mpr ⟨wm_109, List.forall_mem_cons.mpr ⟨wm_394, fun _ h => h⟩⟩⟩⟩)
abbrev r_X2_merge : Room := { frames := 7, cells := 3, slots := 18, locals := 113 }
set_option maxHeartbeats 4000000 in
set_option maxRecDepth 100000 in
theorem lp_X2_merge_65 {p : Program} {l : Launch} {e : Env} {s : State} {m : MethodId} {args : Array Value} {below : List Frame} {meth : Method} {c : Code} {Q : State → Prop} {A : Nat → Prop} {dC : Nat → ClassId} {dI : Nat → Nat → Nat} (a : Nat → Nat) (cA : Nat → ClassId) (w h : Nat) (ma ka li : Nat → Int) (hk sh : Int) (T : TK) (kd rd : Nat → Int) (dp : Nat → Nat → Int) (q0 : (Nat → Int) × Int) (u v : Int) (hx : p.tables.exec = Jvm.exec) (hb : c.code = cX2_merge) (hml : c.maxLocals = 5) (hown : s.vm.findClass RX2 = some m.cls) (hts : ∀ w ∈ wsAll, w.before args s = true) (hA : ∀ q : Nat, s.heap.size ≤ q → A q) (hZ : zZ A s s.heap) (hK : va_K (dC, dI) vwCl (rpT cA) s) (hw : 1 ≤ w ∧ w ≤ 20) (hh : 1 ≤ h ∧ h ≤ 20) (hka : bd ka 0 1000) (hu : 0 ≤ u ∧ u ≤ 3) (hv : 0 ≤ v ∧ v ≤ 1000) (hq1 : bd q0.1 0 1000) (hq2 : 0 ≤ q0.2 ∧ q0.2 ≤ 0) (kk : ∀ (H : Heap) (locs : List Loc) (ls : Array Slot), va_P (dC, dI) vwCl (rpW a cA w h ((mgL ka u v (w * h) q0).1) ma ka li hk sh T kd rd dp) H → va_D A (rpW a cA w h ((mgL ka u v (w * h) q0).1) ma ka li hk sh T kd rd dp) → va_S A s.heap H locs → lv_has ls 5 [(0, .ref (a 0)), (1, .int (iI u)), (2, .int (iI v)), (3, .int (iI ((mgL ka u v (w * h) q0).2))), (4, .int (iI ((w * h : Nat) : Int)))] → W p l e r_X2_merge s m args below meth c H locs 2 12 Q (F0 m 112 ls [])) : ∀ (n i : Nat), i + n = w * h → ∀ (H : Heap) (locs : List Loc) (ls : Array Slot), va_P (dC, dI) vwCl (rpW a cA w h ((mgL ka u v i q0).1) ma ka li hk sh T kd rd dp) H → va_D A (rpW a cA w h ((mgL ka u v i q0).1) ma ka li hk sh T kd rd dp) → va_S A s.heap H locs → lv_has ls 5 [(0, .ref (a 0)), (1, .int (iI u)), (2, .int (iI v)), (3, .int (iI ((mgL ka u v i q0).2))), (4, .int (iI ((i : Nat) : Int)))] → W p l e r_X2_merge s m args below meth c H locs 2 12 Q (F0 m 65 ls []) := by
  intro n
  induction n with
  | zero =>
    intro i hi H locs ls hP hD hS hl
    have hi9 : w * h = i := by omega
    subst hi9
    have hwh := z_wh hw.2 hh.2
    refine lv_iload hx hb dX2_merge_65 (lv_at hl 4 rfl) ?_
    refine lv_aload_n hx hb dX2_merge_67 rfl (lv_at hl 0 rfl) ?_
    refine va_get (D := (dC, dI)) (ci := 2) (v := .ref (a 1)) (C := RX2) (T := TX2) (N := 10) hx hb hts inX2 hown hK hP 0 rfl rfl 2 (by decide) (hts _ wm_173) (fun _ h9 => h9) rfl dX2_merge_68 ?_
    refine z_alen hx hb hK hP 1 0 rfl rfl dX2_merge_71 ?_
    refine z_top (b := ((w * h : Nat) : Int)) rfl ?_
    refine z_icmp_ge (tgt := 112) hx hb dX2_merge_72 (by decide) (by omega) (by omega) (fun c72 => ?_) (fun c72 => by exfalso; omega)
    exact kk _ _ _ hP hD hS (lv_sub hl [0, 1, 2, 3, 4] rfl)
  | succ n ih =>
    intro i hi H locs ls hP hD hS hl
    have hwh := z_wh hw.2 hh.2
    have hQ := mgL_ok (u := u) (v := v) (n := i) hka hq1 hq2
    have hwa := hQ.1
    have hb1 := hwa i
    have hb2 := hka i
    have hb3 := mgF_rg (u := u) (v := v) hb1 hb2
    have hix : 0 ≤ ((i : Nat) : Int) ∧ ((i : Nat) : Int) < ((w * h : Nat) : Int) := by omega
    refine lv_iload hx hb dX2_merge_65 (lv_at hl 4 rfl) ?_
    refine lv_aload_n hx hb dX2_merge_67 rfl (lv_at hl 0 rfl) ?_
    refine va_get (D := (dC, dI)) (ci := 2) (v := .ref (a 1)) (C := RX2) (T := TX2) (N := 10) hx hb hts inX2 hown hK hP 0 rfl rfl 2 (by decide) (hts _ wm_173) (fun _ h9 => h9) rfl dX2_merge_68 ?_
    refine z_alen hx hb hK hP 1 0 rfl rfl dX2_merge_71 ?_
    refine z_top (b := ((w * h : Nat) : Int)) rfl ?_
    refine z_icmp_ge (tgt := 112) hx hb dX2_merge_72 (by decide) (by omega) (by omega) (fun c72 => by exfalso; omega) (fun c72 => ?_)
    refine lv_aload_n hx hb dX2_merge_75 rfl (lv_at hl 0 rfl) ?_
    refine lv_iload hx hb dX2_merge_76 (lv_at hl 4 rfl) ?_
    refine lv_iload_n hx hb dX2_merge_78 rfl (lv_at hl 1 rfl) ?_
    refine lv_aload_n hx hb dX2_merge_79 rfl (lv_at hl 0 rfl) ?_
    refine va_get (D := (dC, dI)) (ci := 2) (v := .ref (a 1)) (C := RX2) (T := TX2) (N := 10) hx hb hts inX2 hown hK hP 0 rfl rfl 2 (by decide) (hts _ wm_173) (fun _ h9 => h9) rfl dX2_merge_80 ?_
    refine lv_iload hx hb dX2_merge_83 (lv_at hl 4 rfl) ?_
    refine z_iald (f := (mgL ka u v i q0).1) (i := ((i : Nat) : Int)) hx hb hK hP 1 0 rfl rfl (hix) (by omega) dX2_merge_85 ?_
    refine z_top (b := (mgL ka u v i q0).1 i) (rfl) ?_
    refine lv_aload_n hx hb dX2_merge_86 rfl (lv_at hl 0 rfl) ?_
    refine va_get (D := (dC, dI)) (ci := 2) (v := .ref (a 3)) (C := RX2) (T := TX2) (N := 10) hx hb hts inX2 hown hK hP 0 rfl rfl 4 (by decide) (hts _ wm_175) (fun _ h9 => h9) rfl dX2_merge_87 ?_
    refine lv_iload hx hb dX2_merge_90 (lv_at hl 4 rfl) ?_
    refine z_iald (f := ka) (i := ((i : Nat) : Int)) hx hb hK hP 3 2 rfl rfl (hix) (by omega) dX2_merge_92 ?_
    refine z_top (b := ka i) (rfl) ?_
    refine lv_iload_n hx hb dX2_merge_93 rfl (lv_at hl 2 rfl) ?_
    refine z_rcalli (va_runS (As := [.int (iI u), .int (iI ((mgL ka u v i q0).1 i)), .int (iI (ka i)), .int (iI v)]) (rest := [.int (iI ((i : Nat) : Int)), .ref (a 0)]) ⟨hx, hb, hml, hown, hts⟩ (c_X2_merged l dC dI (H).size u ((mgL ka u v i q0).1 i) (ka i) v (by omega) (by omega) (by omega) (by omega)) (va_cwS 4 hts g_X2_161 rfl rfl rfl (by decide +kernel) ⟨Nat.le_of_ble_eq_true rfl, Nat.le_of_ble_eq_true rfl⟩) (zP_S z_P0 (hK.sub [] rfl) z_D0 hS (z_free0 hS hA) hZ) rfl rfl hl.1 rfl (lv_room (Nat.le_of_ble_eq_true rfl)) dX2_merge_94 ⟨Nat.le_of_ble_eq_true rfl, Nat.le_of_ble_eq_true rfl⟩) hP hD hS (z_free0 hS hA) (fun _ h => by cases h) (fun H locs _ hP hD hS _ => ?_)
    have hFc := z_freeR (wc := rpW a cA w h ((mgL ka u v i q0).1) ma ka li hk sh T kd rd dp) (fun _ h => h) hD hS hA
    refine z_wcalli (va_runV (As := [.int (iI ((i : Nat) : Int)), .int (iI (mgF u ((mgL ka u v i q0).1 i) (ka i) v))]) (rest := []) ⟨hx, hb, hml, hown, hts⟩ (c_X2_setWanted l dC dI (H).size a cA w h ((mgL ka u v i q0).1) ma ka li hk sh T kd rd dp ((i : Nat) : Int) (mgF u ((mgL ka u v i q0).1 i) (ka i) v) hw hh (hix) (by omega) (by have := hwa ((i : Nat) : Int).toNat; omega)) (cwV 2 hts g_X2_72 rfl rfl rfl (by decide +kernel) ⟨Nat.le_of_ble_eq_true rfl, Nat.le_of_ble_eq_true rfl⟩) (zP_V (ci := 2) (q0 := 0) rfl rfl hP hK hD hS hFc hZ) rfl rfl hl.1 rfl (lv_room (Nat.le_of_ble_eq_true rfl)) dX2_merge_97 ⟨Nat.le_of_ble_eq_true rfl, Nat.le_of_ble_eq_true rfl⟩) hS hFc (fun H locs _ hP hD hS _ => ?_)
    have hP : va_P (dC, dI) vwCl (rpW a cA w h (uI ((mgL ka u v i q0).1) ((i : Nat) : Int).toNat (mgF u ((mgL ka u v i q0).1 i) (ka i) v)) ma ka li hk sh T kd rd dp) H := hP
    have hD : va_D A (rpW a cA w h (uI ((mgL ka u v i q0).1) ((i : Nat) : Int).toNat (mgF u ((mgL ka u v i q0).1 i) (ka i) v)) ma ka li hk sh T kd rd dp) := hD
    refine z_if_eq (tgt := 106) hx hb dX2_merge_100 (by decide) (ne01_rg _ _) (fun c100 => ?_) (fun c100 => ?_)
    · have c100 : ne01 ((mgL ka u v i q0).1 i) (mgF u ((mgL ka u v i q0).1 i) (ka i) v) = 0 := c100
      refine lv_iinc (v := iI (((i + 1) : Nat) : Int)) (lv' := [(4, .int (iI (((i + 1) : Nat) : Int))), (0, .ref (a 0)), (1, .int (iI u)), (2, .int (iI v)), (3, .int (iI ((mgL ka u v i q0).2)))]) hx hb dX2_merge_106 hl (k := 4) rfl ((iI_add _ _).trans (congrArg iI (by omega))) (by decide) rfl (fun ls hl => ?_)
      refine lv_goto (tgt := 65) hx hb dX2_merge_109 (by decide) ?_
      have e2 : (mgL ka u v (i + 1) q0).2 = (mgL ka u v i q0).2 := by
        show (mgL ka u v i q0).2 + ne01 ((mgL ka u v i q0).1 i) (mgF u ((mgL ka u v i q0).1 i) (ka i) v) = _
        have := ne01_01 ((mgL ka u v i q0).1 i) (mgF u ((mgL ka u v i q0).1 i) (ka i) v)
        omega
      exact ih (i + 1) (by omega) _ _ _ hP hD hS (by rw [e2]; exact lv_sub hl [1, 2, 3, 4, 0] rfl)
    · have c100 : ¬ ne01 ((mgL ka u v i q0).1 i) (mgF u ((mgL ka u v i q0).1 i) (ka i) v) = 0 := c100
      refine lv_iinc (v := iI ((mgL ka u v i q0).2 + 1)) (lv' := [(3, .int (iI ((mgL ka u v i q0).2 + 1))), (0, .ref (a 0)), (1, .int (iI u)), (2, .int (iI v)), (4, .int (iI ((i : Nat) : Int)))]) hx hb dX2_merge_103 hl (k := 3) rfl (iI_add _ _) (by decide) rfl (fun ls hl => ?_)
      refine lv_iinc (v := iI (((i + 1) : Nat) : Int)) (lv' := [(4, .int (iI (((i + 1) : Nat) : Int))), (3, .int (iI ((mgL ka u v i q0).2 + 1))), (0, .ref (a 0)), (1, .int (iI u)), (2, .int (iI v))]) hx hb dX2_merge_106 hl (k := 4) rfl ((iI_add _ _).trans (congrArg iI (by omega))) (by decide) rfl (fun ls hl => ?_)
      refine lv_goto (tgt := 65) hx hb dX2_merge_109 (by decide) ?_
      have e2 : (mgL ka u v (i + 1) q0).2 = (mgL ka u v i q0).2 + 1 := by
        show (mgL ka u v i q0).2 + ne01 ((mgL ka u v i q0).1 i) (mgF u ((mgL ka u v i q0).1 i) (ka i) v) = _
        have := ne01_01 ((mgL ka u v i q0).1 i) (mgF u ((mgL ka u v i q0).1 i) (ka i) v)
        omega
      exact ih (i + 1) (by omega) _ _ _ hP hD hS (by rw [e2]; exact lv_sub hl [2, 3, 4, 1, 0] rfl)
set_option maxHeartbeats 4000000 in
set_option maxRecDepth 100000 in
theorem c_X2_merge (l : Launch) (hl9 : l.stackTraces = false) (dC : Nat → ClassId) (dI : Nat → Nat → Nat) (sz : Nat) (a : Nat → Nat) (cA : Nat → ClassId) (w h : Nat) (wa ma ka li : Nat → Int) (hk sh : Int) (T : TK) (kd rd : Nat → Int) (dp : Nat → Nat → Int) (u v : Int) (hw : 1 ≤ w ∧ w ≤ 20) (hh : 1 ≤ h ∧ h ≤ 20) (hwa : bd wa 0 1000) (hka : bd ka 0 1000) (hk01 : hk = 0 ∨ hk = 1) (h1 : rg u) (h2 : rg v) : vx_Met l yX2_merge wsX2_merge r_X2_merge (zP (dC, dI) vwCl (rpT cA) (rpW a cA w h wa ma ka li hk sh T kd rd dp) sz [.ref (a 0), .int (iI u), .int (iI v)]) (zQi (dC, dI) vwCl (rpT cA) (rpW a cA w h wa ma ka li hk sh T kd rd dp) sz ((0 ≤ u ∧ u ≤ 3) ∧ (0 ≤ v ∧ v ≤ 1000) ∧ (u = 0 ∨ ¬ hk = 0)) (mrF wa ka u v (w * h)) (rpW a cA w h (mwF wa ka u v (w * h)) ma (mkF wa ka u (w * h)) li (mhF u hk) sh T kd rd dp)) (zX (dC, dI) vwCl (rpT cA) (rpW a cA w h wa ma ka li hk sh T kd rd dp) sz (fun E => (E = "java/lang/IllegalArgumentException" ∧ ¬ ((0 ≤ u ∧ u ≤ 3) ∧ (0 ≤ v ∧ v ≤ 1000))) ∨ (E = "java/lang/IllegalStateException" ∧ (0 ≤ u ∧ u ≤ 3) ∧ (0 ≤ v ∧ v ≤ 1000) ∧ ¬ u = 0 ∧ hk = 0))) 3 18 (va_A (rpW a cA w h wa ma ka li hk sh T kd rd dp) sz) := by
  refine vx_ofW (cc := cX2_merge) (maxL := 5) (ret := (some .int)) (by decide) rfl ?_
  intro p e s m args below meth c s₁ B hml ht9 hv
  obtain ⟨rfl, hsz, hP, hK, hD0, hZ⟩ := hv
  have hx := B.exec
  have hb := B.bytes
  have hr := B.returns
  have hts0 := atoms_spec (ws := wsX2_merge) B.pre
  have hts : ∀ w ∈ wsAll, w.before _ s = true := fun w h => hts0 w (List.mem_cons_of_mem _ h)
  have hown : s.vm.findClass RX2 = some m.cls := findClass_of_methodNamed B.named
  have hlocks := B.notSynchronized
  subst hsz
  have hD := hD0.self (sz := s.heap.size)
  obtain ⟨A, hAe⟩ : ∃ A, A = va_A (rpW a cA w h wa ma ka li hk sh T kd rd dp) s.heap.size := ⟨_, rfl⟩
  rw [← hAe] at hD hZ
  have hA : ∀ q : Nat, s.heap.size ≤ q → A q := fun q h => by rw [hAe]; exact Or.inr h
  have hS : va_S A s.heap s.heap [] := va_S.rf
  have hP : va_P (dC, dI) vwCl (rpW a cA w h wa ma ka li hk sh T kd rd dp) s.heap := hP
  have hl := lv_entry ([.ref (a 0), .int (iI u), .int (iI v)]) (n := 5) (Nat.le_of_ble_eq_true rfl)
  rw [lg_entry_eq]
  generalize (lg_sl ([.ref (a 0), .int (iI u), .int (iI v)]) ++ List.replicate (5 - (lg_sl ([.ref (a 0), .int (iI u), .int (iI v)])).length) Slot.unset).toArray = ls at hl ⊢
  have hl : lv_has ls 5 [(0, .ref (a 0)), (1, .int (iI u)), (2, .int (iI v))] := hl
  refine lv_iload_n hx hb dX2_merge_0 rfl (lv_at hl 1 rfl) ?_
  refine lv_iconst (v := iI 0) hx hb dX2_merge_1 rfl ?_
  refine lv_iconst (v := iI 3) hx hb dX2_merge_2 rfl ?_
  refine z_xrcallv (vx_runS (As := [.int (iI u), .int (iI 0), .int (iI 3)]) (rest := []) ⟨hx, hb, hml, hown, hts⟩ (c_X2_needWithin l hl9 dC dI (s.heap).size u 0 3 (by omega) (by omega) (by omega)) (va_cwS 3 hts g_X2_64 rfl rfl rfl (by decide +kernel) ⟨Nat.le_of_ble_eq_true rfl, Nat.le_of_ble_eq_true rfl⟩) (zP_S z_P0 (hK.sub [] rfl) z_D0 hS (z_free0 hS hA) hZ) rfl rfl hl.1 rfl (lv_room (Nat.le_of_ble_eq_true rfl)) dX2_merge_3 ⟨Nat.le_of_ble_eq_true rfl, Nat.le_of_ble_eq_true rfl⟩) hP hD hS (z_free0 hS hA) (fun _ h => by cases h) (fun E ce q9 H locs hE hP hS _ h7 h8 h9 => by subst hAe; exact z_xout ht9 hlocks h7 h8 h9 (Or.inl ⟨hE.1, fun z9 => hE.2 z9.1⟩) hP hK hD hS (Nat.le_of_ble_eq_true rfl) (Nat.le_of_ble_eq_true rfl)) (fun H locs hok3 hP hD hS _ => ?_)
  refine lv_iload_n hx hb dX2_merge_6 rfl (lv_at hl 2 rfl) ?_
  refine lv_iconst (v := iI 0) hx hb dX2_merge_7 rfl ?_
  refine lv_sipush (v := iI 1000) hx hb dX2_merge_8 (by decide) ?_
  refine z_xrcallv (vx_runS (As := [.int (iI v), .int (iI 0), .int (iI 1000)]) (rest := []) ⟨hx, hb, hml, hown, hts⟩ (c_X2_needWithin l hl9 dC dI (H).size v 0 1000 (by omega) (by omega) (by omega)) (va_cwS 3 hts g_X2_64 rfl rfl rfl (by decide +kernel) ⟨Nat.le_of_ble_eq_true rfl, Nat.le_of_ble_eq_true rfl⟩) (zP_S z_P0 (hK.sub [] rfl) z_D0 hS (z_free0 hS hA) hZ) rfl rfl hl.1 rfl (lv_room (Nat.le_of_ble_eq_true rfl)) dX2_merge_11 ⟨Nat.le_of_ble_eq_true rfl, Nat.le_of_ble_eq_true rfl⟩) hP hD hS (z_free0 hS hA) (fun _ h => by cases h) (fun E ce q9 H locs hE hP hS _ h7 h8 h9 => by subst hAe; exact z_xout ht9 hlocks h7 h8 h9 (Or.inl ⟨hE.1, fun z9 => hE.2 z9.2⟩) hP hK hD hS (Nat.le_of_ble_eq_true rfl) (Nat.le_of_ble_eq_true rfl)) (fun H locs hok11 hP hD hS _ => ?_)
  refine lv_iload_n hx hb dX2_merge_14 rfl (lv_at hl 1 rfl) ?_
  refine z_if_ne (tgt := 43) hx hb dX2_merge_15 (by decide) (by omega) (fun c15 => ?_) (fun c15 => ?_)
  · refine lv_aload_n hx hb dX2_merge_43 rfl (lv_at hl 0 rfl) ?_
    refine va_get (D := (dC, dI)) (ci := 2) (v := .int (iI hk)) (C := RX2) (T := TX2) (N := 10) hx hb hts inX2 hown hK hP 0 rfl rfl 8 (by decide) (hts _ wm_179) (fun _ h9 => h9) rfl dX2_merge_44 ?_
    refine z_if_ne (tgt := 60) hx hb dX2_merge_47 (by decide) (by omega) (fun c47 => ?_) (fun c47 => ?_)
    · refine lv_iconst (v := iI 0) hx hb dX2_merge_60 rfl ?_
      refine lv_istore_n (lv' := [(3, .int (iI 0)), (0, .ref (a 0)), (1, .int (iI u)), (2, .int (iI v))]) hx hb dX2_merge_61 rfl hl (by decide) rfl (fun ls hl => ?_)
      refine lv_iconst (v := iI 0) hx hb dX2_merge_62 rfl ?_
      refine lv_istore (lv' := [(4, .int (iI 0)), (3, .int (iI 0)), (0, .ref (a 0)), (1, .int (iI u)), (2, .int (iI v))]) hx hb dX2_merge_63 hl (by decide) rfl (fun ls hl => ?_)
      refine lp_X2_merge_65 a cA w h ma ka li hk sh T kd rd dp (wa, 0) u v hx hb hml hown hts hA hZ hK (hw) (hh) (hka) (hok3) (hok11) (hwa) (⟨Int.le_refl 0, Int.le_refl 0⟩) (fun H locs ls hP hD hS hl => ?_)  (w * h) 0 (by omega) _ _ _ hP hD hS (lv_sub hl [2, 3, 4, 1, 0] rfl)
      have hP : va_P (dC, dI) vwCl (rpW a cA w h ((mgL ka u v (w * h) (wa, 0)).1) ma ka li hk sh T kd rd dp) H := hP
      have hD : va_D A (rpW a cA w h ((mgL ka u v (w * h) (wa, 0)).1) ma ka li hk sh T kd rd dp) := hD
      have hl : lv_has ls 5 [(0, .ref (a 0)), (1, .int (iI u)), (2, .int (iI v)), (3, .int (iI ((mgL ka u v (w * h) (wa, 0)).2))), (4, .int (iI ((w * h : Nat) : Int)))] := hl
      refine lv_iload_n hx hb dX2_merge_112 rfl (lv_at hl 3 rfl) ?_
      refine W.widen (k := 3) (n := 18) (by omega) (by omega) ?_
      refine vx_ret ?_
      subst hAe
      rw [show mwF wa ka u v (w * h) = (mgL ka u v (w * h) (wa, 0)).1 from if_neg c15, show mkF wa ka u (w * h) = ka from if_neg c15, show mhF u hk = hk from if_neg c15]
      refine z_top (b := mrF wa ka u v (w * h)) ((if_neg c15).symm) ?_
      exact z_iret hx hb hr hlocks hP hK hD hS (⟨hok3, hok11, Or.inr c47⟩) dX2_merge_113
    · obtain ⟨sa9, hsa9⟩ := hZ.2.1 (RX2, 159, "no heights were kept") (by decide +kernel)
      subst hAe
      exact vx_throwS (own := RX2) (cls := "java/lang/IllegalStateException") (names := ["java/lang/RuntimeException", "java/lang/Exception"]) hx hb hl9 hown (by decide +kernel) (by decide +kernel) (hts _ wm_87) (hts _ wm_5) hsa9 (vx_hat (L := vx_atS RX2 91 "java/lang/IllegalStateException" ["java/lang/RuntimeException", "java/lang/Exception"]) (B := [.castable "java/lang/IllegalStateException" "java/lang/IllegalStateException", .declares ⟨"java/lang/RuntimeException", "<init>", "(Ljava/lang/String;)V"⟩, .declares ⟨"java/lang/Exception", "<init>", "(Ljava/lang/String;)V"⟩, .declares ⟨"java/lang/Throwable", "<init>", "(Ljava/lang/String;)V"⟩]) (fun w hw => hts w (wsE_in w ((by decide +kernel : ∀ w ∈ (vx_atS RX2 91 "java/lang/IllegalStateException" ["java/lang/RuntimeException", "java/lang/Exception"]).filter goodWord, w ∈ wsE) w hw))) (by decide +kernel) (vx_c (va_Nw.use rfl (hZ.1 (.castable "java/lang/IllegalStateException" "java/lang/IllegalStateException") (by decide +kernel))) (vx_c (va_Nw.use rfl (hZ.1 (.declares ⟨"java/lang/RuntimeException", "<init>", "(Ljava/lang/String;)V"⟩) (by decide +kernel))) (vx_c (va_Nw.use rfl (hZ.1 (.declares ⟨"java/lang/Exception", "<init>", "(Ljava/lang/String;)V"⟩) (by decide +kernel))) (vx_c (va_Nw.use rfl (hZ.1 (.declares ⟨"java/lang/Throwable", "<init>", "(Ljava/lang/String;)V"⟩) (by decide +kernel))) (vx_n)))))) (by decide +kernel) hZ.2.2.2.1 hZ.2.2.2.2 hS (hl.1.trans hml.symm) dX2_merge_50 dX2_merge_53 dX2_merge_54 dX2_merge_56 dX2_merge_59 (fun x h => (ht9 x h).elim) (Nat.le_of_ble_eq_true rfl) (Nat.le_of_ble_eq_true rfl) (Nat.le_of_ble_eq_true rfl) (Nat.le_of_ble_eq_true rfl) hlocks (z_xnew (Or.inr ⟨rfl, hok3, hok11, c15, c47⟩) hP hK hD hS) hS.2.2 (Nat.le_of_ble_eq_true rfl) (Nat.le_of_ble_eq_true rfl)
  · refine lv_aload_n hx hb dX2_merge_18 rfl (lv_at hl 0 rfl) ?_
    refine va_get (D := (dC, dI)) (ci := 2) (v := .ref (a 1)) (C := RX2) (T := TX2) (N := 10) hx hb hts inX2 hown hK hP 0 rfl rfl 2 (by decide) (hts _ wm_173) (fun _ h9 => h9) rfl dX2_merge_19 ?_
    refine lv_iconst (v := iI 0) hx hb dX2_merge_22 rfl ?_
    refine lv_aload_n hx hb dX2_merge_23 rfl (lv_at hl 0 rfl) ?_
    refine va_get (D := (dC, dI)) (ci := 2) (v := .ref (a 3)) (C := RX2) (T := TX2) (N := 10) hx hb hts inX2 hown hK hP 0 rfl rfl 4 (by decide) (hts _ wm_175) (fun _ h9 => h9) rfl dX2_merge_24 ?_
    refine lv_iconst (v := iI 0) hx hb dX2_merge_27 rfl ?_
    refine lv_aload_n hx hb dX2_merge_28 rfl (lv_at hl 0 rfl) ?_
    refine va_get (D := (dC, dI)) (ci := 2) (v := .ref (a 1)) (C := RX2) (T := TX2) (N := 10) hx hb hts inX2 hown hK hP 0 rfl rfl 2 (by decide) (hts _ wm_173) (fun _ h9 => h9) rfl dX2_merge_29 ?_
    refine z_alen hx hb hK hP 1 0 rfl rfl dX2_merge_32 ?_
    refine z_top (b := ((w * h : Nat) : Int)) rfl ?_
    refine z_copy (f := wa) (g := ka) hx hb (hml.trans hl.1.symm) hown (hts _ wm_101) (hts _ wm_103) (hts _ wm_102) (hts _ wm_115) hK hP hD hS 1 3 0 2 rfl rfl rfl rfl (by have := z_wh hw.2 hh.2; omega) (Nat.le_of_ble_eq_true rfl) (Nat.le_of_ble_eq_true rfl) dX2_merge_33 (fun H locs hP hD hS => ?_)
    have hP : va_P (dC, dI) vwCl (rpW a cA w h wa ma (cpI wa ka (w * h)) li hk sh T kd rd dp) H := hP
    have hD : va_D A (rpW a cA w h wa ma (cpI wa ka (w * h)) li hk sh T kd rd dp) := hD
    refine lv_aload_n hx hb dX2_merge_36 rfl (lv_at hl 0 rfl) ?_
    refine lv_iconst (v := iI 1) hx hb dX2_merge_37 rfl ?_
    refine va_put (D := (dC, dI)) (ci := 2) (v := .int (iI 1)) (ty := .boolean) (C := RX2) (T := TX2) (N := 10) hx hb hts inX2 tyX2 tyX2_ok nmX2 hown hK hP hD hS 0 rfl rfl 8 (by decide) (hts _ wm_179) (fun _ h9 => h9) rfl (by decide +kernel) rfl rfl (Nat.le_of_ble_eq_true rfl) dX2_merge_38 (fun H locs hP hD hS => ?_)
    have hP : va_P (dC, dI) vwCl (rpW a cA w h wa ma (cpI wa ka (w * h)) li 1 sh T kd rd dp) H := hP
    have hD : va_D A (rpW a cA w h wa ma (cpI wa ka (w * h)) li 1 sh T kd rd dp) := hD
    refine lv_iconst (v := iI 0) hx hb dX2_merge_41 rfl ?_
    refine W.widen (k := 3) (n := 18) (by omega) (by omega) ?_
    refine vx_ret ?_
    subst hAe
    rw [show mwF wa ka u v (w * h) = wa from if_pos c15, show mkF wa ka u (w * h) = cpI wa ka (w * h) from if_pos c15, show mhF u hk = 1 from if_pos c15]
    refine z_top (b := mrF wa ka u v (w * h)) ((if_pos c15).symm) ?_
    exact z_iret hx hb hr hlocks hP hK hD hS (⟨hok3, hok11, Or.inl c15⟩) dX2_merge_42
